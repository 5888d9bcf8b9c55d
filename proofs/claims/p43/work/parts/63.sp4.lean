/-! contracts of methods, walked -/
/-- is a kind under another one -/
def hUn (a b : Int) : Prop := b = a ∨ b = 0 ∨ (a = 3 ∧ b = 2) ∨ (a = 4 ∧ b = 1) ∨ (a = 5 ∧ (b = 3 ∨ b = 2)) ∨ (a = 7 ∧ (b = 4 ∨ b = 1))
theorem s_isUnder0 {ro : List (List Int32)} {n d : Nat} {p : xH} {Q : Option Value → xH → Prop} {y : Int32} {yi : Int} (hro : jro ro) (hy : y.toInt = yi) (pre0 : 0 ≤ yi) (pre1 : yi < 8) (k0 : (hUn 0 yi) → Q (some (.int (1))) p) (k1 : (¬ hUn 0 yi) → Q (some (.int (0))) p) : hP ro n d (9, 4, 0, 2, k109) 0 (lv_args 0 [.int 0, .int y]) [] p Q := by
  subst hy
  refine hp_id (ls := [(0, .int 0), (1, .int y)]) ?_
  refine hp_s (pc' := 1) (st' := [.int 0]) rfl rfl rfl ?_
  refine hp_s (pc' := 2) (ls' := [(2, .int 0), (0, .int 0), (1, .int y)]) (st' := []) rfl rfl rfl ?_
  refine hp_s (pc' := 3) (st' := [.int 0]) rfl rfl rfl ?_
  refine hp_s (pc' := 4) (ls' := [(3, .int 0), (2, .int 0), (0, .int 0), (1, .int y)]) (st' := []) rfl rfl rfl ?_
  refine hp_s (pc' := 5) (st' := [.int 0]) rfl rfl rfl ?_
  refine hp_s (pc' := 7) (st' := [.int 8, .int 0]) rfl rfl rfl ?_
  refine hp_go (pc' := 10) rfl rfl rfl ?_
  refine hp_s (pc' := 11) (st' := [.int 0]) rfl rfl rfl ?_
  refine hp_s (pc' := 12) (st' := [.int y, .int 0]) rfl rfl rfl ?_
  refine hp_ic (pc' := 15) (t := 27) (a := 0) (b := y.toInt) rfl rfl rfl (by decide) rfl (fun (h1 : 0 = y.toInt) => ?_) (fun (h2 : ¬ (0 = y.toInt)) => ?_)
  ·
    refine hp_s (pc' := 28) (st' := [.int 0]) rfl rfl rfl ?_
    refine hp_s (pc' := 29) (st' := [.int y, .int 0]) rfl rfl rfl ?_
    refine hp_ic (pc' := 32) (t := 36) (a := 0) (b := y.toInt) rfl rfl rfl (by decide) rfl (fun (h3 : 0 ≠ y.toInt) => ?_) (fun (h4 : ¬ (0 ≠ y.toInt)) => ?_)
    ·
      refine hp_s (pc' := 37) (st' := [.int 0]) rfl rfl rfl ?_
      refine hp_rb rfl rfl (fun _ => ?_)
      first | (exact k1 (by first | assumption | (unfold hUn; omega))) | (exfalso; omega)
    ·
      refine hp_s (pc' := 33) (st' := [.int 1]) rfl rfl rfl ?_
      refine hp_go (pc' := 37) rfl rfl rfl ?_
      refine hp_rb rfl rfl (fun _ => ?_)
      first | (exact k0 (by first | assumption | (unfold hUn; omega))) | (exfalso; omega)
  ·
    refine hp_sta (k := 1) (pc' := 18) rfl rfl rfl ?_
    refine hp_s (pc' := 19) (st' := [.int 0, .retAddr 1]) rfl rfl rfl ?_
    refine hp_lds (v := 0) hro.1 rfl rfl (by decide +kernel) ?_
    intro g1a g1b
    refine hp_s (pc' := 21) (ls' := [(2, .int 0), (3, .int 0), (0, .int 0), (1, .int y)]) (st' := []) rfl rfl rfl ?_
    refine hp_s (pc' := 24) (ls' := [(3, .int 1), (2, .int 0), (0, .int 0), (1, .int y)]) (st' := []) rfl rfl rfl ?_
    refine hp_go (pc' := 4) rfl rfl rfl ?_
    refine hp_s (pc' := 5) (st' := [.int 1]) rfl rfl rfl ?_
    refine hp_s (pc' := 7) (st' := [.int 8, .int 1]) rfl rfl rfl ?_
    refine hp_go (pc' := 10) rfl rfl rfl ?_
    refine hp_s (pc' := 11) (st' := [.int 0]) rfl rfl rfl ?_
    refine hp_s (pc' := 12) (st' := [.int y, .int 0]) rfl rfl rfl ?_
    refine hp_ic (pc' := 15) (t := 27) (a := 0) (b := y.toInt) rfl rfl rfl (by decide) rfl (fun (h5 : 0 = y.toInt) => ?_) (fun (h6 : ¬ (0 = y.toInt)) => ?_)
    ·
      refine hp_s (pc' := 28) (st' := [.int 0]) rfl rfl rfl ?_
      refine hp_s (pc' := 29) (st' := [.int y, .int 0]) rfl rfl rfl ?_
      refine hp_ic (pc' := 32) (t := 36) (a := 0) (b := y.toInt) rfl rfl rfl (by decide) rfl (fun (h7 : 0 ≠ y.toInt) => ?_) (fun (h8 : ¬ (0 ≠ y.toInt)) => ?_)
      ·
        refine hp_s (pc' := 37) (st' := [.int 0]) rfl rfl rfl ?_
        refine hp_rb rfl rfl (fun _ => ?_)
        first | (exact k1 (by first | assumption | (unfold hUn; omega))) | (exfalso; omega)
      ·
        refine hp_s (pc' := 33) (st' := [.int 1]) rfl rfl rfl ?_
        refine hp_go (pc' := 37) rfl rfl rfl ?_
        refine hp_rb rfl rfl (fun _ => ?_)
        first | (exact k0 (by first | assumption | (unfold hUn; omega))) | (exfalso; omega)
    ·
      refine hp_sta (k := 1) (pc' := 18) rfl rfl rfl ?_
      refine hp_s (pc' := 19) (st' := [.int 0, .retAddr 1]) rfl rfl rfl ?_
      refine hp_lds (v := 0) hro.1 rfl rfl (by decide +kernel) ?_
      intro g2a g2b
      refine hp_s (pc' := 21) (ls' := [(2, .int 0), (3, .int 1), (0, .int 0), (1, .int y)]) (st' := []) rfl rfl rfl ?_
      refine hp_s (pc' := 24) (ls' := [(3, .int 2), (2, .int 0), (0, .int 0), (1, .int y)]) (st' := []) rfl rfl rfl ?_
      refine hp_go (pc' := 4) rfl rfl rfl ?_
      refine hp_s (pc' := 5) (st' := [.int 2]) rfl rfl rfl ?_
      refine hp_s (pc' := 7) (st' := [.int 8, .int 2]) rfl rfl rfl ?_
      refine hp_go (pc' := 10) rfl rfl rfl ?_
      refine hp_s (pc' := 11) (st' := [.int 0]) rfl rfl rfl ?_
      refine hp_s (pc' := 12) (st' := [.int y, .int 0]) rfl rfl rfl ?_
      refine hp_ic (pc' := 15) (t := 27) (a := 0) (b := y.toInt) rfl rfl rfl (by decide) rfl (fun (h9 : 0 = y.toInt) => ?_) (fun (h10 : ¬ (0 = y.toInt)) => ?_)
      ·
        refine hp_s (pc' := 28) (st' := [.int 0]) rfl rfl rfl ?_
        refine hp_s (pc' := 29) (st' := [.int y, .int 0]) rfl rfl rfl ?_
        refine hp_ic (pc' := 32) (t := 36) (a := 0) (b := y.toInt) rfl rfl rfl (by decide) rfl (fun (h11 : 0 ≠ y.toInt) => ?_) (fun (h12 : ¬ (0 ≠ y.toInt)) => ?_)
        ·
          refine hp_s (pc' := 37) (st' := [.int 0]) rfl rfl rfl ?_
          refine hp_rb rfl rfl (fun _ => ?_)
          first | (exact k1 (by first | assumption | (unfold hUn; omega))) | (exfalso; omega)
        ·
          refine hp_s (pc' := 33) (st' := [.int 1]) rfl rfl rfl ?_
          refine hp_go (pc' := 37) rfl rfl rfl ?_
          refine hp_rb rfl rfl (fun _ => ?_)
          first | (exact k0 (by first | assumption | (unfold hUn; omega))) | (exfalso; omega)
      ·
        refine hp_sta (k := 1) (pc' := 18) rfl rfl rfl ?_
        refine hp_s (pc' := 19) (st' := [.int 0, .retAddr 1]) rfl rfl rfl ?_
        refine hp_lds (v := 0) hro.1 rfl rfl (by decide +kernel) ?_
        intro g3a g3b
        refine hp_s (pc' := 21) (ls' := [(2, .int 0), (3, .int 2), (0, .int 0), (1, .int y)]) (st' := []) rfl rfl rfl ?_
        refine hp_s (pc' := 24) (ls' := [(3, .int 3), (2, .int 0), (0, .int 0), (1, .int y)]) (st' := []) rfl rfl rfl ?_
        refine hp_go (pc' := 4) rfl rfl rfl ?_
        refine hp_s (pc' := 5) (st' := [.int 3]) rfl rfl rfl ?_
        refine hp_s (pc' := 7) (st' := [.int 8, .int 3]) rfl rfl rfl ?_
        refine hp_go (pc' := 10) rfl rfl rfl ?_
        refine hp_s (pc' := 11) (st' := [.int 0]) rfl rfl rfl ?_
        refine hp_s (pc' := 12) (st' := [.int y, .int 0]) rfl rfl rfl ?_
        refine hp_ic (pc' := 15) (t := 27) (a := 0) (b := y.toInt) rfl rfl rfl (by decide) rfl (fun (h13 : 0 = y.toInt) => ?_) (fun (h14 : ¬ (0 = y.toInt)) => ?_)
        ·
          refine hp_s (pc' := 28) (st' := [.int 0]) rfl rfl rfl ?_
          refine hp_s (pc' := 29) (st' := [.int y, .int 0]) rfl rfl rfl ?_
          refine hp_ic (pc' := 32) (t := 36) (a := 0) (b := y.toInt) rfl rfl rfl (by decide) rfl (fun (h15 : 0 ≠ y.toInt) => ?_) (fun (h16 : ¬ (0 ≠ y.toInt)) => ?_)
          ·
            refine hp_s (pc' := 37) (st' := [.int 0]) rfl rfl rfl ?_
            refine hp_rb rfl rfl (fun _ => ?_)
            first | (exact k1 (by first | assumption | (unfold hUn; omega))) | (exfalso; omega)
          ·
            refine hp_s (pc' := 33) (st' := [.int 1]) rfl rfl rfl ?_
            refine hp_go (pc' := 37) rfl rfl rfl ?_
            refine hp_rb rfl rfl (fun _ => ?_)
            first | (exact k0 (by first | assumption | (unfold hUn; omega))) | (exfalso; omega)
        ·
          refine hp_sta (k := 1) (pc' := 18) rfl rfl rfl ?_
          refine hp_s (pc' := 19) (st' := [.int 0, .retAddr 1]) rfl rfl rfl ?_
          refine hp_lds (v := 0) hro.1 rfl rfl (by decide +kernel) ?_
          intro g4a g4b
          refine hp_s (pc' := 21) (ls' := [(2, .int 0), (3, .int 3), (0, .int 0), (1, .int y)]) (st' := []) rfl rfl rfl ?_
          refine hp_s (pc' := 24) (ls' := [(3, .int 4), (2, .int 0), (0, .int 0), (1, .int y)]) (st' := []) rfl rfl rfl ?_
          refine hp_go (pc' := 4) rfl rfl rfl ?_
          refine hp_s (pc' := 5) (st' := [.int 4]) rfl rfl rfl ?_
          refine hp_s (pc' := 7) (st' := [.int 8, .int 4]) rfl rfl rfl ?_
          refine hp_go (pc' := 10) rfl rfl rfl ?_
          refine hp_s (pc' := 11) (st' := [.int 0]) rfl rfl rfl ?_
          refine hp_s (pc' := 12) (st' := [.int y, .int 0]) rfl rfl rfl ?_
          refine hp_ic (pc' := 15) (t := 27) (a := 0) (b := y.toInt) rfl rfl rfl (by decide) rfl (fun (h17 : 0 = y.toInt) => ?_) (fun (h18 : ¬ (0 = y.toInt)) => ?_)
          ·
            refine hp_s (pc' := 28) (st' := [.int 0]) rfl rfl rfl ?_
            refine hp_s (pc' := 29) (st' := [.int y, .int 0]) rfl rfl rfl ?_
            refine hp_ic (pc' := 32) (t := 36) (a := 0) (b := y.toInt) rfl rfl rfl (by decide) rfl (fun (h19 : 0 ≠ y.toInt) => ?_) (fun (h20 : ¬ (0 ≠ y.toInt)) => ?_)
            ·
              refine hp_s (pc' := 37) (st' := [.int 0]) rfl rfl rfl ?_
              refine hp_rb rfl rfl (fun _ => ?_)
              first | (exact k1 (by first | assumption | (unfold hUn; omega))) | (exfalso; omega)
            ·
              refine hp_s (pc' := 33) (st' := [.int 1]) rfl rfl rfl ?_
              refine hp_go (pc' := 37) rfl rfl rfl ?_
              refine hp_rb rfl rfl (fun _ => ?_)
              first | (exact k0 (by first | assumption | (unfold hUn; omega))) | (exfalso; omega)
          ·
            refine hp_sta (k := 1) (pc' := 18) rfl rfl rfl ?_
            refine hp_s (pc' := 19) (st' := [.int 0, .retAddr 1]) rfl rfl rfl ?_
            refine hp_lds (v := 0) hro.1 rfl rfl (by decide +kernel) ?_
            intro g5a g5b
            refine hp_s (pc' := 21) (ls' := [(2, .int 0), (3, .int 4), (0, .int 0), (1, .int y)]) (st' := []) rfl rfl rfl ?_
            refine hp_s (pc' := 24) (ls' := [(3, .int 5), (2, .int 0), (0, .int 0), (1, .int y)]) (st' := []) rfl rfl rfl ?_
            refine hp_go (pc' := 4) rfl rfl rfl ?_
            refine hp_s (pc' := 5) (st' := [.int 5]) rfl rfl rfl ?_
            refine hp_s (pc' := 7) (st' := [.int 8, .int 5]) rfl rfl rfl ?_
            refine hp_go (pc' := 10) rfl rfl rfl ?_
            refine hp_s (pc' := 11) (st' := [.int 0]) rfl rfl rfl ?_
            refine hp_s (pc' := 12) (st' := [.int y, .int 0]) rfl rfl rfl ?_
            refine hp_ic (pc' := 15) (t := 27) (a := 0) (b := y.toInt) rfl rfl rfl (by decide) rfl (fun (h21 : 0 = y.toInt) => ?_) (fun (h22 : ¬ (0 = y.toInt)) => ?_)
            ·
              refine hp_s (pc' := 28) (st' := [.int 0]) rfl rfl rfl ?_
              refine hp_s (pc' := 29) (st' := [.int y, .int 0]) rfl rfl rfl ?_
              refine hp_ic (pc' := 32) (t := 36) (a := 0) (b := y.toInt) rfl rfl rfl (by decide) rfl (fun (h23 : 0 ≠ y.toInt) => ?_) (fun (h24 : ¬ (0 ≠ y.toInt)) => ?_)
              ·
                refine hp_s (pc' := 37) (st' := [.int 0]) rfl rfl rfl ?_
                refine hp_rb rfl rfl (fun _ => ?_)
                first | (exact k1 (by first | assumption | (unfold hUn; omega))) | (exfalso; omega)
              ·
                refine hp_s (pc' := 33) (st' := [.int 1]) rfl rfl rfl ?_
                refine hp_go (pc' := 37) rfl rfl rfl ?_
                refine hp_rb rfl rfl (fun _ => ?_)
                first | (exact k0 (by first | assumption | (unfold hUn; omega))) | (exfalso; omega)
            ·
              refine hp_sta (k := 1) (pc' := 18) rfl rfl rfl ?_
              refine hp_s (pc' := 19) (st' := [.int 0, .retAddr 1]) rfl rfl rfl ?_
              refine hp_lds (v := 0) hro.1 rfl rfl (by decide +kernel) ?_
              intro g6a g6b
              refine hp_s (pc' := 21) (ls' := [(2, .int 0), (3, .int 5), (0, .int 0), (1, .int y)]) (st' := []) rfl rfl rfl ?_
              refine hp_s (pc' := 24) (ls' := [(3, .int 6), (2, .int 0), (0, .int 0), (1, .int y)]) (st' := []) rfl rfl rfl ?_
              refine hp_go (pc' := 4) rfl rfl rfl ?_
              refine hp_s (pc' := 5) (st' := [.int 6]) rfl rfl rfl ?_
              refine hp_s (pc' := 7) (st' := [.int 8, .int 6]) rfl rfl rfl ?_
              refine hp_go (pc' := 10) rfl rfl rfl ?_
              refine hp_s (pc' := 11) (st' := [.int 0]) rfl rfl rfl ?_
              refine hp_s (pc' := 12) (st' := [.int y, .int 0]) rfl rfl rfl ?_
              refine hp_ic (pc' := 15) (t := 27) (a := 0) (b := y.toInt) rfl rfl rfl (by decide) rfl (fun (h25 : 0 = y.toInt) => ?_) (fun (h26 : ¬ (0 = y.toInt)) => ?_)
              ·
                refine hp_s (pc' := 28) (st' := [.int 0]) rfl rfl rfl ?_
                refine hp_s (pc' := 29) (st' := [.int y, .int 0]) rfl rfl rfl ?_
                refine hp_ic (pc' := 32) (t := 36) (a := 0) (b := y.toInt) rfl rfl rfl (by decide) rfl (fun (h27 : 0 ≠ y.toInt) => ?_) (fun (h28 : ¬ (0 ≠ y.toInt)) => ?_)
                ·
                  refine hp_s (pc' := 37) (st' := [.int 0]) rfl rfl rfl ?_
                  refine hp_rb rfl rfl (fun _ => ?_)
                  first | (exact k1 (by first | assumption | (unfold hUn; omega))) | (exfalso; omega)
                ·
                  refine hp_s (pc' := 33) (st' := [.int 1]) rfl rfl rfl ?_
                  refine hp_go (pc' := 37) rfl rfl rfl ?_
                  refine hp_rb rfl rfl (fun _ => ?_)
                  first | (exact k0 (by first | assumption | (unfold hUn; omega))) | (exfalso; omega)
              ·
                refine hp_sta (k := 1) (pc' := 18) rfl rfl rfl ?_
                refine hp_s (pc' := 19) (st' := [.int 0, .retAddr 1]) rfl rfl rfl ?_
                refine hp_lds (v := 0) hro.1 rfl rfl (by decide +kernel) ?_
                intro g7a g7b
                refine hp_s (pc' := 21) (ls' := [(2, .int 0), (3, .int 6), (0, .int 0), (1, .int y)]) (st' := []) rfl rfl rfl ?_
                refine hp_s (pc' := 24) (ls' := [(3, .int 7), (2, .int 0), (0, .int 0), (1, .int y)]) (st' := []) rfl rfl rfl ?_
                refine hp_go (pc' := 4) rfl rfl rfl ?_
                refine hp_s (pc' := 5) (st' := [.int 7]) rfl rfl rfl ?_
                refine hp_s (pc' := 7) (st' := [.int 8, .int 7]) rfl rfl rfl ?_
                refine hp_go (pc' := 10) rfl rfl rfl ?_
                refine hp_s (pc' := 11) (st' := [.int 0]) rfl rfl rfl ?_
                refine hp_s (pc' := 12) (st' := [.int y, .int 0]) rfl rfl rfl ?_
                refine hp_ic (pc' := 15) (t := 27) (a := 0) (b := y.toInt) rfl rfl rfl (by decide) rfl (fun (h29 : 0 = y.toInt) => ?_) (fun (h30 : ¬ (0 = y.toInt)) => ?_)
                ·
                  refine hp_s (pc' := 28) (st' := [.int 0]) rfl rfl rfl ?_
                  refine hp_s (pc' := 29) (st' := [.int y, .int 0]) rfl rfl rfl ?_
                  refine hp_ic (pc' := 32) (t := 36) (a := 0) (b := y.toInt) rfl rfl rfl (by decide) rfl (fun (h31 : 0 ≠ y.toInt) => ?_) (fun (h32 : ¬ (0 ≠ y.toInt)) => ?_)
                  ·
                    refine hp_s (pc' := 37) (st' := [.int 0]) rfl rfl rfl ?_
                    refine hp_rb rfl rfl (fun _ => ?_)
                    first | (exact k1 (by first | assumption | (unfold hUn; omega))) | (exfalso; omega)
                  ·
                    refine hp_s (pc' := 33) (st' := [.int 1]) rfl rfl rfl ?_
                    refine hp_go (pc' := 37) rfl rfl rfl ?_
                    refine hp_rb rfl rfl (fun _ => ?_)
                    first | (exact k0 (by first | assumption | (unfold hUn; omega))) | (exfalso; omega)
                ·
                  refine hp_sta (k := 1) (pc' := 18) rfl rfl rfl ?_
                  refine hp_s (pc' := 19) (st' := [.int 0, .retAddr 1]) rfl rfl rfl ?_
                  refine hp_lds (v := 0) hro.1 rfl rfl (by decide +kernel) ?_
                  intro g8a g8b
                  refine hp_s (pc' := 21) (ls' := [(2, .int 0), (3, .int 7), (0, .int 0), (1, .int y)]) (st' := []) rfl rfl rfl ?_
                  refine hp_s (pc' := 24) (ls' := [(3, .int 8), (2, .int 0), (0, .int 0), (1, .int y)]) (st' := []) rfl rfl rfl ?_
                  refine hp_go (pc' := 4) rfl rfl rfl ?_
                  refine hp_s (pc' := 5) (st' := [.int 8]) rfl rfl rfl ?_
                  refine hp_s (pc' := 7) (st' := [.int 8, .int 8]) rfl rfl rfl ?_
                  refine hp_go (pc' := 27) rfl rfl rfl ?_
                  refine hp_s (pc' := 28) (st' := [.int 0]) rfl rfl rfl ?_
                  refine hp_s (pc' := 29) (st' := [.int y, .int 0]) rfl rfl rfl ?_
                  refine hp_ic (pc' := 32) (t := 36) (a := 0) (b := y.toInt) rfl rfl rfl (by decide) rfl (fun (h33 : 0 ≠ y.toInt) => ?_) (fun (h34 : ¬ (0 ≠ y.toInt)) => ?_)
                  ·
                    refine hp_s (pc' := 37) (st' := [.int 0]) rfl rfl rfl ?_
                    refine hp_rb rfl rfl (fun _ => ?_)
                    first | (exact k1 (by first | assumption | (unfold hUn; omega))) | (exfalso; omega)
                  ·
                    refine hp_s (pc' := 33) (st' := [.int 1]) rfl rfl rfl ?_
                    refine hp_go (pc' := 37) rfl rfl rfl ?_
                    refine hp_rb rfl rfl (fun _ => ?_)
                    first | (exact k0 (by first | assumption | (unfold hUn; omega))) | (exfalso; omega)
theorem s_isUnder1 {ro : List (List Int32)} {n d : Nat} {p : xH} {Q : Option Value → xH → Prop} {y : Int32} {yi : Int} (hro : jro ro) (hy : y.toInt = yi) (pre0 : 0 ≤ yi) (pre1 : yi < 8) (k0 : (hUn 1 yi) → Q (some (.int (1))) p) (k1 : (¬ hUn 1 yi) → Q (some (.int (0))) p) : hP ro n d (9, 4, 0, 2, k109) 0 (lv_args 0 [.int 1, .int y]) [] p Q := by
  subst hy
  refine hp_id (ls := [(0, .int 1), (1, .int y)]) ?_
  refine hp_s (pc' := 1) (st' := [.int 1]) rfl rfl rfl ?_
  refine hp_s (pc' := 2) (ls' := [(2, .int 1), (0, .int 1), (1, .int y)]) (st' := []) rfl rfl rfl ?_
  refine hp_s (pc' := 3) (st' := [.int 0]) rfl rfl rfl ?_
  refine hp_s (pc' := 4) (ls' := [(3, .int 0), (2, .int 1), (0, .int 1), (1, .int y)]) (st' := []) rfl rfl rfl ?_
  refine hp_s (pc' := 5) (st' := [.int 0]) rfl rfl rfl ?_
  refine hp_s (pc' := 7) (st' := [.int 8, .int 0]) rfl rfl rfl ?_
  refine hp_go (pc' := 10) rfl rfl rfl ?_
  refine hp_s (pc' := 11) (st' := [.int 1]) rfl rfl rfl ?_
  refine hp_s (pc' := 12) (st' := [.int y, .int 1]) rfl rfl rfl ?_
  refine hp_ic (pc' := 15) (t := 27) (a := 1) (b := y.toInt) rfl rfl rfl (by decide) rfl (fun (h1 : 1 = y.toInt) => ?_) (fun (h2 : ¬ (1 = y.toInt)) => ?_)
  ·
    refine hp_s (pc' := 28) (st' := [.int 1]) rfl rfl rfl ?_
    refine hp_s (pc' := 29) (st' := [.int y, .int 1]) rfl rfl rfl ?_
    refine hp_ic (pc' := 32) (t := 36) (a := 1) (b := y.toInt) rfl rfl rfl (by decide) rfl (fun (h3 : 1 ≠ y.toInt) => ?_) (fun (h4 : ¬ (1 ≠ y.toInt)) => ?_)
    ·
      refine hp_s (pc' := 37) (st' := [.int 0]) rfl rfl rfl ?_
      refine hp_rb rfl rfl (fun _ => ?_)
      first | (exact k1 (by first | assumption | (unfold hUn; omega))) | (exfalso; omega)
    ·
      refine hp_s (pc' := 33) (st' := [.int 1]) rfl rfl rfl ?_
      refine hp_go (pc' := 37) rfl rfl rfl ?_
      refine hp_rb rfl rfl (fun _ => ?_)
      first | (exact k0 (by first | assumption | (unfold hUn; omega))) | (exfalso; omega)
  ·
    refine hp_sta (k := 1) (pc' := 18) rfl rfl rfl ?_
    refine hp_s (pc' := 19) (st' := [.int 1, .retAddr 1]) rfl rfl rfl ?_
    refine hp_lds (v := 0) hro.1 rfl rfl (by decide +kernel) ?_
    intro g1a g1b
    refine hp_s (pc' := 21) (ls' := [(2, .int 0), (3, .int 0), (0, .int 1), (1, .int y)]) (st' := []) rfl rfl rfl ?_
    refine hp_s (pc' := 24) (ls' := [(3, .int 1), (2, .int 0), (0, .int 1), (1, .int y)]) (st' := []) rfl rfl rfl ?_
    refine hp_go (pc' := 4) rfl rfl rfl ?_
    refine hp_s (pc' := 5) (st' := [.int 1]) rfl rfl rfl ?_
    refine hp_s (pc' := 7) (st' := [.int 8, .int 1]) rfl rfl rfl ?_
    refine hp_go (pc' := 10) rfl rfl rfl ?_
    refine hp_s (pc' := 11) (st' := [.int 0]) rfl rfl rfl ?_
    refine hp_s (pc' := 12) (st' := [.int y, .int 0]) rfl rfl rfl ?_
    refine hp_ic (pc' := 15) (t := 27) (a := 0) (b := y.toInt) rfl rfl rfl (by decide) rfl (fun (h5 : 0 = y.toInt) => ?_) (fun (h6 : ¬ (0 = y.toInt)) => ?_)
    ·
      refine hp_s (pc' := 28) (st' := [.int 0]) rfl rfl rfl ?_
      refine hp_s (pc' := 29) (st' := [.int y, .int 0]) rfl rfl rfl ?_
      refine hp_ic (pc' := 32) (t := 36) (a := 0) (b := y.toInt) rfl rfl rfl (by decide) rfl (fun (h7 : 0 ≠ y.toInt) => ?_) (fun (h8 : ¬ (0 ≠ y.toInt)) => ?_)
      ·
        refine hp_s (pc' := 37) (st' := [.int 0]) rfl rfl rfl ?_
        refine hp_rb rfl rfl (fun _ => ?_)
        first | (exact k1 (by first | assumption | (unfold hUn; omega))) | (exfalso; omega)
      ·
        refine hp_s (pc' := 33) (st' := [.int 1]) rfl rfl rfl ?_
        refine hp_go (pc' := 37) rfl rfl rfl ?_
        refine hp_rb rfl rfl (fun _ => ?_)
        first | (exact k0 (by first | assumption | (unfold hUn; omega))) | (exfalso; omega)
    ·
      refine hp_sta (k := 1) (pc' := 18) rfl rfl rfl ?_
      refine hp_s (pc' := 19) (st' := [.int 0, .retAddr 1]) rfl rfl rfl ?_
      refine hp_lds (v := 0) hro.1 rfl rfl (by decide +kernel) ?_
      intro g2a g2b
      refine hp_s (pc' := 21) (ls' := [(2, .int 0), (3, .int 1), (0, .int 1), (1, .int y)]) (st' := []) rfl rfl rfl ?_
      refine hp_s (pc' := 24) (ls' := [(3, .int 2), (2, .int 0), (0, .int 1), (1, .int y)]) (st' := []) rfl rfl rfl ?_
      refine hp_go (pc' := 4) rfl rfl rfl ?_
      refine hp_s (pc' := 5) (st' := [.int 2]) rfl rfl rfl ?_
      refine hp_s (pc' := 7) (st' := [.int 8, .int 2]) rfl rfl rfl ?_
      refine hp_go (pc' := 10) rfl rfl rfl ?_
      refine hp_s (pc' := 11) (st' := [.int 0]) rfl rfl rfl ?_
      refine hp_s (pc' := 12) (st' := [.int y, .int 0]) rfl rfl rfl ?_
      refine hp_ic (pc' := 15) (t := 27) (a := 0) (b := y.toInt) rfl rfl rfl (by decide) rfl (fun (h9 : 0 = y.toInt) => ?_) (fun (h10 : ¬ (0 = y.toInt)) => ?_)
      ·
        refine hp_s (pc' := 28) (st' := [.int 0]) rfl rfl rfl ?_
        refine hp_s (pc' := 29) (st' := [.int y, .int 0]) rfl rfl rfl ?_
        refine hp_ic (pc' := 32) (t := 36) (a := 0) (b := y.toInt) rfl rfl rfl (by decide) rfl (fun (h11 : 0 ≠ y.toInt) => ?_) (fun (h12 : ¬ (0 ≠ y.toInt)) => ?_)
        ·
          refine hp_s (pc' := 37) (st' := [.int 0]) rfl rfl rfl ?_
          refine hp_rb rfl rfl (fun _ => ?_)
          first | (exact k1 (by first | assumption | (unfold hUn; omega))) | (exfalso; omega)
        ·
          refine hp_s (pc' := 33) (st' := [.int 1]) rfl rfl rfl ?_
          refine hp_go (pc' := 37) rfl rfl rfl ?_
          refine hp_rb rfl rfl (fun _ => ?_)
          first | (exact k0 (by first | assumption | (unfold hUn; omega))) | (exfalso; omega)
      ·
        refine hp_sta (k := 1) (pc' := 18) rfl rfl rfl ?_
        refine hp_s (pc' := 19) (st' := [.int 0, .retAddr 1]) rfl rfl rfl ?_
        refine hp_lds (v := 0) hro.1 rfl rfl (by decide +kernel) ?_
        intro g3a g3b
        refine hp_s (pc' := 21) (ls' := [(2, .int 0), (3, .int 2), (0, .int 1), (1, .int y)]) (st' := []) rfl rfl rfl ?_
        refine hp_s (pc' := 24) (ls' := [(3, .int 3), (2, .int 0), (0, .int 1), (1, .int y)]) (st' := []) rfl rfl rfl ?_
        refine hp_go (pc' := 4) rfl rfl rfl ?_
        refine hp_s (pc' := 5) (st' := [.int 3]) rfl rfl rfl ?_
        refine hp_s (pc' := 7) (st' := [.int 8, .int 3]) rfl rfl rfl ?_
        refine hp_go (pc' := 10) rfl rfl rfl ?_
        refine hp_s (pc' := 11) (st' := [.int 0]) rfl rfl rfl ?_
        refine hp_s (pc' := 12) (st' := [.int y, .int 0]) rfl rfl rfl ?_
        refine hp_ic (pc' := 15) (t := 27) (a := 0) (b := y.toInt) rfl rfl rfl (by decide) rfl (fun (h13 : 0 = y.toInt) => ?_) (fun (h14 : ¬ (0 = y.toInt)) => ?_)
        ·
          refine hp_s (pc' := 28) (st' := [.int 0]) rfl rfl rfl ?_
          refine hp_s (pc' := 29) (st' := [.int y, .int 0]) rfl rfl rfl ?_
          refine hp_ic (pc' := 32) (t := 36) (a := 0) (b := y.toInt) rfl rfl rfl (by decide) rfl (fun (h15 : 0 ≠ y.toInt) => ?_) (fun (h16 : ¬ (0 ≠ y.toInt)) => ?_)
          ·
            refine hp_s (pc' := 37) (st' := [.int 0]) rfl rfl rfl ?_
            refine hp_rb rfl rfl (fun _ => ?_)
            first | (exact k1 (by first | assumption | (unfold hUn; omega))) | (exfalso; omega)
          ·
            refine hp_s (pc' := 33) (st' := [.int 1]) rfl rfl rfl ?_
            refine hp_go (pc' := 37) rfl rfl rfl ?_
            refine hp_rb rfl rfl (fun _ => ?_)
            first | (exact k0 (by first | assumption | (unfold hUn; omega))) | (exfalso; omega)
        ·
          refine hp_sta (k := 1) (pc' := 18) rfl rfl rfl ?_
          refine hp_s (pc' := 19) (st' := [.int 0, .retAddr 1]) rfl rfl rfl ?_
          refine hp_lds (v := 0) hro.1 rfl rfl (by decide +kernel) ?_
          intro g4a g4b
          refine hp_s (pc' := 21) (ls' := [(2, .int 0), (3, .int 3), (0, .int 1), (1, .int y)]) (st' := []) rfl rfl rfl ?_
          refine hp_s (pc' := 24) (ls' := [(3, .int 4), (2, .int 0), (0, .int 1), (1, .int y)]) (st' := []) rfl rfl rfl ?_
          refine hp_go (pc' := 4) rfl rfl rfl ?_
          refine hp_s (pc' := 5) (st' := [.int 4]) rfl rfl rfl ?_
          refine hp_s (pc' := 7) (st' := [.int 8, .int 4]) rfl rfl rfl ?_
          refine hp_go (pc' := 10) rfl rfl rfl ?_
          refine hp_s (pc' := 11) (st' := [.int 0]) rfl rfl rfl ?_
          refine hp_s (pc' := 12) (st' := [.int y, .int 0]) rfl rfl rfl ?_
          refine hp_ic (pc' := 15) (t := 27) (a := 0) (b := y.toInt) rfl rfl rfl (by decide) rfl (fun (h17 : 0 = y.toInt) => ?_) (fun (h18 : ¬ (0 = y.toInt)) => ?_)
          ·
            refine hp_s (pc' := 28) (st' := [.int 0]) rfl rfl rfl ?_
            refine hp_s (pc' := 29) (st' := [.int y, .int 0]) rfl rfl rfl ?_
            refine hp_ic (pc' := 32) (t := 36) (a := 0) (b := y.toInt) rfl rfl rfl (by decide) rfl (fun (h19 : 0 ≠ y.toInt) => ?_) (fun (h20 : ¬ (0 ≠ y.toInt)) => ?_)
            ·
              refine hp_s (pc' := 37) (st' := [.int 0]) rfl rfl rfl ?_
              refine hp_rb rfl rfl (fun _ => ?_)
              first | (exact k1 (by first | assumption | (unfold hUn; omega))) | (exfalso; omega)
            ·
              refine hp_s (pc' := 33) (st' := [.int 1]) rfl rfl rfl ?_
              refine hp_go (pc' := 37) rfl rfl rfl ?_
              refine hp_rb rfl rfl (fun _ => ?_)
              first | (exact k0 (by first | assumption | (unfold hUn; omega))) | (exfalso; omega)
          ·
            refine hp_sta (k := 1) (pc' := 18) rfl rfl rfl ?_
            refine hp_s (pc' := 19) (st' := [.int 0, .retAddr 1]) rfl rfl rfl ?_
            refine hp_lds (v := 0) hro.1 rfl rfl (by decide +kernel) ?_
            intro g5a g5b
            refine hp_s (pc' := 21) (ls' := [(2, .int 0), (3, .int 4), (0, .int 1), (1, .int y)]) (st' := []) rfl rfl rfl ?_
            refine hp_s (pc' := 24) (ls' := [(3, .int 5), (2, .int 0), (0, .int 1), (1, .int y)]) (st' := []) rfl rfl rfl ?_
            refine hp_go (pc' := 4) rfl rfl rfl ?_
            refine hp_s (pc' := 5) (st' := [.int 5]) rfl rfl rfl ?_
            refine hp_s (pc' := 7) (st' := [.int 8, .int 5]) rfl rfl rfl ?_
            refine hp_go (pc' := 10) rfl rfl rfl ?_
            refine hp_s (pc' := 11) (st' := [.int 0]) rfl rfl rfl ?_
            refine hp_s (pc' := 12) (st' := [.int y, .int 0]) rfl rfl rfl ?_
            refine hp_ic (pc' := 15) (t := 27) (a := 0) (b := y.toInt) rfl rfl rfl (by decide) rfl (fun (h21 : 0 = y.toInt) => ?_) (fun (h22 : ¬ (0 = y.toInt)) => ?_)
            ·
              refine hp_s (pc' := 28) (st' := [.int 0]) rfl rfl rfl ?_
              refine hp_s (pc' := 29) (st' := [.int y, .int 0]) rfl rfl rfl ?_
              refine hp_ic (pc' := 32) (t := 36) (a := 0) (b := y.toInt) rfl rfl rfl (by decide) rfl (fun (h23 : 0 ≠ y.toInt) => ?_) (fun (h24 : ¬ (0 ≠ y.toInt)) => ?_)
              ·
                refine hp_s (pc' := 37) (st' := [.int 0]) rfl rfl rfl ?_
                refine hp_rb rfl rfl (fun _ => ?_)
                first | (exact k1 (by first | assumption | (unfold hUn; omega))) | (exfalso; omega)
              ·
                refine hp_s (pc' := 33) (st' := [.int 1]) rfl rfl rfl ?_
                refine hp_go (pc' := 37) rfl rfl rfl ?_
                refine hp_rb rfl rfl (fun _ => ?_)
                first | (exact k0 (by first | assumption | (unfold hUn; omega))) | (exfalso; omega)
            ·
              refine hp_sta (k := 1) (pc' := 18) rfl rfl rfl ?_
              refine hp_s (pc' := 19) (st' := [.int 0, .retAddr 1]) rfl rfl rfl ?_
              refine hp_lds (v := 0) hro.1 rfl rfl (by decide +kernel) ?_
              intro g6a g6b
              refine hp_s (pc' := 21) (ls' := [(2, .int 0), (3, .int 5), (0, .int 1), (1, .int y)]) (st' := []) rfl rfl rfl ?_
              refine hp_s (pc' := 24) (ls' := [(3, .int 6), (2, .int 0), (0, .int 1), (1, .int y)]) (st' := []) rfl rfl rfl ?_
              refine hp_go (pc' := 4) rfl rfl rfl ?_
              refine hp_s (pc' := 5) (st' := [.int 6]) rfl rfl rfl ?_
              refine hp_s (pc' := 7) (st' := [.int 8, .int 6]) rfl rfl rfl ?_
              refine hp_go (pc' := 10) rfl rfl rfl ?_
              refine hp_s (pc' := 11) (st' := [.int 0]) rfl rfl rfl ?_
              refine hp_s (pc' := 12) (st' := [.int y, .int 0]) rfl rfl rfl ?_
              refine hp_ic (pc' := 15) (t := 27) (a := 0) (b := y.toInt) rfl rfl rfl (by decide) rfl (fun (h25 : 0 = y.toInt) => ?_) (fun (h26 : ¬ (0 = y.toInt)) => ?_)
              ·
                refine hp_s (pc' := 28) (st' := [.int 0]) rfl rfl rfl ?_
                refine hp_s (pc' := 29) (st' := [.int y, .int 0]) rfl rfl rfl ?_
                refine hp_ic (pc' := 32) (t := 36) (a := 0) (b := y.toInt) rfl rfl rfl (by decide) rfl (fun (h27 : 0 ≠ y.toInt) => ?_) (fun (h28 : ¬ (0 ≠ y.toInt)) => ?_)
                ·
                  refine hp_s (pc' := 37) (st' := [.int 0]) rfl rfl rfl ?_
                  refine hp_rb rfl rfl (fun _ => ?_)
                  first | (exact k1 (by first | assumption | (unfold hUn; omega))) | (exfalso; omega)
                ·
                  refine hp_s (pc' := 33) (st' := [.int 1]) rfl rfl rfl ?_
                  refine hp_go (pc' := 37) rfl rfl rfl ?_
                  refine hp_rb rfl rfl (fun _ => ?_)
                  first | (exact k0 (by first | assumption | (unfold hUn; omega))) | (exfalso; omega)
              ·
                refine hp_sta (k := 1) (pc' := 18) rfl rfl rfl ?_
                refine hp_s (pc' := 19) (st' := [.int 0, .retAddr 1]) rfl rfl rfl ?_
                refine hp_lds (v := 0) hro.1 rfl rfl (by decide +kernel) ?_
                intro g7a g7b
                refine hp_s (pc' := 21) (ls' := [(2, .int 0), (3, .int 6), (0, .int 1), (1, .int y)]) (st' := []) rfl rfl rfl ?_
                refine hp_s (pc' := 24) (ls' := [(3, .int 7), (2, .int 0), (0, .int 1), (1, .int y)]) (st' := []) rfl rfl rfl ?_
                refine hp_go (pc' := 4) rfl rfl rfl ?_
                refine hp_s (pc' := 5) (st' := [.int 7]) rfl rfl rfl ?_
                refine hp_s (pc' := 7) (st' := [.int 8, .int 7]) rfl rfl rfl ?_
                refine hp_go (pc' := 10) rfl rfl rfl ?_
                refine hp_s (pc' := 11) (st' := [.int 0]) rfl rfl rfl ?_
                refine hp_s (pc' := 12) (st' := [.int y, .int 0]) rfl rfl rfl ?_
                refine hp_ic (pc' := 15) (t := 27) (a := 0) (b := y.toInt) rfl rfl rfl (by decide) rfl (fun (h29 : 0 = y.toInt) => ?_) (fun (h30 : ¬ (0 = y.toInt)) => ?_)
                ·
                  refine hp_s (pc' := 28) (st' := [.int 0]) rfl rfl rfl ?_
                  refine hp_s (pc' := 29) (st' := [.int y, .int 0]) rfl rfl rfl ?_
                  refine hp_ic (pc' := 32) (t := 36) (a := 0) (b := y.toInt) rfl rfl rfl (by decide) rfl (fun (h31 : 0 ≠ y.toInt) => ?_) (fun (h32 : ¬ (0 ≠ y.toInt)) => ?_)
                  ·
                    refine hp_s (pc' := 37) (st' := [.int 0]) rfl rfl rfl ?_
                    refine hp_rb rfl rfl (fun _ => ?_)
                    first | (exact k1 (by first | assumption | (unfold hUn; omega))) | (exfalso; omega)
                  ·
                    refine hp_s (pc' := 33) (st' := [.int 1]) rfl rfl rfl ?_
                    refine hp_go (pc' := 37) rfl rfl rfl ?_
                    refine hp_rb rfl rfl (fun _ => ?_)
                    first | (exact k0 (by first | assumption | (unfold hUn; omega))) | (exfalso; omega)
                ·
                  refine hp_sta (k := 1) (pc' := 18) rfl rfl rfl ?_
                  refine hp_s (pc' := 19) (st' := [.int 0, .retAddr 1]) rfl rfl rfl ?_
                  refine hp_lds (v := 0) hro.1 rfl rfl (by decide +kernel) ?_
                  intro g8a g8b
                  refine hp_s (pc' := 21) (ls' := [(2, .int 0), (3, .int 7), (0, .int 1), (1, .int y)]) (st' := []) rfl rfl rfl ?_
                  refine hp_s (pc' := 24) (ls' := [(3, .int 8), (2, .int 0), (0, .int 1), (1, .int y)]) (st' := []) rfl rfl rfl ?_
                  refine hp_go (pc' := 4) rfl rfl rfl ?_
                  refine hp_s (pc' := 5) (st' := [.int 8]) rfl rfl rfl ?_
                  refine hp_s (pc' := 7) (st' := [.int 8, .int 8]) rfl rfl rfl ?_
                  refine hp_go (pc' := 27) rfl rfl rfl ?_
                  refine hp_s (pc' := 28) (st' := [.int 0]) rfl rfl rfl ?_
                  refine hp_s (pc' := 29) (st' := [.int y, .int 0]) rfl rfl rfl ?_
                  refine hp_ic (pc' := 32) (t := 36) (a := 0) (b := y.toInt) rfl rfl rfl (by decide) rfl (fun (h33 : 0 ≠ y.toInt) => ?_) (fun (h34 : ¬ (0 ≠ y.toInt)) => ?_)
                  ·
                    refine hp_s (pc' := 37) (st' := [.int 0]) rfl rfl rfl ?_
                    refine hp_rb rfl rfl (fun _ => ?_)
                    first | (exact k1 (by first | assumption | (unfold hUn; omega))) | (exfalso; omega)
                  ·
                    refine hp_s (pc' := 33) (st' := [.int 1]) rfl rfl rfl ?_
                    refine hp_go (pc' := 37) rfl rfl rfl ?_
                    refine hp_rb rfl rfl (fun _ => ?_)
                    first | (exact k0 (by first | assumption | (unfold hUn; omega))) | (exfalso; omega)
theorem s_isUnder2 {ro : List (List Int32)} {n d : Nat} {p : xH} {Q : Option Value → xH → Prop} {y : Int32} {yi : Int} (hro : jro ro) (hy : y.toInt = yi) (pre0 : 0 ≤ yi) (pre1 : yi < 8) (k0 : (hUn 2 yi) → Q (some (.int (1))) p) (k1 : (¬ hUn 2 yi) → Q (some (.int (0))) p) : hP ro n d (9, 4, 0, 2, k109) 0 (lv_args 0 [.int 2, .int y]) [] p Q := by
  subst hy
  refine hp_id (ls := [(0, .int 2), (1, .int y)]) ?_
  refine hp_s (pc' := 1) (st' := [.int 2]) rfl rfl rfl ?_
  refine hp_s (pc' := 2) (ls' := [(2, .int 2), (0, .int 2), (1, .int y)]) (st' := []) rfl rfl rfl ?_
  refine hp_s (pc' := 3) (st' := [.int 0]) rfl rfl rfl ?_
  refine hp_s (pc' := 4) (ls' := [(3, .int 0), (2, .int 2), (0, .int 2), (1, .int y)]) (st' := []) rfl rfl rfl ?_
  refine hp_s (pc' := 5) (st' := [.int 0]) rfl rfl rfl ?_
  refine hp_s (pc' := 7) (st' := [.int 8, .int 0]) rfl rfl rfl ?_
  refine hp_go (pc' := 10) rfl rfl rfl ?_
  refine hp_s (pc' := 11) (st' := [.int 2]) rfl rfl rfl ?_
  refine hp_s (pc' := 12) (st' := [.int y, .int 2]) rfl rfl rfl ?_
  refine hp_ic (pc' := 15) (t := 27) (a := 2) (b := y.toInt) rfl rfl rfl (by decide) rfl (fun (h1 : 2 = y.toInt) => ?_) (fun (h2 : ¬ (2 = y.toInt)) => ?_)
  ·
    refine hp_s (pc' := 28) (st' := [.int 2]) rfl rfl rfl ?_
    refine hp_s (pc' := 29) (st' := [.int y, .int 2]) rfl rfl rfl ?_
    refine hp_ic (pc' := 32) (t := 36) (a := 2) (b := y.toInt) rfl rfl rfl (by decide) rfl (fun (h3 : 2 ≠ y.toInt) => ?_) (fun (h4 : ¬ (2 ≠ y.toInt)) => ?_)
    ·
      refine hp_s (pc' := 37) (st' := [.int 0]) rfl rfl rfl ?_
      refine hp_rb rfl rfl (fun _ => ?_)
      first | (exact k1 (by first | assumption | (unfold hUn; omega))) | (exfalso; omega)
    ·
      refine hp_s (pc' := 33) (st' := [.int 1]) rfl rfl rfl ?_
      refine hp_go (pc' := 37) rfl rfl rfl ?_
      refine hp_rb rfl rfl (fun _ => ?_)
      first | (exact k0 (by first | assumption | (unfold hUn; omega))) | (exfalso; omega)
  ·
    refine hp_sta (k := 1) (pc' := 18) rfl rfl rfl ?_
    refine hp_s (pc' := 19) (st' := [.int 2, .retAddr 1]) rfl rfl rfl ?_
    refine hp_lds (v := 0) hro.1 rfl rfl (by decide +kernel) ?_
    intro g1a g1b
    refine hp_s (pc' := 21) (ls' := [(2, .int 0), (3, .int 0), (0, .int 2), (1, .int y)]) (st' := []) rfl rfl rfl ?_
    refine hp_s (pc' := 24) (ls' := [(3, .int 1), (2, .int 0), (0, .int 2), (1, .int y)]) (st' := []) rfl rfl rfl ?_
    refine hp_go (pc' := 4) rfl rfl rfl ?_
    refine hp_s (pc' := 5) (st' := [.int 1]) rfl rfl rfl ?_
    refine hp_s (pc' := 7) (st' := [.int 8, .int 1]) rfl rfl rfl ?_
    refine hp_go (pc' := 10) rfl rfl rfl ?_
    refine hp_s (pc' := 11) (st' := [.int 0]) rfl rfl rfl ?_
    refine hp_s (pc' := 12) (st' := [.int y, .int 0]) rfl rfl rfl ?_
    refine hp_ic (pc' := 15) (t := 27) (a := 0) (b := y.toInt) rfl rfl rfl (by decide) rfl (fun (h5 : 0 = y.toInt) => ?_) (fun (h6 : ¬ (0 = y.toInt)) => ?_)
    ·
      refine hp_s (pc' := 28) (st' := [.int 0]) rfl rfl rfl ?_
      refine hp_s (pc' := 29) (st' := [.int y, .int 0]) rfl rfl rfl ?_
      refine hp_ic (pc' := 32) (t := 36) (a := 0) (b := y.toInt) rfl rfl rfl (by decide) rfl (fun (h7 : 0 ≠ y.toInt) => ?_) (fun (h8 : ¬ (0 ≠ y.toInt)) => ?_)
      ·
        refine hp_s (pc' := 37) (st' := [.int 0]) rfl rfl rfl ?_
        refine hp_rb rfl rfl (fun _ => ?_)
        first | (exact k1 (by first | assumption | (unfold hUn; omega))) | (exfalso; omega)
      ·
        refine hp_s (pc' := 33) (st' := [.int 1]) rfl rfl rfl ?_
        refine hp_go (pc' := 37) rfl rfl rfl ?_
        refine hp_rb rfl rfl (fun _ => ?_)
        first | (exact k0 (by first | assumption | (unfold hUn; omega))) | (exfalso; omega)
    ·
      refine hp_sta (k := 1) (pc' := 18) rfl rfl rfl ?_
      refine hp_s (pc' := 19) (st' := [.int 0, .retAddr 1]) rfl rfl rfl ?_
      refine hp_lds (v := 0) hro.1 rfl rfl (by decide +kernel) ?_
      intro g2a g2b
      refine hp_s (pc' := 21) (ls' := [(2, .int 0), (3, .int 1), (0, .int 2), (1, .int y)]) (st' := []) rfl rfl rfl ?_
      refine hp_s (pc' := 24) (ls' := [(3, .int 2), (2, .int 0), (0, .int 2), (1, .int y)]) (st' := []) rfl rfl rfl ?_
      refine hp_go (pc' := 4) rfl rfl rfl ?_
      refine hp_s (pc' := 5) (st' := [.int 2]) rfl rfl rfl ?_
      refine hp_s (pc' := 7) (st' := [.int 8, .int 2]) rfl rfl rfl ?_
      refine hp_go (pc' := 10) rfl rfl rfl ?_
      refine hp_s (pc' := 11) (st' := [.int 0]) rfl rfl rfl ?_
      refine hp_s (pc' := 12) (st' := [.int y, .int 0]) rfl rfl rfl ?_
      refine hp_ic (pc' := 15) (t := 27) (a := 0) (b := y.toInt) rfl rfl rfl (by decide) rfl (fun (h9 : 0 = y.toInt) => ?_) (fun (h10 : ¬ (0 = y.toInt)) => ?_)
      ·
        refine hp_s (pc' := 28) (st' := [.int 0]) rfl rfl rfl ?_
        refine hp_s (pc' := 29) (st' := [.int y, .int 0]) rfl rfl rfl ?_
        refine hp_ic (pc' := 32) (t := 36) (a := 0) (b := y.toInt) rfl rfl rfl (by decide) rfl (fun (h11 : 0 ≠ y.toInt) => ?_) (fun (h12 : ¬ (0 ≠ y.toInt)) => ?_)
        ·
          refine hp_s (pc' := 37) (st' := [.int 0]) rfl rfl rfl ?_
          refine hp_rb rfl rfl (fun _ => ?_)
          first | (exact k1 (by first | assumption | (unfold hUn; omega))) | (exfalso; omega)
        ·
          refine hp_s (pc' := 33) (st' := [.int 1]) rfl rfl rfl ?_
          refine hp_go (pc' := 37) rfl rfl rfl ?_
          refine hp_rb rfl rfl (fun _ => ?_)
          first | (exact k0 (by first | assumption | (unfold hUn; omega))) | (exfalso; omega)
      ·
        refine hp_sta (k := 1) (pc' := 18) rfl rfl rfl ?_
        refine hp_s (pc' := 19) (st' := [.int 0, .retAddr 1]) rfl rfl rfl ?_
        refine hp_lds (v := 0) hro.1 rfl rfl (by decide +kernel) ?_
        intro g3a g3b
        refine hp_s (pc' := 21) (ls' := [(2, .int 0), (3, .int 2), (0, .int 2), (1, .int y)]) (st' := []) rfl rfl rfl ?_
        refine hp_s (pc' := 24) (ls' := [(3, .int 3), (2, .int 0), (0, .int 2), (1, .int y)]) (st' := []) rfl rfl rfl ?_
        refine hp_go (pc' := 4) rfl rfl rfl ?_
        refine hp_s (pc' := 5) (st' := [.int 3]) rfl rfl rfl ?_
        refine hp_s (pc' := 7) (st' := [.int 8, .int 3]) rfl rfl rfl ?_
        refine hp_go (pc' := 10) rfl rfl rfl ?_
        refine hp_s (pc' := 11) (st' := [.int 0]) rfl rfl rfl ?_
        refine hp_s (pc' := 12) (st' := [.int y, .int 0]) rfl rfl rfl ?_
        refine hp_ic (pc' := 15) (t := 27) (a := 0) (b := y.toInt) rfl rfl rfl (by decide) rfl (fun (h13 : 0 = y.toInt) => ?_) (fun (h14 : ¬ (0 = y.toInt)) => ?_)
        ·
          refine hp_s (pc' := 28) (st' := [.int 0]) rfl rfl rfl ?_
          refine hp_s (pc' := 29) (st' := [.int y, .int 0]) rfl rfl rfl ?_
          refine hp_ic (pc' := 32) (t := 36) (a := 0) (b := y.toInt) rfl rfl rfl (by decide) rfl (fun (h15 : 0 ≠ y.toInt) => ?_) (fun (h16 : ¬ (0 ≠ y.toInt)) => ?_)
          ·
            refine hp_s (pc' := 37) (st' := [.int 0]) rfl rfl rfl ?_
            refine hp_rb rfl rfl (fun _ => ?_)
            first | (exact k1 (by first | assumption | (unfold hUn; omega))) | (exfalso; omega)
          ·
            refine hp_s (pc' := 33) (st' := [.int 1]) rfl rfl rfl ?_
            refine hp_go (pc' := 37) rfl rfl rfl ?_
            refine hp_rb rfl rfl (fun _ => ?_)
            first | (exact k0 (by first | assumption | (unfold hUn; omega))) | (exfalso; omega)
        ·
          refine hp_sta (k := 1) (pc' := 18) rfl rfl rfl ?_
          refine hp_s (pc' := 19) (st' := [.int 0, .retAddr 1]) rfl rfl rfl ?_
          refine hp_lds (v := 0) hro.1 rfl rfl (by decide +kernel) ?_
          intro g4a g4b
          refine hp_s (pc' := 21) (ls' := [(2, .int 0), (3, .int 3), (0, .int 2), (1, .int y)]) (st' := []) rfl rfl rfl ?_
          refine hp_s (pc' := 24) (ls' := [(3, .int 4), (2, .int 0), (0, .int 2), (1, .int y)]) (st' := []) rfl rfl rfl ?_
          refine hp_go (pc' := 4) rfl rfl rfl ?_
          refine hp_s (pc' := 5) (st' := [.int 4]) rfl rfl rfl ?_
          refine hp_s (pc' := 7) (st' := [.int 8, .int 4]) rfl rfl rfl ?_
          refine hp_go (pc' := 10) rfl rfl rfl ?_
          refine hp_s (pc' := 11) (st' := [.int 0]) rfl rfl rfl ?_
          refine hp_s (pc' := 12) (st' := [.int y, .int 0]) rfl rfl rfl ?_
          refine hp_ic (pc' := 15) (t := 27) (a := 0) (b := y.toInt) rfl rfl rfl (by decide) rfl (fun (h17 : 0 = y.toInt) => ?_) (fun (h18 : ¬ (0 = y.toInt)) => ?_)
          ·
            refine hp_s (pc' := 28) (st' := [.int 0]) rfl rfl rfl ?_
            refine hp_s (pc' := 29) (st' := [.int y, .int 0]) rfl rfl rfl ?_
            refine hp_ic (pc' := 32) (t := 36) (a := 0) (b := y.toInt) rfl rfl rfl (by decide) rfl (fun (h19 : 0 ≠ y.toInt) => ?_) (fun (h20 : ¬ (0 ≠ y.toInt)) => ?_)
            ·
              refine hp_s (pc' := 37) (st' := [.int 0]) rfl rfl rfl ?_
              refine hp_rb rfl rfl (fun _ => ?_)
              first | (exact k1 (by first | assumption | (unfold hUn; omega))) | (exfalso; omega)
            ·
              refine hp_s (pc' := 33) (st' := [.int 1]) rfl rfl rfl ?_
              refine hp_go (pc' := 37) rfl rfl rfl ?_
              refine hp_rb rfl rfl (fun _ => ?_)
              first | (exact k0 (by first | assumption | (unfold hUn; omega))) | (exfalso; omega)
          ·
            refine hp_sta (k := 1) (pc' := 18) rfl rfl rfl ?_
            refine hp_s (pc' := 19) (st' := [.int 0, .retAddr 1]) rfl rfl rfl ?_
            refine hp_lds (v := 0) hro.1 rfl rfl (by decide +kernel) ?_
            intro g5a g5b
            refine hp_s (pc' := 21) (ls' := [(2, .int 0), (3, .int 4), (0, .int 2), (1, .int y)]) (st' := []) rfl rfl rfl ?_
            refine hp_s (pc' := 24) (ls' := [(3, .int 5), (2, .int 0), (0, .int 2), (1, .int y)]) (st' := []) rfl rfl rfl ?_
            refine hp_go (pc' := 4) rfl rfl rfl ?_
            refine hp_s (pc' := 5) (st' := [.int 5]) rfl rfl rfl ?_
            refine hp_s (pc' := 7) (st' := [.int 8, .int 5]) rfl rfl rfl ?_
            refine hp_go (pc' := 10) rfl rfl rfl ?_
            refine hp_s (pc' := 11) (st' := [.int 0]) rfl rfl rfl ?_
            refine hp_s (pc' := 12) (st' := [.int y, .int 0]) rfl rfl rfl ?_
            refine hp_ic (pc' := 15) (t := 27) (a := 0) (b := y.toInt) rfl rfl rfl (by decide) rfl (fun (h21 : 0 = y.toInt) => ?_) (fun (h22 : ¬ (0 = y.toInt)) => ?_)
            ·
              refine hp_s (pc' := 28) (st' := [.int 0]) rfl rfl rfl ?_
              refine hp_s (pc' := 29) (st' := [.int y, .int 0]) rfl rfl rfl ?_
              refine hp_ic (pc' := 32) (t := 36) (a := 0) (b := y.toInt) rfl rfl rfl (by decide) rfl (fun (h23 : 0 ≠ y.toInt) => ?_) (fun (h24 : ¬ (0 ≠ y.toInt)) => ?_)
              ·
                refine hp_s (pc' := 37) (st' := [.int 0]) rfl rfl rfl ?_
                refine hp_rb rfl rfl (fun _ => ?_)
                first | (exact k1 (by first | assumption | (unfold hUn; omega))) | (exfalso; omega)
              ·
                refine hp_s (pc' := 33) (st' := [.int 1]) rfl rfl rfl ?_
                refine hp_go (pc' := 37) rfl rfl rfl ?_
                refine hp_rb rfl rfl (fun _ => ?_)
                first | (exact k0 (by first | assumption | (unfold hUn; omega))) | (exfalso; omega)
            ·
              refine hp_sta (k := 1) (pc' := 18) rfl rfl rfl ?_
              refine hp_s (pc' := 19) (st' := [.int 0, .retAddr 1]) rfl rfl rfl ?_
              refine hp_lds (v := 0) hro.1 rfl rfl (by decide +kernel) ?_
              intro g6a g6b
              refine hp_s (pc' := 21) (ls' := [(2, .int 0), (3, .int 5), (0, .int 2), (1, .int y)]) (st' := []) rfl rfl rfl ?_
              refine hp_s (pc' := 24) (ls' := [(3, .int 6), (2, .int 0), (0, .int 2), (1, .int y)]) (st' := []) rfl rfl rfl ?_
              refine hp_go (pc' := 4) rfl rfl rfl ?_
              refine hp_s (pc' := 5) (st' := [.int 6]) rfl rfl rfl ?_
              refine hp_s (pc' := 7) (st' := [.int 8, .int 6]) rfl rfl rfl ?_
              refine hp_go (pc' := 10) rfl rfl rfl ?_
              refine hp_s (pc' := 11) (st' := [.int 0]) rfl rfl rfl ?_
              refine hp_s (pc' := 12) (st' := [.int y, .int 0]) rfl rfl rfl ?_
              refine hp_ic (pc' := 15) (t := 27) (a := 0) (b := y.toInt) rfl rfl rfl (by decide) rfl (fun (h25 : 0 = y.toInt) => ?_) (fun (h26 : ¬ (0 = y.toInt)) => ?_)
              ·
                refine hp_s (pc' := 28) (st' := [.int 0]) rfl rfl rfl ?_
                refine hp_s (pc' := 29) (st' := [.int y, .int 0]) rfl rfl rfl ?_
                refine hp_ic (pc' := 32) (t := 36) (a := 0) (b := y.toInt) rfl rfl rfl (by decide) rfl (fun (h27 : 0 ≠ y.toInt) => ?_) (fun (h28 : ¬ (0 ≠ y.toInt)) => ?_)
                ·
                  refine hp_s (pc' := 37) (st' := [.int 0]) rfl rfl rfl ?_
                  refine hp_rb rfl rfl (fun _ => ?_)
                  first | (exact k1 (by first | assumption | (unfold hUn; omega))) | (exfalso; omega)
                ·
                  refine hp_s (pc' := 33) (st' := [.int 1]) rfl rfl rfl ?_
                  refine hp_go (pc' := 37) rfl rfl rfl ?_
                  refine hp_rb rfl rfl (fun _ => ?_)
                  first | (exact k0 (by first | assumption | (unfold hUn; omega))) | (exfalso; omega)
              ·
                refine hp_sta (k := 1) (pc' := 18) rfl rfl rfl ?_
                refine hp_s (pc' := 19) (st' := [.int 0, .retAddr 1]) rfl rfl rfl ?_
                refine hp_lds (v := 0) hro.1 rfl rfl (by decide +kernel) ?_
                intro g7a g7b
                refine hp_s (pc' := 21) (ls' := [(2, .int 0), (3, .int 6), (0, .int 2), (1, .int y)]) (st' := []) rfl rfl rfl ?_
                refine hp_s (pc' := 24) (ls' := [(3, .int 7), (2, .int 0), (0, .int 2), (1, .int y)]) (st' := []) rfl rfl rfl ?_
                refine hp_go (pc' := 4) rfl rfl rfl ?_
                refine hp_s (pc' := 5) (st' := [.int 7]) rfl rfl rfl ?_
                refine hp_s (pc' := 7) (st' := [.int 8, .int 7]) rfl rfl rfl ?_
                refine hp_go (pc' := 10) rfl rfl rfl ?_
                refine hp_s (pc' := 11) (st' := [.int 0]) rfl rfl rfl ?_
                refine hp_s (pc' := 12) (st' := [.int y, .int 0]) rfl rfl rfl ?_
                refine hp_ic (pc' := 15) (t := 27) (a := 0) (b := y.toInt) rfl rfl rfl (by decide) rfl (fun (h29 : 0 = y.toInt) => ?_) (fun (h30 : ¬ (0 = y.toInt)) => ?_)
                ·
                  refine hp_s (pc' := 28) (st' := [.int 0]) rfl rfl rfl ?_
                  refine hp_s (pc' := 29) (st' := [.int y, .int 0]) rfl rfl rfl ?_
                  refine hp_ic (pc' := 32) (t := 36) (a := 0) (b := y.toInt) rfl rfl rfl (by decide) rfl (fun (h31 : 0 ≠ y.toInt) => ?_) (fun (h32 : ¬ (0 ≠ y.toInt)) => ?_)
                  ·
                    refine hp_s (pc' := 37) (st' := [.int 0]) rfl rfl rfl ?_
                    refine hp_rb rfl rfl (fun _ => ?_)
                    first | (exact k1 (by first | assumption | (unfold hUn; omega))) | (exfalso; omega)
                  ·
                    refine hp_s (pc' := 33) (st' := [.int 1]) rfl rfl rfl ?_
                    refine hp_go (pc' := 37) rfl rfl rfl ?_
                    refine hp_rb rfl rfl (fun _ => ?_)
                    first | (exact k0 (by first | assumption | (unfold hUn; omega))) | (exfalso; omega)
                ·
                  refine hp_sta (k := 1) (pc' := 18) rfl rfl rfl ?_
                  refine hp_s (pc' := 19) (st' := [.int 0, .retAddr 1]) rfl rfl rfl ?_
                  refine hp_lds (v := 0) hro.1 rfl rfl (by decide +kernel) ?_
                  intro g8a g8b
                  refine hp_s (pc' := 21) (ls' := [(2, .int 0), (3, .int 7), (0, .int 2), (1, .int y)]) (st' := []) rfl rfl rfl ?_
                  refine hp_s (pc' := 24) (ls' := [(3, .int 8), (2, .int 0), (0, .int 2), (1, .int y)]) (st' := []) rfl rfl rfl ?_
                  refine hp_go (pc' := 4) rfl rfl rfl ?_
                  refine hp_s (pc' := 5) (st' := [.int 8]) rfl rfl rfl ?_
                  refine hp_s (pc' := 7) (st' := [.int 8, .int 8]) rfl rfl rfl ?_
                  refine hp_go (pc' := 27) rfl rfl rfl ?_
                  refine hp_s (pc' := 28) (st' := [.int 0]) rfl rfl rfl ?_
                  refine hp_s (pc' := 29) (st' := [.int y, .int 0]) rfl rfl rfl ?_
                  refine hp_ic (pc' := 32) (t := 36) (a := 0) (b := y.toInt) rfl rfl rfl (by decide) rfl (fun (h33 : 0 ≠ y.toInt) => ?_) (fun (h34 : ¬ (0 ≠ y.toInt)) => ?_)
                  ·
                    refine hp_s (pc' := 37) (st' := [.int 0]) rfl rfl rfl ?_
                    refine hp_rb rfl rfl (fun _ => ?_)
                    first | (exact k1 (by first | assumption | (unfold hUn; omega))) | (exfalso; omega)
                  ·
                    refine hp_s (pc' := 33) (st' := [.int 1]) rfl rfl rfl ?_
                    refine hp_go (pc' := 37) rfl rfl rfl ?_
                    refine hp_rb rfl rfl (fun _ => ?_)
                    first | (exact k0 (by first | assumption | (unfold hUn; omega))) | (exfalso; omega)
theorem s_isUnder3 {ro : List (List Int32)} {n d : Nat} {p : xH} {Q : Option Value → xH → Prop} {y : Int32} {yi : Int} (hro : jro ro) (hy : y.toInt = yi) (pre0 : 0 ≤ yi) (pre1 : yi < 8) (k0 : (hUn 3 yi) → Q (some (.int (1))) p) (k1 : (¬ hUn 3 yi) → Q (some (.int (0))) p) : hP ro n d (9, 4, 0, 2, k109) 0 (lv_args 0 [.int 3, .int y]) [] p Q := by
  subst hy
  refine hp_id (ls := [(0, .int 3), (1, .int y)]) ?_
  refine hp_s (pc' := 1) (st' := [.int 3]) rfl rfl rfl ?_
  refine hp_s (pc' := 2) (ls' := [(2, .int 3), (0, .int 3), (1, .int y)]) (st' := []) rfl rfl rfl ?_
  refine hp_s (pc' := 3) (st' := [.int 0]) rfl rfl rfl ?_
  refine hp_s (pc' := 4) (ls' := [(3, .int 0), (2, .int 3), (0, .int 3), (1, .int y)]) (st' := []) rfl rfl rfl ?_
  refine hp_s (pc' := 5) (st' := [.int 0]) rfl rfl rfl ?_
  refine hp_s (pc' := 7) (st' := [.int 8, .int 0]) rfl rfl rfl ?_
  refine hp_go (pc' := 10) rfl rfl rfl ?_
  refine hp_s (pc' := 11) (st' := [.int 3]) rfl rfl rfl ?_
  refine hp_s (pc' := 12) (st' := [.int y, .int 3]) rfl rfl rfl ?_
  refine hp_ic (pc' := 15) (t := 27) (a := 3) (b := y.toInt) rfl rfl rfl (by decide) rfl (fun (h1 : 3 = y.toInt) => ?_) (fun (h2 : ¬ (3 = y.toInt)) => ?_)
  ·
    refine hp_s (pc' := 28) (st' := [.int 3]) rfl rfl rfl ?_
    refine hp_s (pc' := 29) (st' := [.int y, .int 3]) rfl rfl rfl ?_
    refine hp_ic (pc' := 32) (t := 36) (a := 3) (b := y.toInt) rfl rfl rfl (by decide) rfl (fun (h3 : 3 ≠ y.toInt) => ?_) (fun (h4 : ¬ (3 ≠ y.toInt)) => ?_)
    ·
      refine hp_s (pc' := 37) (st' := [.int 0]) rfl rfl rfl ?_
      refine hp_rb rfl rfl (fun _ => ?_)
      first | (exact k1 (by first | assumption | (unfold hUn; omega))) | (exfalso; omega)
    ·
      refine hp_s (pc' := 33) (st' := [.int 1]) rfl rfl rfl ?_
      refine hp_go (pc' := 37) rfl rfl rfl ?_
      refine hp_rb rfl rfl (fun _ => ?_)
      first | (exact k0 (by first | assumption | (unfold hUn; omega))) | (exfalso; omega)
  ·
    refine hp_sta (k := 1) (pc' := 18) rfl rfl rfl ?_
    refine hp_s (pc' := 19) (st' := [.int 3, .retAddr 1]) rfl rfl rfl ?_
    refine hp_lds (v := 2) hro.1 rfl rfl (by decide +kernel) ?_
    intro g1a g1b
    refine hp_s (pc' := 21) (ls' := [(2, .int 2), (3, .int 0), (0, .int 3), (1, .int y)]) (st' := []) rfl rfl rfl ?_
    refine hp_s (pc' := 24) (ls' := [(3, .int 1), (2, .int 2), (0, .int 3), (1, .int y)]) (st' := []) rfl rfl rfl ?_
    refine hp_go (pc' := 4) rfl rfl rfl ?_
    refine hp_s (pc' := 5) (st' := [.int 1]) rfl rfl rfl ?_
    refine hp_s (pc' := 7) (st' := [.int 8, .int 1]) rfl rfl rfl ?_
    refine hp_go (pc' := 10) rfl rfl rfl ?_
    refine hp_s (pc' := 11) (st' := [.int 2]) rfl rfl rfl ?_
    refine hp_s (pc' := 12) (st' := [.int y, .int 2]) rfl rfl rfl ?_
    refine hp_ic (pc' := 15) (t := 27) (a := 2) (b := y.toInt) rfl rfl rfl (by decide) rfl (fun (h5 : 2 = y.toInt) => ?_) (fun (h6 : ¬ (2 = y.toInt)) => ?_)
    ·
      refine hp_s (pc' := 28) (st' := [.int 2]) rfl rfl rfl ?_
      refine hp_s (pc' := 29) (st' := [.int y, .int 2]) rfl rfl rfl ?_
      refine hp_ic (pc' := 32) (t := 36) (a := 2) (b := y.toInt) rfl rfl rfl (by decide) rfl (fun (h7 : 2 ≠ y.toInt) => ?_) (fun (h8 : ¬ (2 ≠ y.toInt)) => ?_)
      ·
        refine hp_s (pc' := 37) (st' := [.int 0]) rfl rfl rfl ?_
        refine hp_rb rfl rfl (fun _ => ?_)
        first | (exact k1 (by first | assumption | (unfold hUn; omega))) | (exfalso; omega)
      ·
        refine hp_s (pc' := 33) (st' := [.int 1]) rfl rfl rfl ?_
        refine hp_go (pc' := 37) rfl rfl rfl ?_
        refine hp_rb rfl rfl (fun _ => ?_)
        first | (exact k0 (by first | assumption | (unfold hUn; omega))) | (exfalso; omega)
    ·
      refine hp_sta (k := 1) (pc' := 18) rfl rfl rfl ?_
      refine hp_s (pc' := 19) (st' := [.int 2, .retAddr 1]) rfl rfl rfl ?_
      refine hp_lds (v := 0) hro.1 rfl rfl (by decide +kernel) ?_
      intro g2a g2b
      refine hp_s (pc' := 21) (ls' := [(2, .int 0), (3, .int 1), (0, .int 3), (1, .int y)]) (st' := []) rfl rfl rfl ?_
      refine hp_s (pc' := 24) (ls' := [(3, .int 2), (2, .int 0), (0, .int 3), (1, .int y)]) (st' := []) rfl rfl rfl ?_
      refine hp_go (pc' := 4) rfl rfl rfl ?_
      refine hp_s (pc' := 5) (st' := [.int 2]) rfl rfl rfl ?_
      refine hp_s (pc' := 7) (st' := [.int 8, .int 2]) rfl rfl rfl ?_
      refine hp_go (pc' := 10) rfl rfl rfl ?_
      refine hp_s (pc' := 11) (st' := [.int 0]) rfl rfl rfl ?_
      refine hp_s (pc' := 12) (st' := [.int y, .int 0]) rfl rfl rfl ?_
      refine hp_ic (pc' := 15) (t := 27) (a := 0) (b := y.toInt) rfl rfl rfl (by decide) rfl (fun (h9 : 0 = y.toInt) => ?_) (fun (h10 : ¬ (0 = y.toInt)) => ?_)
      ·
        refine hp_s (pc' := 28) (st' := [.int 0]) rfl rfl rfl ?_
        refine hp_s (pc' := 29) (st' := [.int y, .int 0]) rfl rfl rfl ?_
        refine hp_ic (pc' := 32) (t := 36) (a := 0) (b := y.toInt) rfl rfl rfl (by decide) rfl (fun (h11 : 0 ≠ y.toInt) => ?_) (fun (h12 : ¬ (0 ≠ y.toInt)) => ?_)
        ·
          refine hp_s (pc' := 37) (st' := [.int 0]) rfl rfl rfl ?_
          refine hp_rb rfl rfl (fun _ => ?_)
          first | (exact k1 (by first | assumption | (unfold hUn; omega))) | (exfalso; omega)
        ·
          refine hp_s (pc' := 33) (st' := [.int 1]) rfl rfl rfl ?_
          refine hp_go (pc' := 37) rfl rfl rfl ?_
          refine hp_rb rfl rfl (fun _ => ?_)
          first | (exact k0 (by first | assumption | (unfold hUn; omega))) | (exfalso; omega)
      ·
        refine hp_sta (k := 1) (pc' := 18) rfl rfl rfl ?_
        refine hp_s (pc' := 19) (st' := [.int 0, .retAddr 1]) rfl rfl rfl ?_
        refine hp_lds (v := 0) hro.1 rfl rfl (by decide +kernel) ?_
        intro g3a g3b
        refine hp_s (pc' := 21) (ls' := [(2, .int 0), (3, .int 2), (0, .int 3), (1, .int y)]) (st' := []) rfl rfl rfl ?_
        refine hp_s (pc' := 24) (ls' := [(3, .int 3), (2, .int 0), (0, .int 3), (1, .int y)]) (st' := []) rfl rfl rfl ?_
        refine hp_go (pc' := 4) rfl rfl rfl ?_
        refine hp_s (pc' := 5) (st' := [.int 3]) rfl rfl rfl ?_
        refine hp_s (pc' := 7) (st' := [.int 8, .int 3]) rfl rfl rfl ?_
        refine hp_go (pc' := 10) rfl rfl rfl ?_
        refine hp_s (pc' := 11) (st' := [.int 0]) rfl rfl rfl ?_
        refine hp_s (pc' := 12) (st' := [.int y, .int 0]) rfl rfl rfl ?_
        refine hp_ic (pc' := 15) (t := 27) (a := 0) (b := y.toInt) rfl rfl rfl (by decide) rfl (fun (h13 : 0 = y.toInt) => ?_) (fun (h14 : ¬ (0 = y.toInt)) => ?_)
        ·
          refine hp_s (pc' := 28) (st' := [.int 0]) rfl rfl rfl ?_
          refine hp_s (pc' := 29) (st' := [.int y, .int 0]) rfl rfl rfl ?_
          refine hp_ic (pc' := 32) (t := 36) (a := 0) (b := y.toInt) rfl rfl rfl (by decide) rfl (fun (h15 : 0 ≠ y.toInt) => ?_) (fun (h16 : ¬ (0 ≠ y.toInt)) => ?_)
          ·
            refine hp_s (pc' := 37) (st' := [.int 0]) rfl rfl rfl ?_
            refine hp_rb rfl rfl (fun _ => ?_)
            first | (exact k1 (by first | assumption | (unfold hUn; omega))) | (exfalso; omega)
          ·
            refine hp_s (pc' := 33) (st' := [.int 1]) rfl rfl rfl ?_
            refine hp_go (pc' := 37) rfl rfl rfl ?_
            refine hp_rb rfl rfl (fun _ => ?_)
            first | (exact k0 (by first | assumption | (unfold hUn; omega))) | (exfalso; omega)
        ·
          refine hp_sta (k := 1) (pc' := 18) rfl rfl rfl ?_
          refine hp_s (pc' := 19) (st' := [.int 0, .retAddr 1]) rfl rfl rfl ?_
          refine hp_lds (v := 0) hro.1 rfl rfl (by decide +kernel) ?_
          intro g4a g4b
          refine hp_s (pc' := 21) (ls' := [(2, .int 0), (3, .int 3), (0, .int 3), (1, .int y)]) (st' := []) rfl rfl rfl ?_
          refine hp_s (pc' := 24) (ls' := [(3, .int 4), (2, .int 0), (0, .int 3), (1, .int y)]) (st' := []) rfl rfl rfl ?_
          refine hp_go (pc' := 4) rfl rfl rfl ?_
          refine hp_s (pc' := 5) (st' := [.int 4]) rfl rfl rfl ?_
          refine hp_s (pc' := 7) (st' := [.int 8, .int 4]) rfl rfl rfl ?_
          refine hp_go (pc' := 10) rfl rfl rfl ?_
          refine hp_s (pc' := 11) (st' := [.int 0]) rfl rfl rfl ?_
          refine hp_s (pc' := 12) (st' := [.int y, .int 0]) rfl rfl rfl ?_
          refine hp_ic (pc' := 15) (t := 27) (a := 0) (b := y.toInt) rfl rfl rfl (by decide) rfl (fun (h17 : 0 = y.toInt) => ?_) (fun (h18 : ¬ (0 = y.toInt)) => ?_)
          ·
            refine hp_s (pc' := 28) (st' := [.int 0]) rfl rfl rfl ?_
            refine hp_s (pc' := 29) (st' := [.int y, .int 0]) rfl rfl rfl ?_
            refine hp_ic (pc' := 32) (t := 36) (a := 0) (b := y.toInt) rfl rfl rfl (by decide) rfl (fun (h19 : 0 ≠ y.toInt) => ?_) (fun (h20 : ¬ (0 ≠ y.toInt)) => ?_)
            ·
              refine hp_s (pc' := 37) (st' := [.int 0]) rfl rfl rfl ?_
              refine hp_rb rfl rfl (fun _ => ?_)
              first | (exact k1 (by first | assumption | (unfold hUn; omega))) | (exfalso; omega)
            ·
              refine hp_s (pc' := 33) (st' := [.int 1]) rfl rfl rfl ?_
              refine hp_go (pc' := 37) rfl rfl rfl ?_
              refine hp_rb rfl rfl (fun _ => ?_)
              first | (exact k0 (by first | assumption | (unfold hUn; omega))) | (exfalso; omega)
          ·
            refine hp_sta (k := 1) (pc' := 18) rfl rfl rfl ?_
            refine hp_s (pc' := 19) (st' := [.int 0, .retAddr 1]) rfl rfl rfl ?_
            refine hp_lds (v := 0) hro.1 rfl rfl (by decide +kernel) ?_
            intro g5a g5b
            refine hp_s (pc' := 21) (ls' := [(2, .int 0), (3, .int 4), (0, .int 3), (1, .int y)]) (st' := []) rfl rfl rfl ?_
            refine hp_s (pc' := 24) (ls' := [(3, .int 5), (2, .int 0), (0, .int 3), (1, .int y)]) (st' := []) rfl rfl rfl ?_
            refine hp_go (pc' := 4) rfl rfl rfl ?_
            refine hp_s (pc' := 5) (st' := [.int 5]) rfl rfl rfl ?_
            refine hp_s (pc' := 7) (st' := [.int 8, .int 5]) rfl rfl rfl ?_
            refine hp_go (pc' := 10) rfl rfl rfl ?_
            refine hp_s (pc' := 11) (st' := [.int 0]) rfl rfl rfl ?_
            refine hp_s (pc' := 12) (st' := [.int y, .int 0]) rfl rfl rfl ?_
            refine hp_ic (pc' := 15) (t := 27) (a := 0) (b := y.toInt) rfl rfl rfl (by decide) rfl (fun (h21 : 0 = y.toInt) => ?_) (fun (h22 : ¬ (0 = y.toInt)) => ?_)
            ·
              refine hp_s (pc' := 28) (st' := [.int 0]) rfl rfl rfl ?_
              refine hp_s (pc' := 29) (st' := [.int y, .int 0]) rfl rfl rfl ?_
              refine hp_ic (pc' := 32) (t := 36) (a := 0) (b := y.toInt) rfl rfl rfl (by decide) rfl (fun (h23 : 0 ≠ y.toInt) => ?_) (fun (h24 : ¬ (0 ≠ y.toInt)) => ?_)
              ·
                refine hp_s (pc' := 37) (st' := [.int 0]) rfl rfl rfl ?_
                refine hp_rb rfl rfl (fun _ => ?_)
                first | (exact k1 (by first | assumption | (unfold hUn; omega))) | (exfalso; omega)
              ·
                refine hp_s (pc' := 33) (st' := [.int 1]) rfl rfl rfl ?_
                refine hp_go (pc' := 37) rfl rfl rfl ?_
                refine hp_rb rfl rfl (fun _ => ?_)
                first | (exact k0 (by first | assumption | (unfold hUn; omega))) | (exfalso; omega)
            ·
              refine hp_sta (k := 1) (pc' := 18) rfl rfl rfl ?_
              refine hp_s (pc' := 19) (st' := [.int 0, .retAddr 1]) rfl rfl rfl ?_
              refine hp_lds (v := 0) hro.1 rfl rfl (by decide +kernel) ?_
              intro g6a g6b
              refine hp_s (pc' := 21) (ls' := [(2, .int 0), (3, .int 5), (0, .int 3), (1, .int y)]) (st' := []) rfl rfl rfl ?_
              refine hp_s (pc' := 24) (ls' := [(3, .int 6), (2, .int 0), (0, .int 3), (1, .int y)]) (st' := []) rfl rfl rfl ?_
              refine hp_go (pc' := 4) rfl rfl rfl ?_
              refine hp_s (pc' := 5) (st' := [.int 6]) rfl rfl rfl ?_
              refine hp_s (pc' := 7) (st' := [.int 8, .int 6]) rfl rfl rfl ?_
              refine hp_go (pc' := 10) rfl rfl rfl ?_
              refine hp_s (pc' := 11) (st' := [.int 0]) rfl rfl rfl ?_
              refine hp_s (pc' := 12) (st' := [.int y, .int 0]) rfl rfl rfl ?_
              refine hp_ic (pc' := 15) (t := 27) (a := 0) (b := y.toInt) rfl rfl rfl (by decide) rfl (fun (h25 : 0 = y.toInt) => ?_) (fun (h26 : ¬ (0 = y.toInt)) => ?_)
              ·
                refine hp_s (pc' := 28) (st' := [.int 0]) rfl rfl rfl ?_
                refine hp_s (pc' := 29) (st' := [.int y, .int 0]) rfl rfl rfl ?_
                refine hp_ic (pc' := 32) (t := 36) (a := 0) (b := y.toInt) rfl rfl rfl (by decide) rfl (fun (h27 : 0 ≠ y.toInt) => ?_) (fun (h28 : ¬ (0 ≠ y.toInt)) => ?_)
                ·
                  refine hp_s (pc' := 37) (st' := [.int 0]) rfl rfl rfl ?_
                  refine hp_rb rfl rfl (fun _ => ?_)
                  first | (exact k1 (by first | assumption | (unfold hUn; omega))) | (exfalso; omega)
                ·
                  refine hp_s (pc' := 33) (st' := [.int 1]) rfl rfl rfl ?_
                  refine hp_go (pc' := 37) rfl rfl rfl ?_
                  refine hp_rb rfl rfl (fun _ => ?_)
                  first | (exact k0 (by first | assumption | (unfold hUn; omega))) | (exfalso; omega)
              ·
                refine hp_sta (k := 1) (pc' := 18) rfl rfl rfl ?_
                refine hp_s (pc' := 19) (st' := [.int 0, .retAddr 1]) rfl rfl rfl ?_
                refine hp_lds (v := 0) hro.1 rfl rfl (by decide +kernel) ?_
                intro g7a g7b
                refine hp_s (pc' := 21) (ls' := [(2, .int 0), (3, .int 6), (0, .int 3), (1, .int y)]) (st' := []) rfl rfl rfl ?_
                refine hp_s (pc' := 24) (ls' := [(3, .int 7), (2, .int 0), (0, .int 3), (1, .int y)]) (st' := []) rfl rfl rfl ?_
                refine hp_go (pc' := 4) rfl rfl rfl ?_
                refine hp_s (pc' := 5) (st' := [.int 7]) rfl rfl rfl ?_
                refine hp_s (pc' := 7) (st' := [.int 8, .int 7]) rfl rfl rfl ?_
                refine hp_go (pc' := 10) rfl rfl rfl ?_
                refine hp_s (pc' := 11) (st' := [.int 0]) rfl rfl rfl ?_
                refine hp_s (pc' := 12) (st' := [.int y, .int 0]) rfl rfl rfl ?_
                refine hp_ic (pc' := 15) (t := 27) (a := 0) (b := y.toInt) rfl rfl rfl (by decide) rfl (fun (h29 : 0 = y.toInt) => ?_) (fun (h30 : ¬ (0 = y.toInt)) => ?_)
                ·
                  refine hp_s (pc' := 28) (st' := [.int 0]) rfl rfl rfl ?_
                  refine hp_s (pc' := 29) (st' := [.int y, .int 0]) rfl rfl rfl ?_
                  refine hp_ic (pc' := 32) (t := 36) (a := 0) (b := y.toInt) rfl rfl rfl (by decide) rfl (fun (h31 : 0 ≠ y.toInt) => ?_) (fun (h32 : ¬ (0 ≠ y.toInt)) => ?_)
                  ·
                    refine hp_s (pc' := 37) (st' := [.int 0]) rfl rfl rfl ?_
                    refine hp_rb rfl rfl (fun _ => ?_)
                    first | (exact k1 (by first | assumption | (unfold hUn; omega))) | (exfalso; omega)
                  ·
                    refine hp_s (pc' := 33) (st' := [.int 1]) rfl rfl rfl ?_
                    refine hp_go (pc' := 37) rfl rfl rfl ?_
                    refine hp_rb rfl rfl (fun _ => ?_)
                    first | (exact k0 (by first | assumption | (unfold hUn; omega))) | (exfalso; omega)
                ·
                  refine hp_sta (k := 1) (pc' := 18) rfl rfl rfl ?_
                  refine hp_s (pc' := 19) (st' := [.int 0, .retAddr 1]) rfl rfl rfl ?_
                  refine hp_lds (v := 0) hro.1 rfl rfl (by decide +kernel) ?_
                  intro g8a g8b
                  refine hp_s (pc' := 21) (ls' := [(2, .int 0), (3, .int 7), (0, .int 3), (1, .int y)]) (st' := []) rfl rfl rfl ?_
                  refine hp_s (pc' := 24) (ls' := [(3, .int 8), (2, .int 0), (0, .int 3), (1, .int y)]) (st' := []) rfl rfl rfl ?_
                  refine hp_go (pc' := 4) rfl rfl rfl ?_
                  refine hp_s (pc' := 5) (st' := [.int 8]) rfl rfl rfl ?_
                  refine hp_s (pc' := 7) (st' := [.int 8, .int 8]) rfl rfl rfl ?_
                  refine hp_go (pc' := 27) rfl rfl rfl ?_
                  refine hp_s (pc' := 28) (st' := [.int 0]) rfl rfl rfl ?_
                  refine hp_s (pc' := 29) (st' := [.int y, .int 0]) rfl rfl rfl ?_
                  refine hp_ic (pc' := 32) (t := 36) (a := 0) (b := y.toInt) rfl rfl rfl (by decide) rfl (fun (h33 : 0 ≠ y.toInt) => ?_) (fun (h34 : ¬ (0 ≠ y.toInt)) => ?_)
                  ·
                    refine hp_s (pc' := 37) (st' := [.int 0]) rfl rfl rfl ?_
                    refine hp_rb rfl rfl (fun _ => ?_)
                    first | (exact k1 (by first | assumption | (unfold hUn; omega))) | (exfalso; omega)
                  ·
                    refine hp_s (pc' := 33) (st' := [.int 1]) rfl rfl rfl ?_
                    refine hp_go (pc' := 37) rfl rfl rfl ?_
                    refine hp_rb rfl rfl (fun _ => ?_)
                    first | (exact k0 (by first | assumption | (unfold hUn; omega))) | (exfalso; omega)
theorem s_isUnder4 {ro : List (List Int32)} {n d : Nat} {p : xH} {Q : Option Value → xH → Prop} {y : Int32} {yi : Int} (hro : jro ro) (hy : y.toInt = yi) (pre0 : 0 ≤ yi) (pre1 : yi < 8) (k0 : (hUn 4 yi) → Q (some (.int (1))) p) (k1 : (¬ hUn 4 yi) → Q (some (.int (0))) p) : hP ro n d (9, 4, 0, 2, k109) 0 (lv_args 0 [.int 4, .int y]) [] p Q := by
  subst hy
  refine hp_id (ls := [(0, .int 4), (1, .int y)]) ?_
  refine hp_s (pc' := 1) (st' := [.int 4]) rfl rfl rfl ?_
  refine hp_s (pc' := 2) (ls' := [(2, .int 4), (0, .int 4), (1, .int y)]) (st' := []) rfl rfl rfl ?_
  refine hp_s (pc' := 3) (st' := [.int 0]) rfl rfl rfl ?_
  refine hp_s (pc' := 4) (ls' := [(3, .int 0), (2, .int 4), (0, .int 4), (1, .int y)]) (st' := []) rfl rfl rfl ?_
  refine hp_s (pc' := 5) (st' := [.int 0]) rfl rfl rfl ?_
  refine hp_s (pc' := 7) (st' := [.int 8, .int 0]) rfl rfl rfl ?_
  refine hp_go (pc' := 10) rfl rfl rfl ?_
  refine hp_s (pc' := 11) (st' := [.int 4]) rfl rfl rfl ?_
  refine hp_s (pc' := 12) (st' := [.int y, .int 4]) rfl rfl rfl ?_
  refine hp_ic (pc' := 15) (t := 27) (a := 4) (b := y.toInt) rfl rfl rfl (by decide) rfl (fun (h1 : 4 = y.toInt) => ?_) (fun (h2 : ¬ (4 = y.toInt)) => ?_)
  ·
    refine hp_s (pc' := 28) (st' := [.int 4]) rfl rfl rfl ?_
    refine hp_s (pc' := 29) (st' := [.int y, .int 4]) rfl rfl rfl ?_
    refine hp_ic (pc' := 32) (t := 36) (a := 4) (b := y.toInt) rfl rfl rfl (by decide) rfl (fun (h3 : 4 ≠ y.toInt) => ?_) (fun (h4 : ¬ (4 ≠ y.toInt)) => ?_)
    ·
      refine hp_s (pc' := 37) (st' := [.int 0]) rfl rfl rfl ?_
      refine hp_rb rfl rfl (fun _ => ?_)
      first | (exact k1 (by first | assumption | (unfold hUn; omega))) | (exfalso; omega)
    ·
      refine hp_s (pc' := 33) (st' := [.int 1]) rfl rfl rfl ?_
      refine hp_go (pc' := 37) rfl rfl rfl ?_
      refine hp_rb rfl rfl (fun _ => ?_)
      first | (exact k0 (by first | assumption | (unfold hUn; omega))) | (exfalso; omega)
  ·
    refine hp_sta (k := 1) (pc' := 18) rfl rfl rfl ?_
    refine hp_s (pc' := 19) (st' := [.int 4, .retAddr 1]) rfl rfl rfl ?_
    refine hp_lds (v := 1) hro.1 rfl rfl (by decide +kernel) ?_
    intro g1a g1b
    refine hp_s (pc' := 21) (ls' := [(2, .int 1), (3, .int 0), (0, .int 4), (1, .int y)]) (st' := []) rfl rfl rfl ?_
    refine hp_s (pc' := 24) (ls' := [(3, .int 1), (2, .int 1), (0, .int 4), (1, .int y)]) (st' := []) rfl rfl rfl ?_
    refine hp_go (pc' := 4) rfl rfl rfl ?_
    refine hp_s (pc' := 5) (st' := [.int 1]) rfl rfl rfl ?_
    refine hp_s (pc' := 7) (st' := [.int 8, .int 1]) rfl rfl rfl ?_
    refine hp_go (pc' := 10) rfl rfl rfl ?_
    refine hp_s (pc' := 11) (st' := [.int 1]) rfl rfl rfl ?_
    refine hp_s (pc' := 12) (st' := [.int y, .int 1]) rfl rfl rfl ?_
    refine hp_ic (pc' := 15) (t := 27) (a := 1) (b := y.toInt) rfl rfl rfl (by decide) rfl (fun (h5 : 1 = y.toInt) => ?_) (fun (h6 : ¬ (1 = y.toInt)) => ?_)
    ·
      refine hp_s (pc' := 28) (st' := [.int 1]) rfl rfl rfl ?_
      refine hp_s (pc' := 29) (st' := [.int y, .int 1]) rfl rfl rfl ?_
      refine hp_ic (pc' := 32) (t := 36) (a := 1) (b := y.toInt) rfl rfl rfl (by decide) rfl (fun (h7 : 1 ≠ y.toInt) => ?_) (fun (h8 : ¬ (1 ≠ y.toInt)) => ?_)
      ·
        refine hp_s (pc' := 37) (st' := [.int 0]) rfl rfl rfl ?_
        refine hp_rb rfl rfl (fun _ => ?_)
        first | (exact k1 (by first | assumption | (unfold hUn; omega))) | (exfalso; omega)
      ·
        refine hp_s (pc' := 33) (st' := [.int 1]) rfl rfl rfl ?_
        refine hp_go (pc' := 37) rfl rfl rfl ?_
        refine hp_rb rfl rfl (fun _ => ?_)
        first | (exact k0 (by first | assumption | (unfold hUn; omega))) | (exfalso; omega)
    ·
      refine hp_sta (k := 1) (pc' := 18) rfl rfl rfl ?_
      refine hp_s (pc' := 19) (st' := [.int 1, .retAddr 1]) rfl rfl rfl ?_
      refine hp_lds (v := 0) hro.1 rfl rfl (by decide +kernel) ?_
      intro g2a g2b
      refine hp_s (pc' := 21) (ls' := [(2, .int 0), (3, .int 1), (0, .int 4), (1, .int y)]) (st' := []) rfl rfl rfl ?_
      refine hp_s (pc' := 24) (ls' := [(3, .int 2), (2, .int 0), (0, .int 4), (1, .int y)]) (st' := []) rfl rfl rfl ?_
      refine hp_go (pc' := 4) rfl rfl rfl ?_
      refine hp_s (pc' := 5) (st' := [.int 2]) rfl rfl rfl ?_
      refine hp_s (pc' := 7) (st' := [.int 8, .int 2]) rfl rfl rfl ?_
      refine hp_go (pc' := 10) rfl rfl rfl ?_
      refine hp_s (pc' := 11) (st' := [.int 0]) rfl rfl rfl ?_
      refine hp_s (pc' := 12) (st' := [.int y, .int 0]) rfl rfl rfl ?_
      refine hp_ic (pc' := 15) (t := 27) (a := 0) (b := y.toInt) rfl rfl rfl (by decide) rfl (fun (h9 : 0 = y.toInt) => ?_) (fun (h10 : ¬ (0 = y.toInt)) => ?_)
      ·
        refine hp_s (pc' := 28) (st' := [.int 0]) rfl rfl rfl ?_
        refine hp_s (pc' := 29) (st' := [.int y, .int 0]) rfl rfl rfl ?_
        refine hp_ic (pc' := 32) (t := 36) (a := 0) (b := y.toInt) rfl rfl rfl (by decide) rfl (fun (h11 : 0 ≠ y.toInt) => ?_) (fun (h12 : ¬ (0 ≠ y.toInt)) => ?_)
        ·
          refine hp_s (pc' := 37) (st' := [.int 0]) rfl rfl rfl ?_
          refine hp_rb rfl rfl (fun _ => ?_)
          first | (exact k1 (by first | assumption | (unfold hUn; omega))) | (exfalso; omega)
        ·
          refine hp_s (pc' := 33) (st' := [.int 1]) rfl rfl rfl ?_
          refine hp_go (pc' := 37) rfl rfl rfl ?_
          refine hp_rb rfl rfl (fun _ => ?_)
          first | (exact k0 (by first | assumption | (unfold hUn; omega))) | (exfalso; omega)
      ·
        refine hp_sta (k := 1) (pc' := 18) rfl rfl rfl ?_
        refine hp_s (pc' := 19) (st' := [.int 0, .retAddr 1]) rfl rfl rfl ?_
        refine hp_lds (v := 0) hro.1 rfl rfl (by decide +kernel) ?_
        intro g3a g3b
        refine hp_s (pc' := 21) (ls' := [(2, .int 0), (3, .int 2), (0, .int 4), (1, .int y)]) (st' := []) rfl rfl rfl ?_
        refine hp_s (pc' := 24) (ls' := [(3, .int 3), (2, .int 0), (0, .int 4), (1, .int y)]) (st' := []) rfl rfl rfl ?_
        refine hp_go (pc' := 4) rfl rfl rfl ?_
        refine hp_s (pc' := 5) (st' := [.int 3]) rfl rfl rfl ?_
        refine hp_s (pc' := 7) (st' := [.int 8, .int 3]) rfl rfl rfl ?_
        refine hp_go (pc' := 10) rfl rfl rfl ?_
        refine hp_s (pc' := 11) (st' := [.int 0]) rfl rfl rfl ?_
        refine hp_s (pc' := 12) (st' := [.int y, .int 0]) rfl rfl rfl ?_
        refine hp_ic (pc' := 15) (t := 27) (a := 0) (b := y.toInt) rfl rfl rfl (by decide) rfl (fun (h13 : 0 = y.toInt) => ?_) (fun (h14 : ¬ (0 = y.toInt)) => ?_)
        ·
          refine hp_s (pc' := 28) (st' := [.int 0]) rfl rfl rfl ?_
          refine hp_s (pc' := 29) (st' := [.int y, .int 0]) rfl rfl rfl ?_
          refine hp_ic (pc' := 32) (t := 36) (a := 0) (b := y.toInt) rfl rfl rfl (by decide) rfl (fun (h15 : 0 ≠ y.toInt) => ?_) (fun (h16 : ¬ (0 ≠ y.toInt)) => ?_)
          ·
            refine hp_s (pc' := 37) (st' := [.int 0]) rfl rfl rfl ?_
            refine hp_rb rfl rfl (fun _ => ?_)
            first | (exact k1 (by first | assumption | (unfold hUn; omega))) | (exfalso; omega)
          ·
            refine hp_s (pc' := 33) (st' := [.int 1]) rfl rfl rfl ?_
            refine hp_go (pc' := 37) rfl rfl rfl ?_
            refine hp_rb rfl rfl (fun _ => ?_)
            first | (exact k0 (by first | assumption | (unfold hUn; omega))) | (exfalso; omega)
        ·
          refine hp_sta (k := 1) (pc' := 18) rfl rfl rfl ?_
          refine hp_s (pc' := 19) (st' := [.int 0, .retAddr 1]) rfl rfl rfl ?_
          refine hp_lds (v := 0) hro.1 rfl rfl (by decide +kernel) ?_
          intro g4a g4b
          refine hp_s (pc' := 21) (ls' := [(2, .int 0), (3, .int 3), (0, .int 4), (1, .int y)]) (st' := []) rfl rfl rfl ?_
          refine hp_s (pc' := 24) (ls' := [(3, .int 4), (2, .int 0), (0, .int 4), (1, .int y)]) (st' := []) rfl rfl rfl ?_
          refine hp_go (pc' := 4) rfl rfl rfl ?_
          refine hp_s (pc' := 5) (st' := [.int 4]) rfl rfl rfl ?_
          refine hp_s (pc' := 7) (st' := [.int 8, .int 4]) rfl rfl rfl ?_
          refine hp_go (pc' := 10) rfl rfl rfl ?_
          refine hp_s (pc' := 11) (st' := [.int 0]) rfl rfl rfl ?_
          refine hp_s (pc' := 12) (st' := [.int y, .int 0]) rfl rfl rfl ?_
          refine hp_ic (pc' := 15) (t := 27) (a := 0) (b := y.toInt) rfl rfl rfl (by decide) rfl (fun (h17 : 0 = y.toInt) => ?_) (fun (h18 : ¬ (0 = y.toInt)) => ?_)
          ·
            refine hp_s (pc' := 28) (st' := [.int 0]) rfl rfl rfl ?_
            refine hp_s (pc' := 29) (st' := [.int y, .int 0]) rfl rfl rfl ?_
            refine hp_ic (pc' := 32) (t := 36) (a := 0) (b := y.toInt) rfl rfl rfl (by decide) rfl (fun (h19 : 0 ≠ y.toInt) => ?_) (fun (h20 : ¬ (0 ≠ y.toInt)) => ?_)
            ·
              refine hp_s (pc' := 37) (st' := [.int 0]) rfl rfl rfl ?_
              refine hp_rb rfl rfl (fun _ => ?_)
              first | (exact k1 (by first | assumption | (unfold hUn; omega))) | (exfalso; omega)
            ·
              refine hp_s (pc' := 33) (st' := [.int 1]) rfl rfl rfl ?_
              refine hp_go (pc' := 37) rfl rfl rfl ?_
              refine hp_rb rfl rfl (fun _ => ?_)
              first | (exact k0 (by first | assumption | (unfold hUn; omega))) | (exfalso; omega)
          ·
            refine hp_sta (k := 1) (pc' := 18) rfl rfl rfl ?_
            refine hp_s (pc' := 19) (st' := [.int 0, .retAddr 1]) rfl rfl rfl ?_
            refine hp_lds (v := 0) hro.1 rfl rfl (by decide +kernel) ?_
            intro g5a g5b
            refine hp_s (pc' := 21) (ls' := [(2, .int 0), (3, .int 4), (0, .int 4), (1, .int y)]) (st' := []) rfl rfl rfl ?_
            refine hp_s (pc' := 24) (ls' := [(3, .int 5), (2, .int 0), (0, .int 4), (1, .int y)]) (st' := []) rfl rfl rfl ?_
            refine hp_go (pc' := 4) rfl rfl rfl ?_
            refine hp_s (pc' := 5) (st' := [.int 5]) rfl rfl rfl ?_
            refine hp_s (pc' := 7) (st' := [.int 8, .int 5]) rfl rfl rfl ?_
            refine hp_go (pc' := 10) rfl rfl rfl ?_
            refine hp_s (pc' := 11) (st' := [.int 0]) rfl rfl rfl ?_
            refine hp_s (pc' := 12) (st' := [.int y, .int 0]) rfl rfl rfl ?_
            refine hp_ic (pc' := 15) (t := 27) (a := 0) (b := y.toInt) rfl rfl rfl (by decide) rfl (fun (h21 : 0 = y.toInt) => ?_) (fun (h22 : ¬ (0 = y.toInt)) => ?_)
            ·
              refine hp_s (pc' := 28) (st' := [.int 0]) rfl rfl rfl ?_
              refine hp_s (pc' := 29) (st' := [.int y, .int 0]) rfl rfl rfl ?_
              refine hp_ic (pc' := 32) (t := 36) (a := 0) (b := y.toInt) rfl rfl rfl (by decide) rfl (fun (h23 : 0 ≠ y.toInt) => ?_) (fun (h24 : ¬ (0 ≠ y.toInt)) => ?_)
              ·
                refine hp_s (pc' := 37) (st' := [.int 0]) rfl rfl rfl ?_
                refine hp_rb rfl rfl (fun _ => ?_)
                first | (exact k1 (by first | assumption | (unfold hUn; omega))) | (exfalso; omega)
              ·
                refine hp_s (pc' := 33) (st' := [.int 1]) rfl rfl rfl ?_
                refine hp_go (pc' := 37) rfl rfl rfl ?_
                refine hp_rb rfl rfl (fun _ => ?_)
                first | (exact k0 (by first | assumption | (unfold hUn; omega))) | (exfalso; omega)
            ·
              refine hp_sta (k := 1) (pc' := 18) rfl rfl rfl ?_
              refine hp_s (pc' := 19) (st' := [.int 0, .retAddr 1]) rfl rfl rfl ?_
              refine hp_lds (v := 0) hro.1 rfl rfl (by decide +kernel) ?_
              intro g6a g6b
              refine hp_s (pc' := 21) (ls' := [(2, .int 0), (3, .int 5), (0, .int 4), (1, .int y)]) (st' := []) rfl rfl rfl ?_
              refine hp_s (pc' := 24) (ls' := [(3, .int 6), (2, .int 0), (0, .int 4), (1, .int y)]) (st' := []) rfl rfl rfl ?_
              refine hp_go (pc' := 4) rfl rfl rfl ?_
              refine hp_s (pc' := 5) (st' := [.int 6]) rfl rfl rfl ?_
              refine hp_s (pc' := 7) (st' := [.int 8, .int 6]) rfl rfl rfl ?_
              refine hp_go (pc' := 10) rfl rfl rfl ?_
              refine hp_s (pc' := 11) (st' := [.int 0]) rfl rfl rfl ?_
              refine hp_s (pc' := 12) (st' := [.int y, .int 0]) rfl rfl rfl ?_
              refine hp_ic (pc' := 15) (t := 27) (a := 0) (b := y.toInt) rfl rfl rfl (by decide) rfl (fun (h25 : 0 = y.toInt) => ?_) (fun (h26 : ¬ (0 = y.toInt)) => ?_)
              ·
                refine hp_s (pc' := 28) (st' := [.int 0]) rfl rfl rfl ?_
                refine hp_s (pc' := 29) (st' := [.int y, .int 0]) rfl rfl rfl ?_
                refine hp_ic (pc' := 32) (t := 36) (a := 0) (b := y.toInt) rfl rfl rfl (by decide) rfl (fun (h27 : 0 ≠ y.toInt) => ?_) (fun (h28 : ¬ (0 ≠ y.toInt)) => ?_)
                ·
                  refine hp_s (pc' := 37) (st' := [.int 0]) rfl rfl rfl ?_
                  refine hp_rb rfl rfl (fun _ => ?_)
                  first | (exact k1 (by first | assumption | (unfold hUn; omega))) | (exfalso; omega)
                ·
                  refine hp_s (pc' := 33) (st' := [.int 1]) rfl rfl rfl ?_
                  refine hp_go (pc' := 37) rfl rfl rfl ?_
                  refine hp_rb rfl rfl (fun _ => ?_)
                  first | (exact k0 (by first | assumption | (unfold hUn; omega))) | (exfalso; omega)
              ·
                refine hp_sta (k := 1) (pc' := 18) rfl rfl rfl ?_
                refine hp_s (pc' := 19) (st' := [.int 0, .retAddr 1]) rfl rfl rfl ?_
                refine hp_lds (v := 0) hro.1 rfl rfl (by decide +kernel) ?_
                intro g7a g7b
                refine hp_s (pc' := 21) (ls' := [(2, .int 0), (3, .int 6), (0, .int 4), (1, .int y)]) (st' := []) rfl rfl rfl ?_
                refine hp_s (pc' := 24) (ls' := [(3, .int 7), (2, .int 0), (0, .int 4), (1, .int y)]) (st' := []) rfl rfl rfl ?_
                refine hp_go (pc' := 4) rfl rfl rfl ?_
                refine hp_s (pc' := 5) (st' := [.int 7]) rfl rfl rfl ?_
                refine hp_s (pc' := 7) (st' := [.int 8, .int 7]) rfl rfl rfl ?_
                refine hp_go (pc' := 10) rfl rfl rfl ?_
                refine hp_s (pc' := 11) (st' := [.int 0]) rfl rfl rfl ?_
                refine hp_s (pc' := 12) (st' := [.int y, .int 0]) rfl rfl rfl ?_
                refine hp_ic (pc' := 15) (t := 27) (a := 0) (b := y.toInt) rfl rfl rfl (by decide) rfl (fun (h29 : 0 = y.toInt) => ?_) (fun (h30 : ¬ (0 = y.toInt)) => ?_)
                ·
                  refine hp_s (pc' := 28) (st' := [.int 0]) rfl rfl rfl ?_
                  refine hp_s (pc' := 29) (st' := [.int y, .int 0]) rfl rfl rfl ?_
                  refine hp_ic (pc' := 32) (t := 36) (a := 0) (b := y.toInt) rfl rfl rfl (by decide) rfl (fun (h31 : 0 ≠ y.toInt) => ?_) (fun (h32 : ¬ (0 ≠ y.toInt)) => ?_)
                  ·
                    refine hp_s (pc' := 37) (st' := [.int 0]) rfl rfl rfl ?_
                    refine hp_rb rfl rfl (fun _ => ?_)
                    first | (exact k1 (by first | assumption | (unfold hUn; omega))) | (exfalso; omega)
                  ·
                    refine hp_s (pc' := 33) (st' := [.int 1]) rfl rfl rfl ?_
                    refine hp_go (pc' := 37) rfl rfl rfl ?_
                    refine hp_rb rfl rfl (fun _ => ?_)
                    first | (exact k0 (by first | assumption | (unfold hUn; omega))) | (exfalso; omega)
                ·
                  refine hp_sta (k := 1) (pc' := 18) rfl rfl rfl ?_
                  refine hp_s (pc' := 19) (st' := [.int 0, .retAddr 1]) rfl rfl rfl ?_
                  refine hp_lds (v := 0) hro.1 rfl rfl (by decide +kernel) ?_
                  intro g8a g8b
                  refine hp_s (pc' := 21) (ls' := [(2, .int 0), (3, .int 7), (0, .int 4), (1, .int y)]) (st' := []) rfl rfl rfl ?_
                  refine hp_s (pc' := 24) (ls' := [(3, .int 8), (2, .int 0), (0, .int 4), (1, .int y)]) (st' := []) rfl rfl rfl ?_
                  refine hp_go (pc' := 4) rfl rfl rfl ?_
                  refine hp_s (pc' := 5) (st' := [.int 8]) rfl rfl rfl ?_
                  refine hp_s (pc' := 7) (st' := [.int 8, .int 8]) rfl rfl rfl ?_
                  refine hp_go (pc' := 27) rfl rfl rfl ?_
                  refine hp_s (pc' := 28) (st' := [.int 0]) rfl rfl rfl ?_
                  refine hp_s (pc' := 29) (st' := [.int y, .int 0]) rfl rfl rfl ?_
                  refine hp_ic (pc' := 32) (t := 36) (a := 0) (b := y.toInt) rfl rfl rfl (by decide) rfl (fun (h33 : 0 ≠ y.toInt) => ?_) (fun (h34 : ¬ (0 ≠ y.toInt)) => ?_)
                  ·
                    refine hp_s (pc' := 37) (st' := [.int 0]) rfl rfl rfl ?_
                    refine hp_rb rfl rfl (fun _ => ?_)
                    first | (exact k1 (by first | assumption | (unfold hUn; omega))) | (exfalso; omega)
                  ·
                    refine hp_s (pc' := 33) (st' := [.int 1]) rfl rfl rfl ?_
                    refine hp_go (pc' := 37) rfl rfl rfl ?_
                    refine hp_rb rfl rfl (fun _ => ?_)
                    first | (exact k0 (by first | assumption | (unfold hUn; omega))) | (exfalso; omega)
theorem s_isUnder5 {ro : List (List Int32)} {n d : Nat} {p : xH} {Q : Option Value → xH → Prop} {y : Int32} {yi : Int} (hro : jro ro) (hy : y.toInt = yi) (pre0 : 0 ≤ yi) (pre1 : yi < 8) (k0 : (hUn 5 yi) → Q (some (.int (1))) p) (k1 : (¬ hUn 5 yi) → Q (some (.int (0))) p) : hP ro n d (9, 4, 0, 2, k109) 0 (lv_args 0 [.int 5, .int y]) [] p Q := by
  subst hy
  refine hp_id (ls := [(0, .int 5), (1, .int y)]) ?_
  refine hp_s (pc' := 1) (st' := [.int 5]) rfl rfl rfl ?_
  refine hp_s (pc' := 2) (ls' := [(2, .int 5), (0, .int 5), (1, .int y)]) (st' := []) rfl rfl rfl ?_
  refine hp_s (pc' := 3) (st' := [.int 0]) rfl rfl rfl ?_
  refine hp_s (pc' := 4) (ls' := [(3, .int 0), (2, .int 5), (0, .int 5), (1, .int y)]) (st' := []) rfl rfl rfl ?_
  refine hp_s (pc' := 5) (st' := [.int 0]) rfl rfl rfl ?_
  refine hp_s (pc' := 7) (st' := [.int 8, .int 0]) rfl rfl rfl ?_
  refine hp_go (pc' := 10) rfl rfl rfl ?_
  refine hp_s (pc' := 11) (st' := [.int 5]) rfl rfl rfl ?_
  refine hp_s (pc' := 12) (st' := [.int y, .int 5]) rfl rfl rfl ?_
  refine hp_ic (pc' := 15) (t := 27) (a := 5) (b := y.toInt) rfl rfl rfl (by decide) rfl (fun (h1 : 5 = y.toInt) => ?_) (fun (h2 : ¬ (5 = y.toInt)) => ?_)
  ·
    refine hp_s (pc' := 28) (st' := [.int 5]) rfl rfl rfl ?_
    refine hp_s (pc' := 29) (st' := [.int y, .int 5]) rfl rfl rfl ?_
    refine hp_ic (pc' := 32) (t := 36) (a := 5) (b := y.toInt) rfl rfl rfl (by decide) rfl (fun (h3 : 5 ≠ y.toInt) => ?_) (fun (h4 : ¬ (5 ≠ y.toInt)) => ?_)
    ·
      refine hp_s (pc' := 37) (st' := [.int 0]) rfl rfl rfl ?_
      refine hp_rb rfl rfl (fun _ => ?_)
      first | (exact k1 (by first | assumption | (unfold hUn; omega))) | (exfalso; omega)
    ·
      refine hp_s (pc' := 33) (st' := [.int 1]) rfl rfl rfl ?_
      refine hp_go (pc' := 37) rfl rfl rfl ?_
      refine hp_rb rfl rfl (fun _ => ?_)
      first | (exact k0 (by first | assumption | (unfold hUn; omega))) | (exfalso; omega)
  ·
    refine hp_sta (k := 1) (pc' := 18) rfl rfl rfl ?_
    refine hp_s (pc' := 19) (st' := [.int 5, .retAddr 1]) rfl rfl rfl ?_
    refine hp_lds (v := 3) hro.1 rfl rfl (by decide +kernel) ?_
    intro g1a g1b
    refine hp_s (pc' := 21) (ls' := [(2, .int 3), (3, .int 0), (0, .int 5), (1, .int y)]) (st' := []) rfl rfl rfl ?_
    refine hp_s (pc' := 24) (ls' := [(3, .int 1), (2, .int 3), (0, .int 5), (1, .int y)]) (st' := []) rfl rfl rfl ?_
    refine hp_go (pc' := 4) rfl rfl rfl ?_
    refine hp_s (pc' := 5) (st' := [.int 1]) rfl rfl rfl ?_
    refine hp_s (pc' := 7) (st' := [.int 8, .int 1]) rfl rfl rfl ?_
    refine hp_go (pc' := 10) rfl rfl rfl ?_
    refine hp_s (pc' := 11) (st' := [.int 3]) rfl rfl rfl ?_
    refine hp_s (pc' := 12) (st' := [.int y, .int 3]) rfl rfl rfl ?_
    refine hp_ic (pc' := 15) (t := 27) (a := 3) (b := y.toInt) rfl rfl rfl (by decide) rfl (fun (h5 : 3 = y.toInt) => ?_) (fun (h6 : ¬ (3 = y.toInt)) => ?_)
    ·
      refine hp_s (pc' := 28) (st' := [.int 3]) rfl rfl rfl ?_
      refine hp_s (pc' := 29) (st' := [.int y, .int 3]) rfl rfl rfl ?_
      refine hp_ic (pc' := 32) (t := 36) (a := 3) (b := y.toInt) rfl rfl rfl (by decide) rfl (fun (h7 : 3 ≠ y.toInt) => ?_) (fun (h8 : ¬ (3 ≠ y.toInt)) => ?_)
      ·
        refine hp_s (pc' := 37) (st' := [.int 0]) rfl rfl rfl ?_
        refine hp_rb rfl rfl (fun _ => ?_)
        first | (exact k1 (by first | assumption | (unfold hUn; omega))) | (exfalso; omega)
      ·
        refine hp_s (pc' := 33) (st' := [.int 1]) rfl rfl rfl ?_
        refine hp_go (pc' := 37) rfl rfl rfl ?_
        refine hp_rb rfl rfl (fun _ => ?_)
        first | (exact k0 (by first | assumption | (unfold hUn; omega))) | (exfalso; omega)
    ·
      refine hp_sta (k := 1) (pc' := 18) rfl rfl rfl ?_
      refine hp_s (pc' := 19) (st' := [.int 3, .retAddr 1]) rfl rfl rfl ?_
      refine hp_lds (v := 2) hro.1 rfl rfl (by decide +kernel) ?_
      intro g2a g2b
      refine hp_s (pc' := 21) (ls' := [(2, .int 2), (3, .int 1), (0, .int 5), (1, .int y)]) (st' := []) rfl rfl rfl ?_
      refine hp_s (pc' := 24) (ls' := [(3, .int 2), (2, .int 2), (0, .int 5), (1, .int y)]) (st' := []) rfl rfl rfl ?_
      refine hp_go (pc' := 4) rfl rfl rfl ?_
      refine hp_s (pc' := 5) (st' := [.int 2]) rfl rfl rfl ?_
      refine hp_s (pc' := 7) (st' := [.int 8, .int 2]) rfl rfl rfl ?_
      refine hp_go (pc' := 10) rfl rfl rfl ?_
      refine hp_s (pc' := 11) (st' := [.int 2]) rfl rfl rfl ?_
      refine hp_s (pc' := 12) (st' := [.int y, .int 2]) rfl rfl rfl ?_
      refine hp_ic (pc' := 15) (t := 27) (a := 2) (b := y.toInt) rfl rfl rfl (by decide) rfl (fun (h9 : 2 = y.toInt) => ?_) (fun (h10 : ¬ (2 = y.toInt)) => ?_)
      ·
        refine hp_s (pc' := 28) (st' := [.int 2]) rfl rfl rfl ?_
        refine hp_s (pc' := 29) (st' := [.int y, .int 2]) rfl rfl rfl ?_
        refine hp_ic (pc' := 32) (t := 36) (a := 2) (b := y.toInt) rfl rfl rfl (by decide) rfl (fun (h11 : 2 ≠ y.toInt) => ?_) (fun (h12 : ¬ (2 ≠ y.toInt)) => ?_)
        ·
          refine hp_s (pc' := 37) (st' := [.int 0]) rfl rfl rfl ?_
          refine hp_rb rfl rfl (fun _ => ?_)
          first | (exact k1 (by first | assumption | (unfold hUn; omega))) | (exfalso; omega)
        ·
          refine hp_s (pc' := 33) (st' := [.int 1]) rfl rfl rfl ?_
          refine hp_go (pc' := 37) rfl rfl rfl ?_
          refine hp_rb rfl rfl (fun _ => ?_)
          first | (exact k0 (by first | assumption | (unfold hUn; omega))) | (exfalso; omega)
      ·
        refine hp_sta (k := 1) (pc' := 18) rfl rfl rfl ?_
        refine hp_s (pc' := 19) (st' := [.int 2, .retAddr 1]) rfl rfl rfl ?_
        refine hp_lds (v := 0) hro.1 rfl rfl (by decide +kernel) ?_
        intro g3a g3b
        refine hp_s (pc' := 21) (ls' := [(2, .int 0), (3, .int 2), (0, .int 5), (1, .int y)]) (st' := []) rfl rfl rfl ?_
        refine hp_s (pc' := 24) (ls' := [(3, .int 3), (2, .int 0), (0, .int 5), (1, .int y)]) (st' := []) rfl rfl rfl ?_
        refine hp_go (pc' := 4) rfl rfl rfl ?_
        refine hp_s (pc' := 5) (st' := [.int 3]) rfl rfl rfl ?_
        refine hp_s (pc' := 7) (st' := [.int 8, .int 3]) rfl rfl rfl ?_
        refine hp_go (pc' := 10) rfl rfl rfl ?_
        refine hp_s (pc' := 11) (st' := [.int 0]) rfl rfl rfl ?_
        refine hp_s (pc' := 12) (st' := [.int y, .int 0]) rfl rfl rfl ?_
        refine hp_ic (pc' := 15) (t := 27) (a := 0) (b := y.toInt) rfl rfl rfl (by decide) rfl (fun (h13 : 0 = y.toInt) => ?_) (fun (h14 : ¬ (0 = y.toInt)) => ?_)
        ·
          refine hp_s (pc' := 28) (st' := [.int 0]) rfl rfl rfl ?_
          refine hp_s (pc' := 29) (st' := [.int y, .int 0]) rfl rfl rfl ?_
          refine hp_ic (pc' := 32) (t := 36) (a := 0) (b := y.toInt) rfl rfl rfl (by decide) rfl (fun (h15 : 0 ≠ y.toInt) => ?_) (fun (h16 : ¬ (0 ≠ y.toInt)) => ?_)
          ·
            refine hp_s (pc' := 37) (st' := [.int 0]) rfl rfl rfl ?_
            refine hp_rb rfl rfl (fun _ => ?_)
            first | (exact k1 (by first | assumption | (unfold hUn; omega))) | (exfalso; omega)
          ·
            refine hp_s (pc' := 33) (st' := [.int 1]) rfl rfl rfl ?_
            refine hp_go (pc' := 37) rfl rfl rfl ?_
            refine hp_rb rfl rfl (fun _ => ?_)
            first | (exact k0 (by first | assumption | (unfold hUn; omega))) | (exfalso; omega)
        ·
          refine hp_sta (k := 1) (pc' := 18) rfl rfl rfl ?_
          refine hp_s (pc' := 19) (st' := [.int 0, .retAddr 1]) rfl rfl rfl ?_
          refine hp_lds (v := 0) hro.1 rfl rfl (by decide +kernel) ?_
          intro g4a g4b
          refine hp_s (pc' := 21) (ls' := [(2, .int 0), (3, .int 3), (0, .int 5), (1, .int y)]) (st' := []) rfl rfl rfl ?_
          refine hp_s (pc' := 24) (ls' := [(3, .int 4), (2, .int 0), (0, .int 5), (1, .int y)]) (st' := []) rfl rfl rfl ?_
          refine hp_go (pc' := 4) rfl rfl rfl ?_
          refine hp_s (pc' := 5) (st' := [.int 4]) rfl rfl rfl ?_
          refine hp_s (pc' := 7) (st' := [.int 8, .int 4]) rfl rfl rfl ?_
          refine hp_go (pc' := 10) rfl rfl rfl ?_
          refine hp_s (pc' := 11) (st' := [.int 0]) rfl rfl rfl ?_
          refine hp_s (pc' := 12) (st' := [.int y, .int 0]) rfl rfl rfl ?_
          refine hp_ic (pc' := 15) (t := 27) (a := 0) (b := y.toInt) rfl rfl rfl (by decide) rfl (fun (h17 : 0 = y.toInt) => ?_) (fun (h18 : ¬ (0 = y.toInt)) => ?_)
          ·
            refine hp_s (pc' := 28) (st' := [.int 0]) rfl rfl rfl ?_
            refine hp_s (pc' := 29) (st' := [.int y, .int 0]) rfl rfl rfl ?_
            refine hp_ic (pc' := 32) (t := 36) (a := 0) (b := y.toInt) rfl rfl rfl (by decide) rfl (fun (h19 : 0 ≠ y.toInt) => ?_) (fun (h20 : ¬ (0 ≠ y.toInt)) => ?_)
            ·
              refine hp_s (pc' := 37) (st' := [.int 0]) rfl rfl rfl ?_
              refine hp_rb rfl rfl (fun _ => ?_)
              first | (exact k1 (by first | assumption | (unfold hUn; omega))) | (exfalso; omega)
            ·
              refine hp_s (pc' := 33) (st' := [.int 1]) rfl rfl rfl ?_
              refine hp_go (pc' := 37) rfl rfl rfl ?_
              refine hp_rb rfl rfl (fun _ => ?_)
              first | (exact k0 (by first | assumption | (unfold hUn; omega))) | (exfalso; omega)
          ·
            refine hp_sta (k := 1) (pc' := 18) rfl rfl rfl ?_
            refine hp_s (pc' := 19) (st' := [.int 0, .retAddr 1]) rfl rfl rfl ?_
            refine hp_lds (v := 0) hro.1 rfl rfl (by decide +kernel) ?_
            intro g5a g5b
            refine hp_s (pc' := 21) (ls' := [(2, .int 0), (3, .int 4), (0, .int 5), (1, .int y)]) (st' := []) rfl rfl rfl ?_
            refine hp_s (pc' := 24) (ls' := [(3, .int 5), (2, .int 0), (0, .int 5), (1, .int y)]) (st' := []) rfl rfl rfl ?_
            refine hp_go (pc' := 4) rfl rfl rfl ?_
            refine hp_s (pc' := 5) (st' := [.int 5]) rfl rfl rfl ?_
            refine hp_s (pc' := 7) (st' := [.int 8, .int 5]) rfl rfl rfl ?_
            refine hp_go (pc' := 10) rfl rfl rfl ?_
            refine hp_s (pc' := 11) (st' := [.int 0]) rfl rfl rfl ?_
            refine hp_s (pc' := 12) (st' := [.int y, .int 0]) rfl rfl rfl ?_
            refine hp_ic (pc' := 15) (t := 27) (a := 0) (b := y.toInt) rfl rfl rfl (by decide) rfl (fun (h21 : 0 = y.toInt) => ?_) (fun (h22 : ¬ (0 = y.toInt)) => ?_)
            ·
              refine hp_s (pc' := 28) (st' := [.int 0]) rfl rfl rfl ?_
              refine hp_s (pc' := 29) (st' := [.int y, .int 0]) rfl rfl rfl ?_
              refine hp_ic (pc' := 32) (t := 36) (a := 0) (b := y.toInt) rfl rfl rfl (by decide) rfl (fun (h23 : 0 ≠ y.toInt) => ?_) (fun (h24 : ¬ (0 ≠ y.toInt)) => ?_)
              ·
                refine hp_s (pc' := 37) (st' := [.int 0]) rfl rfl rfl ?_
                refine hp_rb rfl rfl (fun _ => ?_)
                first | (exact k1 (by first | assumption | (unfold hUn; omega))) | (exfalso; omega)
              ·
                refine hp_s (pc' := 33) (st' := [.int 1]) rfl rfl rfl ?_
                refine hp_go (pc' := 37) rfl rfl rfl ?_
                refine hp_rb rfl rfl (fun _ => ?_)
                first | (exact k0 (by first | assumption | (unfold hUn; omega))) | (exfalso; omega)
            ·
              refine hp_sta (k := 1) (pc' := 18) rfl rfl rfl ?_
              refine hp_s (pc' := 19) (st' := [.int 0, .retAddr 1]) rfl rfl rfl ?_
              refine hp_lds (v := 0) hro.1 rfl rfl (by decide +kernel) ?_
              intro g6a g6b
              refine hp_s (pc' := 21) (ls' := [(2, .int 0), (3, .int 5), (0, .int 5), (1, .int y)]) (st' := []) rfl rfl rfl ?_
              refine hp_s (pc' := 24) (ls' := [(3, .int 6), (2, .int 0), (0, .int 5), (1, .int y)]) (st' := []) rfl rfl rfl ?_
              refine hp_go (pc' := 4) rfl rfl rfl ?_
              refine hp_s (pc' := 5) (st' := [.int 6]) rfl rfl rfl ?_
              refine hp_s (pc' := 7) (st' := [.int 8, .int 6]) rfl rfl rfl ?_
              refine hp_go (pc' := 10) rfl rfl rfl ?_
              refine hp_s (pc' := 11) (st' := [.int 0]) rfl rfl rfl ?_
              refine hp_s (pc' := 12) (st' := [.int y, .int 0]) rfl rfl rfl ?_
              refine hp_ic (pc' := 15) (t := 27) (a := 0) (b := y.toInt) rfl rfl rfl (by decide) rfl (fun (h25 : 0 = y.toInt) => ?_) (fun (h26 : ¬ (0 = y.toInt)) => ?_)
              ·
                refine hp_s (pc' := 28) (st' := [.int 0]) rfl rfl rfl ?_
                refine hp_s (pc' := 29) (st' := [.int y, .int 0]) rfl rfl rfl ?_
                refine hp_ic (pc' := 32) (t := 36) (a := 0) (b := y.toInt) rfl rfl rfl (by decide) rfl (fun (h27 : 0 ≠ y.toInt) => ?_) (fun (h28 : ¬ (0 ≠ y.toInt)) => ?_)
                ·
                  refine hp_s (pc' := 37) (st' := [.int 0]) rfl rfl rfl ?_
                  refine hp_rb rfl rfl (fun _ => ?_)
                  first | (exact k1 (by first | assumption | (unfold hUn; omega))) | (exfalso; omega)
                ·
                  refine hp_s (pc' := 33) (st' := [.int 1]) rfl rfl rfl ?_
                  refine hp_go (pc' := 37) rfl rfl rfl ?_
                  refine hp_rb rfl rfl (fun _ => ?_)
                  first | (exact k0 (by first | assumption | (unfold hUn; omega))) | (exfalso; omega)
              ·
                refine hp_sta (k := 1) (pc' := 18) rfl rfl rfl ?_
                refine hp_s (pc' := 19) (st' := [.int 0, .retAddr 1]) rfl rfl rfl ?_
                refine hp_lds (v := 0) hro.1 rfl rfl (by decide +kernel) ?_
                intro g7a g7b
                refine hp_s (pc' := 21) (ls' := [(2, .int 0), (3, .int 6), (0, .int 5), (1, .int y)]) (st' := []) rfl rfl rfl ?_
                refine hp_s (pc' := 24) (ls' := [(3, .int 7), (2, .int 0), (0, .int 5), (1, .int y)]) (st' := []) rfl rfl rfl ?_
                refine hp_go (pc' := 4) rfl rfl rfl ?_
                refine hp_s (pc' := 5) (st' := [.int 7]) rfl rfl rfl ?_
                refine hp_s (pc' := 7) (st' := [.int 8, .int 7]) rfl rfl rfl ?_
                refine hp_go (pc' := 10) rfl rfl rfl ?_
                refine hp_s (pc' := 11) (st' := [.int 0]) rfl rfl rfl ?_
                refine hp_s (pc' := 12) (st' := [.int y, .int 0]) rfl rfl rfl ?_
                refine hp_ic (pc' := 15) (t := 27) (a := 0) (b := y.toInt) rfl rfl rfl (by decide) rfl (fun (h29 : 0 = y.toInt) => ?_) (fun (h30 : ¬ (0 = y.toInt)) => ?_)
                ·
                  refine hp_s (pc' := 28) (st' := [.int 0]) rfl rfl rfl ?_
                  refine hp_s (pc' := 29) (st' := [.int y, .int 0]) rfl rfl rfl ?_
                  refine hp_ic (pc' := 32) (t := 36) (a := 0) (b := y.toInt) rfl rfl rfl (by decide) rfl (fun (h31 : 0 ≠ y.toInt) => ?_) (fun (h32 : ¬ (0 ≠ y.toInt)) => ?_)
                  ·
                    refine hp_s (pc' := 37) (st' := [.int 0]) rfl rfl rfl ?_
                    refine hp_rb rfl rfl (fun _ => ?_)
                    first | (exact k1 (by first | assumption | (unfold hUn; omega))) | (exfalso; omega)
                  ·
                    refine hp_s (pc' := 33) (st' := [.int 1]) rfl rfl rfl ?_
                    refine hp_go (pc' := 37) rfl rfl rfl ?_
                    refine hp_rb rfl rfl (fun _ => ?_)
                    first | (exact k0 (by first | assumption | (unfold hUn; omega))) | (exfalso; omega)
                ·
                  refine hp_sta (k := 1) (pc' := 18) rfl rfl rfl ?_
                  refine hp_s (pc' := 19) (st' := [.int 0, .retAddr 1]) rfl rfl rfl ?_
                  refine hp_lds (v := 0) hro.1 rfl rfl (by decide +kernel) ?_
                  intro g8a g8b
                  refine hp_s (pc' := 21) (ls' := [(2, .int 0), (3, .int 7), (0, .int 5), (1, .int y)]) (st' := []) rfl rfl rfl ?_
                  refine hp_s (pc' := 24) (ls' := [(3, .int 8), (2, .int 0), (0, .int 5), (1, .int y)]) (st' := []) rfl rfl rfl ?_
                  refine hp_go (pc' := 4) rfl rfl rfl ?_
                  refine hp_s (pc' := 5) (st' := [.int 8]) rfl rfl rfl ?_
                  refine hp_s (pc' := 7) (st' := [.int 8, .int 8]) rfl rfl rfl ?_
                  refine hp_go (pc' := 27) rfl rfl rfl ?_
                  refine hp_s (pc' := 28) (st' := [.int 0]) rfl rfl rfl ?_
                  refine hp_s (pc' := 29) (st' := [.int y, .int 0]) rfl rfl rfl ?_
                  refine hp_ic (pc' := 32) (t := 36) (a := 0) (b := y.toInt) rfl rfl rfl (by decide) rfl (fun (h33 : 0 ≠ y.toInt) => ?_) (fun (h34 : ¬ (0 ≠ y.toInt)) => ?_)
                  ·
                    refine hp_s (pc' := 37) (st' := [.int 0]) rfl rfl rfl ?_
                    refine hp_rb rfl rfl (fun _ => ?_)
                    first | (exact k1 (by first | assumption | (unfold hUn; omega))) | (exfalso; omega)
                  ·
                    refine hp_s (pc' := 33) (st' := [.int 1]) rfl rfl rfl ?_
                    refine hp_go (pc' := 37) rfl rfl rfl ?_
                    refine hp_rb rfl rfl (fun _ => ?_)
                    first | (exact k0 (by first | assumption | (unfold hUn; omega))) | (exfalso; omega)
theorem s_isUnder6 {ro : List (List Int32)} {n d : Nat} {p : xH} {Q : Option Value → xH → Prop} {y : Int32} {yi : Int} (hro : jro ro) (hy : y.toInt = yi) (pre0 : 0 ≤ yi) (pre1 : yi < 8) (k0 : (hUn 6 yi) → Q (some (.int (1))) p) (k1 : (¬ hUn 6 yi) → Q (some (.int (0))) p) : hP ro n d (9, 4, 0, 2, k109) 0 (lv_args 0 [.int 6, .int y]) [] p Q := by
  subst hy
  refine hp_id (ls := [(0, .int 6), (1, .int y)]) ?_
  refine hp_s (pc' := 1) (st' := [.int 6]) rfl rfl rfl ?_
  refine hp_s (pc' := 2) (ls' := [(2, .int 6), (0, .int 6), (1, .int y)]) (st' := []) rfl rfl rfl ?_
  refine hp_s (pc' := 3) (st' := [.int 0]) rfl rfl rfl ?_
  refine hp_s (pc' := 4) (ls' := [(3, .int 0), (2, .int 6), (0, .int 6), (1, .int y)]) (st' := []) rfl rfl rfl ?_
  refine hp_s (pc' := 5) (st' := [.int 0]) rfl rfl rfl ?_
  refine hp_s (pc' := 7) (st' := [.int 8, .int 0]) rfl rfl rfl ?_
  refine hp_go (pc' := 10) rfl rfl rfl ?_
  refine hp_s (pc' := 11) (st' := [.int 6]) rfl rfl rfl ?_
  refine hp_s (pc' := 12) (st' := [.int y, .int 6]) rfl rfl rfl ?_
  refine hp_ic (pc' := 15) (t := 27) (a := 6) (b := y.toInt) rfl rfl rfl (by decide) rfl (fun (h1 : 6 = y.toInt) => ?_) (fun (h2 : ¬ (6 = y.toInt)) => ?_)
  ·
    refine hp_s (pc' := 28) (st' := [.int 6]) rfl rfl rfl ?_
    refine hp_s (pc' := 29) (st' := [.int y, .int 6]) rfl rfl rfl ?_
    refine hp_ic (pc' := 32) (t := 36) (a := 6) (b := y.toInt) rfl rfl rfl (by decide) rfl (fun (h3 : 6 ≠ y.toInt) => ?_) (fun (h4 : ¬ (6 ≠ y.toInt)) => ?_)
    ·
      refine hp_s (pc' := 37) (st' := [.int 0]) rfl rfl rfl ?_
      refine hp_rb rfl rfl (fun _ => ?_)
      first | (exact k1 (by first | assumption | (unfold hUn; omega))) | (exfalso; omega)
    ·
      refine hp_s (pc' := 33) (st' := [.int 1]) rfl rfl rfl ?_
      refine hp_go (pc' := 37) rfl rfl rfl ?_
      refine hp_rb rfl rfl (fun _ => ?_)
      first | (exact k0 (by first | assumption | (unfold hUn; omega))) | (exfalso; omega)
  ·
    refine hp_sta (k := 1) (pc' := 18) rfl rfl rfl ?_
    refine hp_s (pc' := 19) (st' := [.int 6, .retAddr 1]) rfl rfl rfl ?_
    refine hp_lds (v := 0) hro.1 rfl rfl (by decide +kernel) ?_
    intro g1a g1b
    refine hp_s (pc' := 21) (ls' := [(2, .int 0), (3, .int 0), (0, .int 6), (1, .int y)]) (st' := []) rfl rfl rfl ?_
    refine hp_s (pc' := 24) (ls' := [(3, .int 1), (2, .int 0), (0, .int 6), (1, .int y)]) (st' := []) rfl rfl rfl ?_
    refine hp_go (pc' := 4) rfl rfl rfl ?_
    refine hp_s (pc' := 5) (st' := [.int 1]) rfl rfl rfl ?_
    refine hp_s (pc' := 7) (st' := [.int 8, .int 1]) rfl rfl rfl ?_
    refine hp_go (pc' := 10) rfl rfl rfl ?_
    refine hp_s (pc' := 11) (st' := [.int 0]) rfl rfl rfl ?_
    refine hp_s (pc' := 12) (st' := [.int y, .int 0]) rfl rfl rfl ?_
    refine hp_ic (pc' := 15) (t := 27) (a := 0) (b := y.toInt) rfl rfl rfl (by decide) rfl (fun (h5 : 0 = y.toInt) => ?_) (fun (h6 : ¬ (0 = y.toInt)) => ?_)
    ·
      refine hp_s (pc' := 28) (st' := [.int 0]) rfl rfl rfl ?_
      refine hp_s (pc' := 29) (st' := [.int y, .int 0]) rfl rfl rfl ?_
      refine hp_ic (pc' := 32) (t := 36) (a := 0) (b := y.toInt) rfl rfl rfl (by decide) rfl (fun (h7 : 0 ≠ y.toInt) => ?_) (fun (h8 : ¬ (0 ≠ y.toInt)) => ?_)
      ·
        refine hp_s (pc' := 37) (st' := [.int 0]) rfl rfl rfl ?_
        refine hp_rb rfl rfl (fun _ => ?_)
        first | (exact k1 (by first | assumption | (unfold hUn; omega))) | (exfalso; omega)
      ·
        refine hp_s (pc' := 33) (st' := [.int 1]) rfl rfl rfl ?_
        refine hp_go (pc' := 37) rfl rfl rfl ?_
        refine hp_rb rfl rfl (fun _ => ?_)
        first | (exact k0 (by first | assumption | (unfold hUn; omega))) | (exfalso; omega)
    ·
      refine hp_sta (k := 1) (pc' := 18) rfl rfl rfl ?_
      refine hp_s (pc' := 19) (st' := [.int 0, .retAddr 1]) rfl rfl rfl ?_
      refine hp_lds (v := 0) hro.1 rfl rfl (by decide +kernel) ?_
      intro g2a g2b
      refine hp_s (pc' := 21) (ls' := [(2, .int 0), (3, .int 1), (0, .int 6), (1, .int y)]) (st' := []) rfl rfl rfl ?_
      refine hp_s (pc' := 24) (ls' := [(3, .int 2), (2, .int 0), (0, .int 6), (1, .int y)]) (st' := []) rfl rfl rfl ?_
      refine hp_go (pc' := 4) rfl rfl rfl ?_
      refine hp_s (pc' := 5) (st' := [.int 2]) rfl rfl rfl ?_
      refine hp_s (pc' := 7) (st' := [.int 8, .int 2]) rfl rfl rfl ?_
      refine hp_go (pc' := 10) rfl rfl rfl ?_
      refine hp_s (pc' := 11) (st' := [.int 0]) rfl rfl rfl ?_
      refine hp_s (pc' := 12) (st' := [.int y, .int 0]) rfl rfl rfl ?_
      refine hp_ic (pc' := 15) (t := 27) (a := 0) (b := y.toInt) rfl rfl rfl (by decide) rfl (fun (h9 : 0 = y.toInt) => ?_) (fun (h10 : ¬ (0 = y.toInt)) => ?_)
      ·
        refine hp_s (pc' := 28) (st' := [.int 0]) rfl rfl rfl ?_
        refine hp_s (pc' := 29) (st' := [.int y, .int 0]) rfl rfl rfl ?_
        refine hp_ic (pc' := 32) (t := 36) (a := 0) (b := y.toInt) rfl rfl rfl (by decide) rfl (fun (h11 : 0 ≠ y.toInt) => ?_) (fun (h12 : ¬ (0 ≠ y.toInt)) => ?_)
        ·
          refine hp_s (pc' := 37) (st' := [.int 0]) rfl rfl rfl ?_
          refine hp_rb rfl rfl (fun _ => ?_)
          first | (exact k1 (by first | assumption | (unfold hUn; omega))) | (exfalso; omega)
        ·
          refine hp_s (pc' := 33) (st' := [.int 1]) rfl rfl rfl ?_
          refine hp_go (pc' := 37) rfl rfl rfl ?_
          refine hp_rb rfl rfl (fun _ => ?_)
          first | (exact k0 (by first | assumption | (unfold hUn; omega))) | (exfalso; omega)
      ·
        refine hp_sta (k := 1) (pc' := 18) rfl rfl rfl ?_
        refine hp_s (pc' := 19) (st' := [.int 0, .retAddr 1]) rfl rfl rfl ?_
        refine hp_lds (v := 0) hro.1 rfl rfl (by decide +kernel) ?_
        intro g3a g3b
        refine hp_s (pc' := 21) (ls' := [(2, .int 0), (3, .int 2), (0, .int 6), (1, .int y)]) (st' := []) rfl rfl rfl ?_
        refine hp_s (pc' := 24) (ls' := [(3, .int 3), (2, .int 0), (0, .int 6), (1, .int y)]) (st' := []) rfl rfl rfl ?_
        refine hp_go (pc' := 4) rfl rfl rfl ?_
        refine hp_s (pc' := 5) (st' := [.int 3]) rfl rfl rfl ?_
        refine hp_s (pc' := 7) (st' := [.int 8, .int 3]) rfl rfl rfl ?_
        refine hp_go (pc' := 10) rfl rfl rfl ?_
        refine hp_s (pc' := 11) (st' := [.int 0]) rfl rfl rfl ?_
        refine hp_s (pc' := 12) (st' := [.int y, .int 0]) rfl rfl rfl ?_
        refine hp_ic (pc' := 15) (t := 27) (a := 0) (b := y.toInt) rfl rfl rfl (by decide) rfl (fun (h13 : 0 = y.toInt) => ?_) (fun (h14 : ¬ (0 = y.toInt)) => ?_)
        ·
          refine hp_s (pc' := 28) (st' := [.int 0]) rfl rfl rfl ?_
          refine hp_s (pc' := 29) (st' := [.int y, .int 0]) rfl rfl rfl ?_
          refine hp_ic (pc' := 32) (t := 36) (a := 0) (b := y.toInt) rfl rfl rfl (by decide) rfl (fun (h15 : 0 ≠ y.toInt) => ?_) (fun (h16 : ¬ (0 ≠ y.toInt)) => ?_)
          ·
            refine hp_s (pc' := 37) (st' := [.int 0]) rfl rfl rfl ?_
            refine hp_rb rfl rfl (fun _ => ?_)
            first | (exact k1 (by first | assumption | (unfold hUn; omega))) | (exfalso; omega)
          ·
            refine hp_s (pc' := 33) (st' := [.int 1]) rfl rfl rfl ?_
            refine hp_go (pc' := 37) rfl rfl rfl ?_
            refine hp_rb rfl rfl (fun _ => ?_)
            first | (exact k0 (by first | assumption | (unfold hUn; omega))) | (exfalso; omega)
        ·
          refine hp_sta (k := 1) (pc' := 18) rfl rfl rfl ?_
          refine hp_s (pc' := 19) (st' := [.int 0, .retAddr 1]) rfl rfl rfl ?_
          refine hp_lds (v := 0) hro.1 rfl rfl (by decide +kernel) ?_
          intro g4a g4b
          refine hp_s (pc' := 21) (ls' := [(2, .int 0), (3, .int 3), (0, .int 6), (1, .int y)]) (st' := []) rfl rfl rfl ?_
          refine hp_s (pc' := 24) (ls' := [(3, .int 4), (2, .int 0), (0, .int 6), (1, .int y)]) (st' := []) rfl rfl rfl ?_
          refine hp_go (pc' := 4) rfl rfl rfl ?_
          refine hp_s (pc' := 5) (st' := [.int 4]) rfl rfl rfl ?_
          refine hp_s (pc' := 7) (st' := [.int 8, .int 4]) rfl rfl rfl ?_
          refine hp_go (pc' := 10) rfl rfl rfl ?_
          refine hp_s (pc' := 11) (st' := [.int 0]) rfl rfl rfl ?_
          refine hp_s (pc' := 12) (st' := [.int y, .int 0]) rfl rfl rfl ?_
          refine hp_ic (pc' := 15) (t := 27) (a := 0) (b := y.toInt) rfl rfl rfl (by decide) rfl (fun (h17 : 0 = y.toInt) => ?_) (fun (h18 : ¬ (0 = y.toInt)) => ?_)
          ·
            refine hp_s (pc' := 28) (st' := [.int 0]) rfl rfl rfl ?_
            refine hp_s (pc' := 29) (st' := [.int y, .int 0]) rfl rfl rfl ?_
            refine hp_ic (pc' := 32) (t := 36) (a := 0) (b := y.toInt) rfl rfl rfl (by decide) rfl (fun (h19 : 0 ≠ y.toInt) => ?_) (fun (h20 : ¬ (0 ≠ y.toInt)) => ?_)
            ·
              refine hp_s (pc' := 37) (st' := [.int 0]) rfl rfl rfl ?_
              refine hp_rb rfl rfl (fun _ => ?_)
              first | (exact k1 (by first | assumption | (unfold hUn; omega))) | (exfalso; omega)
            ·
              refine hp_s (pc' := 33) (st' := [.int 1]) rfl rfl rfl ?_
              refine hp_go (pc' := 37) rfl rfl rfl ?_
              refine hp_rb rfl rfl (fun _ => ?_)
              first | (exact k0 (by first | assumption | (unfold hUn; omega))) | (exfalso; omega)
          ·
            refine hp_sta (k := 1) (pc' := 18) rfl rfl rfl ?_
            refine hp_s (pc' := 19) (st' := [.int 0, .retAddr 1]) rfl rfl rfl ?_
            refine hp_lds (v := 0) hro.1 rfl rfl (by decide +kernel) ?_
            intro g5a g5b
            refine hp_s (pc' := 21) (ls' := [(2, .int 0), (3, .int 4), (0, .int 6), (1, .int y)]) (st' := []) rfl rfl rfl ?_
            refine hp_s (pc' := 24) (ls' := [(3, .int 5), (2, .int 0), (0, .int 6), (1, .int y)]) (st' := []) rfl rfl rfl ?_
            refine hp_go (pc' := 4) rfl rfl rfl ?_
            refine hp_s (pc' := 5) (st' := [.int 5]) rfl rfl rfl ?_
            refine hp_s (pc' := 7) (st' := [.int 8, .int 5]) rfl rfl rfl ?_
            refine hp_go (pc' := 10) rfl rfl rfl ?_
            refine hp_s (pc' := 11) (st' := [.int 0]) rfl rfl rfl ?_
            refine hp_s (pc' := 12) (st' := [.int y, .int 0]) rfl rfl rfl ?_
            refine hp_ic (pc' := 15) (t := 27) (a := 0) (b := y.toInt) rfl rfl rfl (by decide) rfl (fun (h21 : 0 = y.toInt) => ?_) (fun (h22 : ¬ (0 = y.toInt)) => ?_)
            ·
              refine hp_s (pc' := 28) (st' := [.int 0]) rfl rfl rfl ?_
              refine hp_s (pc' := 29) (st' := [.int y, .int 0]) rfl rfl rfl ?_
              refine hp_ic (pc' := 32) (t := 36) (a := 0) (b := y.toInt) rfl rfl rfl (by decide) rfl (fun (h23 : 0 ≠ y.toInt) => ?_) (fun (h24 : ¬ (0 ≠ y.toInt)) => ?_)
              ·
                refine hp_s (pc' := 37) (st' := [.int 0]) rfl rfl rfl ?_
                refine hp_rb rfl rfl (fun _ => ?_)
                first | (exact k1 (by first | assumption | (unfold hUn; omega))) | (exfalso; omega)
              ·
                refine hp_s (pc' := 33) (st' := [.int 1]) rfl rfl rfl ?_
                refine hp_go (pc' := 37) rfl rfl rfl ?_
                refine hp_rb rfl rfl (fun _ => ?_)
                first | (exact k0 (by first | assumption | (unfold hUn; omega))) | (exfalso; omega)
            ·
              refine hp_sta (k := 1) (pc' := 18) rfl rfl rfl ?_
              refine hp_s (pc' := 19) (st' := [.int 0, .retAddr 1]) rfl rfl rfl ?_
              refine hp_lds (v := 0) hro.1 rfl rfl (by decide +kernel) ?_
              intro g6a g6b
              refine hp_s (pc' := 21) (ls' := [(2, .int 0), (3, .int 5), (0, .int 6), (1, .int y)]) (st' := []) rfl rfl rfl ?_
              refine hp_s (pc' := 24) (ls' := [(3, .int 6), (2, .int 0), (0, .int 6), (1, .int y)]) (st' := []) rfl rfl rfl ?_
              refine hp_go (pc' := 4) rfl rfl rfl ?_
              refine hp_s (pc' := 5) (st' := [.int 6]) rfl rfl rfl ?_
              refine hp_s (pc' := 7) (st' := [.int 8, .int 6]) rfl rfl rfl ?_
              refine hp_go (pc' := 10) rfl rfl rfl ?_
              refine hp_s (pc' := 11) (st' := [.int 0]) rfl rfl rfl ?_
              refine hp_s (pc' := 12) (st' := [.int y, .int 0]) rfl rfl rfl ?_
              refine hp_ic (pc' := 15) (t := 27) (a := 0) (b := y.toInt) rfl rfl rfl (by decide) rfl (fun (h25 : 0 = y.toInt) => ?_) (fun (h26 : ¬ (0 = y.toInt)) => ?_)
              ·
                refine hp_s (pc' := 28) (st' := [.int 0]) rfl rfl rfl ?_
                refine hp_s (pc' := 29) (st' := [.int y, .int 0]) rfl rfl rfl ?_
                refine hp_ic (pc' := 32) (t := 36) (a := 0) (b := y.toInt) rfl rfl rfl (by decide) rfl (fun (h27 : 0 ≠ y.toInt) => ?_) (fun (h28 : ¬ (0 ≠ y.toInt)) => ?_)
                ·
                  refine hp_s (pc' := 37) (st' := [.int 0]) rfl rfl rfl ?_
                  refine hp_rb rfl rfl (fun _ => ?_)
                  first | (exact k1 (by first | assumption | (unfold hUn; omega))) | (exfalso; omega)
                ·
                  refine hp_s (pc' := 33) (st' := [.int 1]) rfl rfl rfl ?_
                  refine hp_go (pc' := 37) rfl rfl rfl ?_
                  refine hp_rb rfl rfl (fun _ => ?_)
                  first | (exact k0 (by first | assumption | (unfold hUn; omega))) | (exfalso; omega)
              ·
                refine hp_sta (k := 1) (pc' := 18) rfl rfl rfl ?_
                refine hp_s (pc' := 19) (st' := [.int 0, .retAddr 1]) rfl rfl rfl ?_
                refine hp_lds (v := 0) hro.1 rfl rfl (by decide +kernel) ?_
                intro g7a g7b
                refine hp_s (pc' := 21) (ls' := [(2, .int 0), (3, .int 6), (0, .int 6), (1, .int y)]) (st' := []) rfl rfl rfl ?_
                refine hp_s (pc' := 24) (ls' := [(3, .int 7), (2, .int 0), (0, .int 6), (1, .int y)]) (st' := []) rfl rfl rfl ?_
                refine hp_go (pc' := 4) rfl rfl rfl ?_
                refine hp_s (pc' := 5) (st' := [.int 7]) rfl rfl rfl ?_
                refine hp_s (pc' := 7) (st' := [.int 8, .int 7]) rfl rfl rfl ?_
                refine hp_go (pc' := 10) rfl rfl rfl ?_
                refine hp_s (pc' := 11) (st' := [.int 0]) rfl rfl rfl ?_
                refine hp_s (pc' := 12) (st' := [.int y, .int 0]) rfl rfl rfl ?_
                refine hp_ic (pc' := 15) (t := 27) (a := 0) (b := y.toInt) rfl rfl rfl (by decide) rfl (fun (h29 : 0 = y.toInt) => ?_) (fun (h30 : ¬ (0 = y.toInt)) => ?_)
                ·
                  refine hp_s (pc' := 28) (st' := [.int 0]) rfl rfl rfl ?_
                  refine hp_s (pc' := 29) (st' := [.int y, .int 0]) rfl rfl rfl ?_
                  refine hp_ic (pc' := 32) (t := 36) (a := 0) (b := y.toInt) rfl rfl rfl (by decide) rfl (fun (h31 : 0 ≠ y.toInt) => ?_) (fun (h32 : ¬ (0 ≠ y.toInt)) => ?_)
                  ·
                    refine hp_s (pc' := 37) (st' := [.int 0]) rfl rfl rfl ?_
                    refine hp_rb rfl rfl (fun _ => ?_)
                    first | (exact k1 (by first | assumption | (unfold hUn; omega))) | (exfalso; omega)
                  ·
                    refine hp_s (pc' := 33) (st' := [.int 1]) rfl rfl rfl ?_
                    refine hp_go (pc' := 37) rfl rfl rfl ?_
                    refine hp_rb rfl rfl (fun _ => ?_)
                    first | (exact k0 (by first | assumption | (unfold hUn; omega))) | (exfalso; omega)
                ·
                  refine hp_sta (k := 1) (pc' := 18) rfl rfl rfl ?_
                  refine hp_s (pc' := 19) (st' := [.int 0, .retAddr 1]) rfl rfl rfl ?_
                  refine hp_lds (v := 0) hro.1 rfl rfl (by decide +kernel) ?_
                  intro g8a g8b
                  refine hp_s (pc' := 21) (ls' := [(2, .int 0), (3, .int 7), (0, .int 6), (1, .int y)]) (st' := []) rfl rfl rfl ?_
                  refine hp_s (pc' := 24) (ls' := [(3, .int 8), (2, .int 0), (0, .int 6), (1, .int y)]) (st' := []) rfl rfl rfl ?_
                  refine hp_go (pc' := 4) rfl rfl rfl ?_
                  refine hp_s (pc' := 5) (st' := [.int 8]) rfl rfl rfl ?_
                  refine hp_s (pc' := 7) (st' := [.int 8, .int 8]) rfl rfl rfl ?_
                  refine hp_go (pc' := 27) rfl rfl rfl ?_
                  refine hp_s (pc' := 28) (st' := [.int 0]) rfl rfl rfl ?_
                  refine hp_s (pc' := 29) (st' := [.int y, .int 0]) rfl rfl rfl ?_
                  refine hp_ic (pc' := 32) (t := 36) (a := 0) (b := y.toInt) rfl rfl rfl (by decide) rfl (fun (h33 : 0 ≠ y.toInt) => ?_) (fun (h34 : ¬ (0 ≠ y.toInt)) => ?_)
                  ·
                    refine hp_s (pc' := 37) (st' := [.int 0]) rfl rfl rfl ?_
                    refine hp_rb rfl rfl (fun _ => ?_)
                    first | (exact k1 (by first | assumption | (unfold hUn; omega))) | (exfalso; omega)
                  ·
                    refine hp_s (pc' := 33) (st' := [.int 1]) rfl rfl rfl ?_
                    refine hp_go (pc' := 37) rfl rfl rfl ?_
                    refine hp_rb rfl rfl (fun _ => ?_)
                    first | (exact k0 (by first | assumption | (unfold hUn; omega))) | (exfalso; omega)
theorem s_isUnder7 {ro : List (List Int32)} {n d : Nat} {p : xH} {Q : Option Value → xH → Prop} {y : Int32} {yi : Int} (hro : jro ro) (hy : y.toInt = yi) (pre0 : 0 ≤ yi) (pre1 : yi < 8) (k0 : (hUn 7 yi) → Q (some (.int (1))) p) (k1 : (¬ hUn 7 yi) → Q (some (.int (0))) p) : hP ro n d (9, 4, 0, 2, k109) 0 (lv_args 0 [.int 7, .int y]) [] p Q := by
  subst hy
  refine hp_id (ls := [(0, .int 7), (1, .int y)]) ?_
  refine hp_s (pc' := 1) (st' := [.int 7]) rfl rfl rfl ?_
  refine hp_s (pc' := 2) (ls' := [(2, .int 7), (0, .int 7), (1, .int y)]) (st' := []) rfl rfl rfl ?_
  refine hp_s (pc' := 3) (st' := [.int 0]) rfl rfl rfl ?_
  refine hp_s (pc' := 4) (ls' := [(3, .int 0), (2, .int 7), (0, .int 7), (1, .int y)]) (st' := []) rfl rfl rfl ?_
  refine hp_s (pc' := 5) (st' := [.int 0]) rfl rfl rfl ?_
  refine hp_s (pc' := 7) (st' := [.int 8, .int 0]) rfl rfl rfl ?_
  refine hp_go (pc' := 10) rfl rfl rfl ?_
  refine hp_s (pc' := 11) (st' := [.int 7]) rfl rfl rfl ?_
  refine hp_s (pc' := 12) (st' := [.int y, .int 7]) rfl rfl rfl ?_
  refine hp_ic (pc' := 15) (t := 27) (a := 7) (b := y.toInt) rfl rfl rfl (by decide) rfl (fun (h1 : 7 = y.toInt) => ?_) (fun (h2 : ¬ (7 = y.toInt)) => ?_)
  ·
    refine hp_s (pc' := 28) (st' := [.int 7]) rfl rfl rfl ?_
    refine hp_s (pc' := 29) (st' := [.int y, .int 7]) rfl rfl rfl ?_
    refine hp_ic (pc' := 32) (t := 36) (a := 7) (b := y.toInt) rfl rfl rfl (by decide) rfl (fun (h3 : 7 ≠ y.toInt) => ?_) (fun (h4 : ¬ (7 ≠ y.toInt)) => ?_)
    ·
      refine hp_s (pc' := 37) (st' := [.int 0]) rfl rfl rfl ?_
      refine hp_rb rfl rfl (fun _ => ?_)
      first | (exact k1 (by first | assumption | (unfold hUn; omega))) | (exfalso; omega)
    ·
      refine hp_s (pc' := 33) (st' := [.int 1]) rfl rfl rfl ?_
      refine hp_go (pc' := 37) rfl rfl rfl ?_
      refine hp_rb rfl rfl (fun _ => ?_)
      first | (exact k0 (by first | assumption | (unfold hUn; omega))) | (exfalso; omega)
  ·
    refine hp_sta (k := 1) (pc' := 18) rfl rfl rfl ?_
    refine hp_s (pc' := 19) (st' := [.int 7, .retAddr 1]) rfl rfl rfl ?_
    refine hp_lds (v := 4) hro.1 rfl rfl (by decide +kernel) ?_
    intro g1a g1b
    refine hp_s (pc' := 21) (ls' := [(2, .int 4), (3, .int 0), (0, .int 7), (1, .int y)]) (st' := []) rfl rfl rfl ?_
    refine hp_s (pc' := 24) (ls' := [(3, .int 1), (2, .int 4), (0, .int 7), (1, .int y)]) (st' := []) rfl rfl rfl ?_
    refine hp_go (pc' := 4) rfl rfl rfl ?_
    refine hp_s (pc' := 5) (st' := [.int 1]) rfl rfl rfl ?_
    refine hp_s (pc' := 7) (st' := [.int 8, .int 1]) rfl rfl rfl ?_
    refine hp_go (pc' := 10) rfl rfl rfl ?_
    refine hp_s (pc' := 11) (st' := [.int 4]) rfl rfl rfl ?_
    refine hp_s (pc' := 12) (st' := [.int y, .int 4]) rfl rfl rfl ?_
    refine hp_ic (pc' := 15) (t := 27) (a := 4) (b := y.toInt) rfl rfl rfl (by decide) rfl (fun (h5 : 4 = y.toInt) => ?_) (fun (h6 : ¬ (4 = y.toInt)) => ?_)
    ·
      refine hp_s (pc' := 28) (st' := [.int 4]) rfl rfl rfl ?_
      refine hp_s (pc' := 29) (st' := [.int y, .int 4]) rfl rfl rfl ?_
      refine hp_ic (pc' := 32) (t := 36) (a := 4) (b := y.toInt) rfl rfl rfl (by decide) rfl (fun (h7 : 4 ≠ y.toInt) => ?_) (fun (h8 : ¬ (4 ≠ y.toInt)) => ?_)
      ·
        refine hp_s (pc' := 37) (st' := [.int 0]) rfl rfl rfl ?_
        refine hp_rb rfl rfl (fun _ => ?_)
        first | (exact k1 (by first | assumption | (unfold hUn; omega))) | (exfalso; omega)
      ·
        refine hp_s (pc' := 33) (st' := [.int 1]) rfl rfl rfl ?_
        refine hp_go (pc' := 37) rfl rfl rfl ?_
        refine hp_rb rfl rfl (fun _ => ?_)
        first | (exact k0 (by first | assumption | (unfold hUn; omega))) | (exfalso; omega)
    ·
      refine hp_sta (k := 1) (pc' := 18) rfl rfl rfl ?_
      refine hp_s (pc' := 19) (st' := [.int 4, .retAddr 1]) rfl rfl rfl ?_
      refine hp_lds (v := 1) hro.1 rfl rfl (by decide +kernel) ?_
      intro g2a g2b
      refine hp_s (pc' := 21) (ls' := [(2, .int 1), (3, .int 1), (0, .int 7), (1, .int y)]) (st' := []) rfl rfl rfl ?_
      refine hp_s (pc' := 24) (ls' := [(3, .int 2), (2, .int 1), (0, .int 7), (1, .int y)]) (st' := []) rfl rfl rfl ?_
      refine hp_go (pc' := 4) rfl rfl rfl ?_
      refine hp_s (pc' := 5) (st' := [.int 2]) rfl rfl rfl ?_
      refine hp_s (pc' := 7) (st' := [.int 8, .int 2]) rfl rfl rfl ?_
      refine hp_go (pc' := 10) rfl rfl rfl ?_
      refine hp_s (pc' := 11) (st' := [.int 1]) rfl rfl rfl ?_
      refine hp_s (pc' := 12) (st' := [.int y, .int 1]) rfl rfl rfl ?_
      refine hp_ic (pc' := 15) (t := 27) (a := 1) (b := y.toInt) rfl rfl rfl (by decide) rfl (fun (h9 : 1 = y.toInt) => ?_) (fun (h10 : ¬ (1 = y.toInt)) => ?_)
      ·
        refine hp_s (pc' := 28) (st' := [.int 1]) rfl rfl rfl ?_
        refine hp_s (pc' := 29) (st' := [.int y, .int 1]) rfl rfl rfl ?_
        refine hp_ic (pc' := 32) (t := 36) (a := 1) (b := y.toInt) rfl rfl rfl (by decide) rfl (fun (h11 : 1 ≠ y.toInt) => ?_) (fun (h12 : ¬ (1 ≠ y.toInt)) => ?_)
        ·
          refine hp_s (pc' := 37) (st' := [.int 0]) rfl rfl rfl ?_
          refine hp_rb rfl rfl (fun _ => ?_)
          first | (exact k1 (by first | assumption | (unfold hUn; omega))) | (exfalso; omega)
        ·
          refine hp_s (pc' := 33) (st' := [.int 1]) rfl rfl rfl ?_
          refine hp_go (pc' := 37) rfl rfl rfl ?_
          refine hp_rb rfl rfl (fun _ => ?_)
          first | (exact k0 (by first | assumption | (unfold hUn; omega))) | (exfalso; omega)
      ·
        refine hp_sta (k := 1) (pc' := 18) rfl rfl rfl ?_
        refine hp_s (pc' := 19) (st' := [.int 1, .retAddr 1]) rfl rfl rfl ?_
        refine hp_lds (v := 0) hro.1 rfl rfl (by decide +kernel) ?_
        intro g3a g3b
        refine hp_s (pc' := 21) (ls' := [(2, .int 0), (3, .int 2), (0, .int 7), (1, .int y)]) (st' := []) rfl rfl rfl ?_
        refine hp_s (pc' := 24) (ls' := [(3, .int 3), (2, .int 0), (0, .int 7), (1, .int y)]) (st' := []) rfl rfl rfl ?_
        refine hp_go (pc' := 4) rfl rfl rfl ?_
        refine hp_s (pc' := 5) (st' := [.int 3]) rfl rfl rfl ?_
        refine hp_s (pc' := 7) (st' := [.int 8, .int 3]) rfl rfl rfl ?_
        refine hp_go (pc' := 10) rfl rfl rfl ?_
        refine hp_s (pc' := 11) (st' := [.int 0]) rfl rfl rfl ?_
        refine hp_s (pc' := 12) (st' := [.int y, .int 0]) rfl rfl rfl ?_
        refine hp_ic (pc' := 15) (t := 27) (a := 0) (b := y.toInt) rfl rfl rfl (by decide) rfl (fun (h13 : 0 = y.toInt) => ?_) (fun (h14 : ¬ (0 = y.toInt)) => ?_)
        ·
          refine hp_s (pc' := 28) (st' := [.int 0]) rfl rfl rfl ?_
          refine hp_s (pc' := 29) (st' := [.int y, .int 0]) rfl rfl rfl ?_
          refine hp_ic (pc' := 32) (t := 36) (a := 0) (b := y.toInt) rfl rfl rfl (by decide) rfl (fun (h15 : 0 ≠ y.toInt) => ?_) (fun (h16 : ¬ (0 ≠ y.toInt)) => ?_)
          ·
            refine hp_s (pc' := 37) (st' := [.int 0]) rfl rfl rfl ?_
            refine hp_rb rfl rfl (fun _ => ?_)
            first | (exact k1 (by first | assumption | (unfold hUn; omega))) | (exfalso; omega)
          ·
            refine hp_s (pc' := 33) (st' := [.int 1]) rfl rfl rfl ?_
            refine hp_go (pc' := 37) rfl rfl rfl ?_
            refine hp_rb rfl rfl (fun _ => ?_)
            first | (exact k0 (by first | assumption | (unfold hUn; omega))) | (exfalso; omega)
        ·
          refine hp_sta (k := 1) (pc' := 18) rfl rfl rfl ?_
          refine hp_s (pc' := 19) (st' := [.int 0, .retAddr 1]) rfl rfl rfl ?_
          refine hp_lds (v := 0) hro.1 rfl rfl (by decide +kernel) ?_
          intro g4a g4b
          refine hp_s (pc' := 21) (ls' := [(2, .int 0), (3, .int 3), (0, .int 7), (1, .int y)]) (st' := []) rfl rfl rfl ?_
          refine hp_s (pc' := 24) (ls' := [(3, .int 4), (2, .int 0), (0, .int 7), (1, .int y)]) (st' := []) rfl rfl rfl ?_
          refine hp_go (pc' := 4) rfl rfl rfl ?_
          refine hp_s (pc' := 5) (st' := [.int 4]) rfl rfl rfl ?_
          refine hp_s (pc' := 7) (st' := [.int 8, .int 4]) rfl rfl rfl ?_
          refine hp_go (pc' := 10) rfl rfl rfl ?_
          refine hp_s (pc' := 11) (st' := [.int 0]) rfl rfl rfl ?_
          refine hp_s (pc' := 12) (st' := [.int y, .int 0]) rfl rfl rfl ?_
          refine hp_ic (pc' := 15) (t := 27) (a := 0) (b := y.toInt) rfl rfl rfl (by decide) rfl (fun (h17 : 0 = y.toInt) => ?_) (fun (h18 : ¬ (0 = y.toInt)) => ?_)
          ·
            refine hp_s (pc' := 28) (st' := [.int 0]) rfl rfl rfl ?_
            refine hp_s (pc' := 29) (st' := [.int y, .int 0]) rfl rfl rfl ?_
            refine hp_ic (pc' := 32) (t := 36) (a := 0) (b := y.toInt) rfl rfl rfl (by decide) rfl (fun (h19 : 0 ≠ y.toInt) => ?_) (fun (h20 : ¬ (0 ≠ y.toInt)) => ?_)
            ·
              refine hp_s (pc' := 37) (st' := [.int 0]) rfl rfl rfl ?_
              refine hp_rb rfl rfl (fun _ => ?_)
              first | (exact k1 (by first | assumption | (unfold hUn; omega))) | (exfalso; omega)
            ·
              refine hp_s (pc' := 33) (st' := [.int 1]) rfl rfl rfl ?_
              refine hp_go (pc' := 37) rfl rfl rfl ?_
              refine hp_rb rfl rfl (fun _ => ?_)
              first | (exact k0 (by first | assumption | (unfold hUn; omega))) | (exfalso; omega)
          ·
            refine hp_sta (k := 1) (pc' := 18) rfl rfl rfl ?_
            refine hp_s (pc' := 19) (st' := [.int 0, .retAddr 1]) rfl rfl rfl ?_
            refine hp_lds (v := 0) hro.1 rfl rfl (by decide +kernel) ?_
            intro g5a g5b
            refine hp_s (pc' := 21) (ls' := [(2, .int 0), (3, .int 4), (0, .int 7), (1, .int y)]) (st' := []) rfl rfl rfl ?_
            refine hp_s (pc' := 24) (ls' := [(3, .int 5), (2, .int 0), (0, .int 7), (1, .int y)]) (st' := []) rfl rfl rfl ?_
            refine hp_go (pc' := 4) rfl rfl rfl ?_
            refine hp_s (pc' := 5) (st' := [.int 5]) rfl rfl rfl ?_
            refine hp_s (pc' := 7) (st' := [.int 8, .int 5]) rfl rfl rfl ?_
            refine hp_go (pc' := 10) rfl rfl rfl ?_
            refine hp_s (pc' := 11) (st' := [.int 0]) rfl rfl rfl ?_
            refine hp_s (pc' := 12) (st' := [.int y, .int 0]) rfl rfl rfl ?_
            refine hp_ic (pc' := 15) (t := 27) (a := 0) (b := y.toInt) rfl rfl rfl (by decide) rfl (fun (h21 : 0 = y.toInt) => ?_) (fun (h22 : ¬ (0 = y.toInt)) => ?_)
            ·
              refine hp_s (pc' := 28) (st' := [.int 0]) rfl rfl rfl ?_
              refine hp_s (pc' := 29) (st' := [.int y, .int 0]) rfl rfl rfl ?_
              refine hp_ic (pc' := 32) (t := 36) (a := 0) (b := y.toInt) rfl rfl rfl (by decide) rfl (fun (h23 : 0 ≠ y.toInt) => ?_) (fun (h24 : ¬ (0 ≠ y.toInt)) => ?_)
              ·
                refine hp_s (pc' := 37) (st' := [.int 0]) rfl rfl rfl ?_
                refine hp_rb rfl rfl (fun _ => ?_)
                first | (exact k1 (by first | assumption | (unfold hUn; omega))) | (exfalso; omega)
              ·
                refine hp_s (pc' := 33) (st' := [.int 1]) rfl rfl rfl ?_
                refine hp_go (pc' := 37) rfl rfl rfl ?_
                refine hp_rb rfl rfl (fun _ => ?_)
                first | (exact k0 (by first | assumption | (unfold hUn; omega))) | (exfalso; omega)
            ·
              refine hp_sta (k := 1) (pc' := 18) rfl rfl rfl ?_
              refine hp_s (pc' := 19) (st' := [.int 0, .retAddr 1]) rfl rfl rfl ?_
              refine hp_lds (v := 0) hro.1 rfl rfl (by decide +kernel) ?_
              intro g6a g6b
              refine hp_s (pc' := 21) (ls' := [(2, .int 0), (3, .int 5), (0, .int 7), (1, .int y)]) (st' := []) rfl rfl rfl ?_
              refine hp_s (pc' := 24) (ls' := [(3, .int 6), (2, .int 0), (0, .int 7), (1, .int y)]) (st' := []) rfl rfl rfl ?_
              refine hp_go (pc' := 4) rfl rfl rfl ?_
              refine hp_s (pc' := 5) (st' := [.int 6]) rfl rfl rfl ?_
              refine hp_s (pc' := 7) (st' := [.int 8, .int 6]) rfl rfl rfl ?_
              refine hp_go (pc' := 10) rfl rfl rfl ?_
              refine hp_s (pc' := 11) (st' := [.int 0]) rfl rfl rfl ?_
              refine hp_s (pc' := 12) (st' := [.int y, .int 0]) rfl rfl rfl ?_
              refine hp_ic (pc' := 15) (t := 27) (a := 0) (b := y.toInt) rfl rfl rfl (by decide) rfl (fun (h25 : 0 = y.toInt) => ?_) (fun (h26 : ¬ (0 = y.toInt)) => ?_)
              ·
                refine hp_s (pc' := 28) (st' := [.int 0]) rfl rfl rfl ?_
                refine hp_s (pc' := 29) (st' := [.int y, .int 0]) rfl rfl rfl ?_
                refine hp_ic (pc' := 32) (t := 36) (a := 0) (b := y.toInt) rfl rfl rfl (by decide) rfl (fun (h27 : 0 ≠ y.toInt) => ?_) (fun (h28 : ¬ (0 ≠ y.toInt)) => ?_)
                ·
                  refine hp_s (pc' := 37) (st' := [.int 0]) rfl rfl rfl ?_
                  refine hp_rb rfl rfl (fun _ => ?_)
                  first | (exact k1 (by first | assumption | (unfold hUn; omega))) | (exfalso; omega)
                ·
                  refine hp_s (pc' := 33) (st' := [.int 1]) rfl rfl rfl ?_
                  refine hp_go (pc' := 37) rfl rfl rfl ?_
                  refine hp_rb rfl rfl (fun _ => ?_)
                  first | (exact k0 (by first | assumption | (unfold hUn; omega))) | (exfalso; omega)
              ·
                refine hp_sta (k := 1) (pc' := 18) rfl rfl rfl ?_
                refine hp_s (pc' := 19) (st' := [.int 0, .retAddr 1]) rfl rfl rfl ?_
                refine hp_lds (v := 0) hro.1 rfl rfl (by decide +kernel) ?_
                intro g7a g7b
                refine hp_s (pc' := 21) (ls' := [(2, .int 0), (3, .int 6), (0, .int 7), (1, .int y)]) (st' := []) rfl rfl rfl ?_
                refine hp_s (pc' := 24) (ls' := [(3, .int 7), (2, .int 0), (0, .int 7), (1, .int y)]) (st' := []) rfl rfl rfl ?_
                refine hp_go (pc' := 4) rfl rfl rfl ?_
                refine hp_s (pc' := 5) (st' := [.int 7]) rfl rfl rfl ?_
                refine hp_s (pc' := 7) (st' := [.int 8, .int 7]) rfl rfl rfl ?_
                refine hp_go (pc' := 10) rfl rfl rfl ?_
                refine hp_s (pc' := 11) (st' := [.int 0]) rfl rfl rfl ?_
                refine hp_s (pc' := 12) (st' := [.int y, .int 0]) rfl rfl rfl ?_
                refine hp_ic (pc' := 15) (t := 27) (a := 0) (b := y.toInt) rfl rfl rfl (by decide) rfl (fun (h29 : 0 = y.toInt) => ?_) (fun (h30 : ¬ (0 = y.toInt)) => ?_)
                ·
                  refine hp_s (pc' := 28) (st' := [.int 0]) rfl rfl rfl ?_
                  refine hp_s (pc' := 29) (st' := [.int y, .int 0]) rfl rfl rfl ?_
                  refine hp_ic (pc' := 32) (t := 36) (a := 0) (b := y.toInt) rfl rfl rfl (by decide) rfl (fun (h31 : 0 ≠ y.toInt) => ?_) (fun (h32 : ¬ (0 ≠ y.toInt)) => ?_)
                  ·
                    refine hp_s (pc' := 37) (st' := [.int 0]) rfl rfl rfl ?_
                    refine hp_rb rfl rfl (fun _ => ?_)
                    first | (exact k1 (by first | assumption | (unfold hUn; omega))) | (exfalso; omega)
                  ·
                    refine hp_s (pc' := 33) (st' := [.int 1]) rfl rfl rfl ?_
                    refine hp_go (pc' := 37) rfl rfl rfl ?_
                    refine hp_rb rfl rfl (fun _ => ?_)
                    first | (exact k0 (by first | assumption | (unfold hUn; omega))) | (exfalso; omega)
                ·
                  refine hp_sta (k := 1) (pc' := 18) rfl rfl rfl ?_
                  refine hp_s (pc' := 19) (st' := [.int 0, .retAddr 1]) rfl rfl rfl ?_
                  refine hp_lds (v := 0) hro.1 rfl rfl (by decide +kernel) ?_
                  intro g8a g8b
                  refine hp_s (pc' := 21) (ls' := [(2, .int 0), (3, .int 7), (0, .int 7), (1, .int y)]) (st' := []) rfl rfl rfl ?_
                  refine hp_s (pc' := 24) (ls' := [(3, .int 8), (2, .int 0), (0, .int 7), (1, .int y)]) (st' := []) rfl rfl rfl ?_
                  refine hp_go (pc' := 4) rfl rfl rfl ?_
                  refine hp_s (pc' := 5) (st' := [.int 8]) rfl rfl rfl ?_
                  refine hp_s (pc' := 7) (st' := [.int 8, .int 8]) rfl rfl rfl ?_
                  refine hp_go (pc' := 27) rfl rfl rfl ?_
                  refine hp_s (pc' := 28) (st' := [.int 0]) rfl rfl rfl ?_
                  refine hp_s (pc' := 29) (st' := [.int y, .int 0]) rfl rfl rfl ?_
                  refine hp_ic (pc' := 32) (t := 36) (a := 0) (b := y.toInt) rfl rfl rfl (by decide) rfl (fun (h33 : 0 ≠ y.toInt) => ?_) (fun (h34 : ¬ (0 ≠ y.toInt)) => ?_)
                  ·
                    refine hp_s (pc' := 37) (st' := [.int 0]) rfl rfl rfl ?_
                    refine hp_rb rfl rfl (fun _ => ?_)
                    first | (exact k1 (by first | assumption | (unfold hUn; omega))) | (exfalso; omega)
                  ·
                    refine hp_s (pc' := 33) (st' := [.int 1]) rfl rfl rfl ?_
                    refine hp_go (pc' := 37) rfl rfl rfl ?_
                    refine hp_rb rfl rfl (fun _ => ?_)
                    first | (exact k0 (by first | assumption | (unfold hUn; omega))) | (exfalso; omega)
theorem s_isUnder {ro : List (List Int32)} {n d : Nat} {p : xH} {Q : Option Value → xH → Prop} {x : Int32} {xi : Int} {y : Int32} {yi : Int} (hro : jro ro) (hx : x.toInt = xi) (hy : y.toInt = yi) (pre0 : 0 ≤ xi) (pre1 : xi < 8) (pre2 : 0 ≤ yi) (pre3 : yi < 8) (k0 : hUn xi yi → Q (some (.int (1))) p) (k1 : ¬ hUn xi yi → Q (some (.int (0))) p) : hP ro n d (9, 4, 0, 2, k109) 0 (lv_args 0 [.int x, .int y]) [] p Q := by
  have e : x = Int32.ofInt xi := by rw [← hx, Int32.ofInt_toInt]
  have go : ∀ z : Int, 0 ≤ z → z < 8 → z = xi → hP ro n d (9, 4, 0, 2, k109) 0 (lv_args 0 [.int x, .int y]) [] p Q := by
    intro z z0 z1 z2
    rcases (show z = 0 ∨ z = 1 ∨ z = 2 ∨ z = 3 ∨ z = 4 ∨ z = 5 ∨ z = 6 ∨ z = 7 by omega) with h | h | h | h | h | h | h | h
    · subst h; rw [← z2] at e k0 k1; subst e; exact s_isUnder0 hro hy pre2 pre3 k0 k1
    · subst h; rw [← z2] at e k0 k1; subst e; exact s_isUnder1 hro hy pre2 pre3 k0 k1
    · subst h; rw [← z2] at e k0 k1; subst e; exact s_isUnder2 hro hy pre2 pre3 k0 k1
    · subst h; rw [← z2] at e k0 k1; subst e; exact s_isUnder3 hro hy pre2 pre3 k0 k1
    · subst h; rw [← z2] at e k0 k1; subst e; exact s_isUnder4 hro hy pre2 pre3 k0 k1
    · subst h; rw [← z2] at e k0 k1; subst e; exact s_isUnder5 hro hy pre2 pre3 k0 k1
    · subst h; rw [← z2] at e k0 k1; subst e; exact s_isUnder6 hro hy pre2 pre3 k0 k1
    · subst h; rw [← z2] at e k0 k1; subst e; exact s_isUnder7 hro hy pre2 pre3 k0 k1
  exact go xi pre0 pre1 rfl
theorem X_taken {ro : List (List Int32)} {n d : Nat} {p : xH} {Q : Option Value → xH → Prop} {x : Int32} {xi : Int} {y : Int32} {yi : Int} (hro : jro ro) (hx : x.toInt = xi) (hy : y.toInt = yi) (pre0 : 0 ≤ (rI p 58 (rI p 62 xi.toNat).toInt.toNat).toInt) (pre1 : (rI p 58 (rI p 62 xi.toNat).toInt.toNat).toInt < 8) (k0 : (¬ (0 ≤ xi ∧ xi < 6 ∧ 0 ≤ yi ∧ yi < 8)) → Q (some (.int (-1))) p) (k1 : (0 ≤ xi) → (xi < 6) → (0 ≤ yi) → (yi < 8) → ((rI p 61 xi.toNat).toInt = 0) → Q (some (.int (-11))) p) (k2 : (0 ≤ xi) → (xi < 6) → (0 ≤ yi) → (yi < 8) → ((rI p 61 xi.toNat).toInt ≠ 0) → (¬ ((rI p 61 xi.toNat).toInt = 1 ∧ 0 ≤ (rI p 62 xi.toNat).toInt ∧ (rI p 62 xi.toNat).toInt < (rI p 57 1).toInt)) → Q (some (.int (-12))) p) (k3 : (0 ≤ xi) → (xi < 6) → (0 ≤ yi) → (yi < 8) → ((rI p 61 xi.toNat).toInt = 1) → (0 ≤ (rI p 62 xi.toNat).toInt ∧ (rI p 62 xi.toNat).toInt < (rI p 57 1).toInt) → (hUn (rI p 58 (rI p 62 xi.toNat).toInt.toNat).toInt yi) → Q (some (.int (rI p 58 (rI p 62 xi.toNat).toInt.toNat))) p) (k4 : (0 ≤ xi) → (xi < 6) → (0 ≤ yi) → (yi < 8) → ((rI p 61 xi.toNat).toInt = 1) → (0 ≤ (rI p 62 xi.toNat).toInt ∧ (rI p 62 xi.toNat).toInt < (rI p 57 1).toInt) → (¬ hUn (rI p 58 (rI p 62 xi.toNat).toInt.toNat).toInt yi) → Q (some (.int (-12))) p) : hP ro n d (11, 5, 1, 1, k170) 0 (lv_args 0 [.ref 0, .int x, .int y]) [] p Q := by
  subst hx
  subst hy
  refine hp_id (ls := [(0, .ref 0), (1, .int x), (2, .int y)]) ?_
  refine hp_s (pc' := 1) (st' := [.ref 0]) rfl rfl rfl ?_
  refine hp_getr (k := 13) (w := .ref 60) (pc' := 4) rfl rfl rfl rfl rfl ?_
  refine hp_s (pc' := 5) (st' := [.int x, .ref 60]) rfl rfl rfl ?_
  refine hp_cv (r := 60) (o := 6) (kd := 1) (as := [.int x]) (rest := []) (pc' := 8) rfl rfl rfl rfl rfl rfl rfl rfl rfl (fun d1 => ?_)
  refine s_isShelf (xi := x.toInt) rfl ?_ ?_
  ·
    intro h1 h2
    refine hp_id (st := [.int 1]) ?_
    refine hp_go (pc' := 11) rfl rfl rfl ?_
    refine hp_s (pc' := 12) (st' := [.int y]) rfl rfl rfl ?_
    refine hp_cs (kd := 0) (as := [.int y]) (rest := []) (pc' := 15) rfl rfl rfl rfl rfl rfl rfl (fun d2 => ?_)
    refine s_isKind (xi := y.toInt) rfl ?_ ?_
    ·
      intro h3 h4
      refine hp_id (st := [.int 1]) ?_
      refine hp_go (pc' := 20) rfl rfl rfl ?_
      refine hp_s (pc' := 21) (st' := [.ref 0]) rfl rfl rfl ?_
      refine hp_getr (k := 13) (w := .ref 60) (pc' := 24) rfl rfl rfl rfl rfl ?_
      refine hp_s (pc' := 25) (st' := [.int x, .ref 60]) rfl rfl rfl ?_
      refine hp_cv (r := 60) (o := 6) (kd := 1) (as := [.int x]) (rest := []) (pc' := 28) rfl rfl rfl rfl rfl rfl rfl rfl rfl (fun d3 => ?_)
      refine s_isBare (xi := x.toInt) rfl ?_ ?_
      ·
        intro h5 h6 h7
        refine hp_id (st := [.int 1]) ?_
        refine hp_go (pc' := 31) rfl rfl rfl ?_
        refine hp_s (pc' := 33) (st' := [.int (-11)]) rfl rfl rfl ?_
        refine hp_ri rfl rfl ?_
        first | (exact k1 (by first | assumption | omega) (by first | assumption | omega) (by first | assumption | omega) (by first | assumption | omega) (by first | assumption | omega)) | (exact k3 (by first | assumption | omega) (by first | assumption | omega) (by first | assumption | omega) (by first | assumption | omega) (by first | assumption | omega) (by first | assumption | omega) (by first | assumption | omega)) | (exfalso; omega)
      ·
        intro h8 h9 h10
        refine hp_id (st := [.int 0]) ?_
        refine hp_go (pc' := 34) rfl rfl rfl ?_
        refine hp_s (pc' := 35) (st' := [.ref 0]) rfl rfl rfl ?_
        refine hp_getr (k := 13) (w := .ref 60) (pc' := 38) rfl rfl rfl rfl rfl ?_
        refine hp_s (pc' := 39) (st' := [.int x, .ref 60]) rfl rfl rfl ?_
        refine hp_cv (r := 60) (o := 6) (kd := 1) (as := [.int x]) (rest := []) (pc' := 42) rfl rfl rfl rfl rfl rfl rfl rfl rfl (fun d4 => ?_)
        refine s_twinOn (xi := x.toInt) rfl ?_ ?_
        ·
          intro h11 h12 h13
          refine hp_id (st := [.int (rI p 62 x.toInt.toNat)]) ?_
          refine hp_s (pc' := 43) (ls' := [(3, .int (rI p 62 x.toInt.toNat)), (0, .ref 0), (1, .int x), (2, .int y)]) (st' := []) rfl rfl rfl ?_
          refine hp_s (pc' := 44) (st' := [.ref 0]) rfl rfl rfl ?_
          refine hp_getr (k := 12) (w := .ref 57) (pc' := 47) rfl rfl rfl rfl rfl ?_
          refine hp_s (pc' := 48) (st' := [.int (rI p 62 x.toInt.toNat), .ref 57]) rfl rfl rfl ?_
          refine hp_cv (r := 57) (o := 9) (kd := 1) (as := [.int (rI p 62 x.toInt.toNat)]) (rest := []) (pc' := 51) rfl rfl rfl rfl rfl rfl rfl rfl rfl (fun d5 => ?_)
          refine s_hasT (xi := (rI p 62 x.toInt.toNat).toInt) rfl ?_ ?_
          ·
            intro h14 h15
            refine hp_id (st := [.int 1]) ?_
            refine hp_go (pc' := 57) rfl rfl rfl ?_
            refine hp_s (pc' := 58) (st' := [.ref 0]) rfl rfl rfl ?_
            refine hp_getr (k := 12) (w := .ref 57) (pc' := 61) rfl rfl rfl rfl rfl ?_
            refine hp_getr (k := 0) (w := .ref 58) (pc' := 64) rfl rfl rfl rfl rfl ?_
            refine hp_s (pc' := 65) (st' := [.int (rI p 62 x.toInt.toNat), .ref 58]) rfl rfl rfl ?_
            refine hp_ld (t := 100) (v := (rI p 58 (rI p 62 x.toInt.toNat).toInt.toNat)) rfl (.inl rfl) rfl rfl rfl ?_
            intro (g1a : 0 ≤ (rI p 62 x.toInt.toNat).toInt) (g1b : (rI p 62 x.toInt.toNat).toInt < 50)
            refine hp_s (pc' := 68) (ls' := [(4, .int ((rI p 58 (rI p 62 x.toInt.toNat).toInt.toNat))), (3, .int (rI p 62 x.toInt.toNat)), (0, .ref 0), (1, .int x), (2, .int y)]) (st' := []) rfl rfl rfl ?_
            refine hp_s (pc' := 70) (st' := [.int ((rI p 58 (rI p 62 x.toInt.toNat).toInt.toNat))]) rfl rfl rfl ?_
            refine hp_s (pc' := 71) (st' := [.int y, .int ((rI p 58 (rI p 62 x.toInt.toNat).toInt.toNat))]) rfl rfl rfl ?_
            refine hp_cs (kd := 0) (as := [.int ((rI p 58 (rI p 62 x.toInt.toNat).toInt.toNat)), .int y]) (rest := []) (pc' := 74) rfl rfl rfl rfl rfl rfl rfl (fun d6 => ?_)
            refine s_isUnder hro (xi := ((rI p 58 (rI p 62 x.toInt.toNat).toInt.toNat)).toInt) rfl (yi := y.toInt) rfl (by first | assumption | omega) (by first | assumption | omega) (by first | assumption | omega) (by first | assumption | omega) ?_ ?_
            ·
              intro h16
              refine hp_id (st := [.int 1]) ?_
              refine hp_go (pc' := 77) rfl rfl rfl ?_
              refine hp_s (pc' := 79) (st' := [.int ((rI p 58 (rI p 62 x.toInt.toNat).toInt.toNat))]) rfl rfl rfl ?_
              refine hp_go (pc' := 84) rfl rfl rfl ?_
              refine hp_ri rfl rfl ?_
              first | (exact k0 (by first | assumption | omega)) | (exact k1 (by first | assumption | omega) (by first | assumption | omega) (by first | assumption | omega) (by first | assumption | omega) (by first | assumption | omega)) | (exact k2 (by first | assumption | omega) (by first | assumption | omega) (by first | assumption | omega) (by first | assumption | omega) (by first | assumption | omega) (by first | assumption | omega)) | (exact k3 (by first | assumption | omega) (by first | assumption | omega) (by first | assumption | omega) (by first | assumption | omega) (by first | assumption | omega) (by first | assumption | omega) (by first | assumption | omega)) | (exact k4 (by first | assumption | omega) (by first | assumption | omega) (by first | assumption | omega) (by first | assumption | omega) (by first | assumption | omega) (by first | assumption | omega) (by first | assumption | omega)) | (exfalso; omega)
            ·
              intro h17
              refine hp_id (st := [.int 0]) ?_
              refine hp_go (pc' := 82) rfl rfl rfl ?_
              refine hp_s (pc' := 84) (st' := [.int (-12)]) rfl rfl rfl ?_
              refine hp_ri rfl rfl ?_
              first | (exact k2 (by first | assumption | omega) (by first | assumption | omega) (by first | assumption | omega) (by first | assumption | omega) (by first | assumption | omega) (by first | assumption | omega)) | (exact k3 (by first | assumption | omega) (by first | assumption | omega) (by first | assumption | omega) (by first | assumption | omega) (by first | assumption | omega) (by first | assumption | omega) (by first | assumption | omega)) | (exact k4 (by first | assumption | omega) (by first | assumption | omega) (by first | assumption | omega) (by first | assumption | omega) (by first | assumption | omega) (by first | assumption | omega) (by first | assumption | omega)) | (exfalso; omega)
          ·
            intro h18
            refine hp_id (st := [.int 0]) ?_
            refine hp_go (pc' := 54) rfl rfl rfl ?_
            refine hp_s (pc' := 56) (st' := [.int (-12)]) rfl rfl rfl ?_
            refine hp_ri rfl rfl ?_
            first | (exact k2 (by first | assumption | omega) (by first | assumption | omega) (by first | assumption | omega) (by first | assumption | omega) (by first | assumption | omega) (by first | assumption | omega)) | (exact k3 (by first | assumption | omega) (by first | assumption | omega) (by first | assumption | omega) (by first | assumption | omega) (by first | assumption | omega) (by first | assumption | omega) (by first | assumption | omega)) | (exact k4 (by first | assumption | omega) (by first | assumption | omega) (by first | assumption | omega) (by first | assumption | omega) (by first | assumption | omega) (by first | assumption | omega) (by first | assumption | omega)) | (exfalso; omega)
        ·
          intro h19 h20 h21
          refine hp_id (st := [.int (-1)]) ?_
          refine hp_s (pc' := 43) (ls' := [(3, .int (-1)), (0, .ref 0), (1, .int x), (2, .int y)]) (st' := []) rfl rfl rfl ?_
          refine hp_s (pc' := 44) (st' := [.ref 0]) rfl rfl rfl ?_
          refine hp_getr (k := 12) (w := .ref 57) (pc' := 47) rfl rfl rfl rfl rfl ?_
          refine hp_s (pc' := 48) (st' := [.int (-1), .ref 57]) rfl rfl rfl ?_
          refine hp_cv (r := 57) (o := 9) (kd := 1) (as := [.int (-1)]) (rest := []) (pc' := 51) rfl rfl rfl rfl rfl rfl rfl rfl rfl (fun d7 => ?_)
          refine s_hasT (xi := (-1)) (by decide) ?_ ?_
          ·
            intro h22 h23
            refine hp_id (st := [.int 1]) ?_
            refine hp_go (pc' := 57) rfl rfl rfl ?_
            refine hp_s (pc' := 58) (st' := [.ref 0]) rfl rfl rfl ?_
            refine hp_getr (k := 12) (w := .ref 57) (pc' := 61) rfl rfl rfl rfl rfl ?_
            refine hp_getr (k := 0) (w := .ref 58) (pc' := 64) rfl rfl rfl rfl rfl ?_
            refine hp_s (pc' := 65) (st' := [.int (-1), .ref 58]) rfl rfl rfl ?_
            refine hp_ld (t := 100) (v := (rI p 58 (((-1) : Int32)).toInt.toNat)) rfl (.inl rfl) rfl rfl rfl ?_
            intro (g2a : 0 ≤ (((-1) : Int32)).toInt) (g2b : (((-1) : Int32)).toInt < 50)
            refine hp_s (pc' := 68) (ls' := [(4, .int ((rI p 58 (((-1) : Int32)).toInt.toNat))), (3, .int (-1)), (0, .ref 0), (1, .int x), (2, .int y)]) (st' := []) rfl rfl rfl ?_
            refine hp_s (pc' := 70) (st' := [.int ((rI p 58 (((-1) : Int32)).toInt.toNat))]) rfl rfl rfl ?_
            refine hp_s (pc' := 71) (st' := [.int y, .int ((rI p 58 (((-1) : Int32)).toInt.toNat))]) rfl rfl rfl ?_
            refine hp_cs (kd := 0) (as := [.int ((rI p 58 (((-1) : Int32)).toInt.toNat)), .int y]) (rest := []) (pc' := 74) rfl rfl rfl rfl rfl rfl rfl (fun d8 => ?_)
            refine s_isUnder hro (xi := ((rI p 58 (((-1) : Int32)).toInt.toNat)).toInt) rfl (yi := y.toInt) rfl (by first | assumption | omega) (by first | assumption | omega) (by first | assumption | omega) (by first | assumption | omega) ?_ ?_
            ·
              intro h24
              refine hp_id (st := [.int 1]) ?_
              refine hp_go (pc' := 77) rfl rfl rfl ?_
              refine hp_s (pc' := 79) (st' := [.int ((rI p 58 (((-1) : Int32)).toInt.toNat))]) rfl rfl rfl ?_
              refine hp_go (pc' := 84) rfl rfl rfl ?_
              refine hp_ri rfl rfl ?_
              first | (exact k0 (by first | assumption | omega)) | (exact k1 (by first | assumption | omega) (by first | assumption | omega) (by first | assumption | omega) (by first | assumption | omega) (by first | assumption | omega)) | (exact k2 (by first | assumption | omega) (by first | assumption | omega) (by first | assumption | omega) (by first | assumption | omega) (by first | assumption | omega) (by first | assumption | omega)) | (exact k3 (by first | assumption | omega) (by first | assumption | omega) (by first | assumption | omega) (by first | assumption | omega) (by first | assumption | omega) (by first | assumption | omega) (by first | assumption | omega)) | (exact k4 (by first | assumption | omega) (by first | assumption | omega) (by first | assumption | omega) (by first | assumption | omega) (by first | assumption | omega) (by first | assumption | omega) (by first | assumption | omega)) | (exfalso; omega)
            ·
              intro h25
              refine hp_id (st := [.int 0]) ?_
              refine hp_go (pc' := 82) rfl rfl rfl ?_
              refine hp_s (pc' := 84) (st' := [.int (-12)]) rfl rfl rfl ?_
              refine hp_ri rfl rfl ?_
              first | (exact k2 (by first | assumption | omega) (by first | assumption | omega) (by first | assumption | omega) (by first | assumption | omega) (by first | assumption | omega) (by first | assumption | omega)) | (exact k3 (by first | assumption | omega) (by first | assumption | omega) (by first | assumption | omega) (by first | assumption | omega) (by first | assumption | omega) (by first | assumption | omega) (by first | assumption | omega)) | (exact k4 (by first | assumption | omega) (by first | assumption | omega) (by first | assumption | omega) (by first | assumption | omega) (by first | assumption | omega) (by first | assumption | omega) (by first | assumption | omega)) | (exfalso; omega)
          ·
            intro h26
            refine hp_id (st := [.int 0]) ?_
            refine hp_go (pc' := 54) rfl rfl rfl ?_
            refine hp_s (pc' := 56) (st' := [.int (-12)]) rfl rfl rfl ?_
            refine hp_ri rfl rfl ?_
            first | (exact k2 (by first | assumption | omega) (by first | assumption | omega) (by first | assumption | omega) (by first | assumption | omega) (by first | assumption | omega) (by first | assumption | omega)) | (exact k3 (by first | assumption | omega) (by first | assumption | omega) (by first | assumption | omega) (by first | assumption | omega) (by first | assumption | omega) (by first | assumption | omega) (by first | assumption | omega)) | (exact k4 (by first | assumption | omega) (by first | assumption | omega) (by first | assumption | omega) (by first | assumption | omega) (by first | assumption | omega) (by first | assumption | omega) (by first | assumption | omega)) | (exfalso; omega)
    ·
      intro h27
      refine hp_id (st := [.int 0]) ?_
      refine hp_go (pc' := 18) rfl rfl rfl ?_
      refine hp_s (pc' := 19) (st' := [.int (-1)]) rfl rfl rfl ?_
      refine hp_ri rfl rfl ?_
      first | (exact k0 (by first | assumption | omega)) | (exact k3 (by first | assumption | omega) (by first | assumption | omega) (by first | assumption | omega) (by first | assumption | omega) (by first | assumption | omega) (by first | assumption | omega) (by first | assumption | omega)) | (exfalso; omega)
  ·
    intro h28
    refine hp_id (st := [.int 0]) ?_
    refine hp_go (pc' := 18) rfl rfl rfl ?_
    refine hp_s (pc' := 19) (st' := [.int (-1)]) rfl rfl rfl ?_
    refine hp_ri rfl rfl ?_
    first | (exact k0 (by first | assumption | omega)) | (exact k3 (by first | assumption | omega) (by first | assumption | omega) (by first | assumption | omega) (by first | assumption | omega) (by first | assumption | omega) (by first | assumption | omega) (by first | assumption | omega)) | (exfalso; omega)
theorem s_above0 {ro : List (List Int32)} {n d : Nat} {p : xH} {Q : Option Value → xH → Prop}   (k0 : Q (some (.int (0))) p) : hP ro n d (12, 1, 0, 1, k255) 0 (lv_args 0 [.int 0]) [] p Q := by
  refine hp_id (ls := [(0, .int 0)]) ?_
  refine hp_s (pc' := 1) (st' := [.int 0]) rfl rfl rfl ?_
  refine hp_s (pc' := 2) (st' := [.int 3, .int 0]) rfl rfl rfl ?_
  refine hp_go (pc' := 9) rfl rfl rfl ?_
  refine hp_s (pc' := 10) (st' := [.int 0]) rfl rfl rfl ?_
  refine hp_s (pc' := 11) (st' := [.int 4, .int 0]) rfl rfl rfl ?_
  refine hp_go (pc' := 18) rfl rfl rfl ?_
  refine hp_s (pc' := 19) (st' := [.int 0]) rfl rfl rfl ?_
  refine hp_s (pc' := 20) (st' := [.int 5, .int 0]) rfl rfl rfl ?_
  refine hp_go (pc' := 27) rfl rfl rfl ?_
  refine hp_s (pc' := 28) (st' := [.int 0]) rfl rfl rfl ?_
  refine hp_s (pc' := 30) (st' := [.int 7, .int 0]) rfl rfl rfl ?_
  refine hp_go (pc' := 37) rfl rfl rfl ?_
  refine hp_s (pc' := 38) (st' := [.int 0]) rfl rfl rfl ?_
  refine hp_ri rfl rfl ?_
  first | (exact k0 ) | (exfalso; omega)
theorem s_above1 {ro : List (List Int32)} {n d : Nat} {p : xH} {Q : Option Value → xH → Prop}   (k0 : Q (some (.int (0))) p) : hP ro n d (12, 1, 0, 1, k255) 0 (lv_args 0 [.int 1]) [] p Q := by
  refine hp_id (ls := [(0, .int 1)]) ?_
  refine hp_s (pc' := 1) (st' := [.int 1]) rfl rfl rfl ?_
  refine hp_s (pc' := 2) (st' := [.int 3, .int 1]) rfl rfl rfl ?_
  refine hp_go (pc' := 9) rfl rfl rfl ?_
  refine hp_s (pc' := 10) (st' := [.int 1]) rfl rfl rfl ?_
  refine hp_s (pc' := 11) (st' := [.int 4, .int 1]) rfl rfl rfl ?_
  refine hp_go (pc' := 18) rfl rfl rfl ?_
  refine hp_s (pc' := 19) (st' := [.int 1]) rfl rfl rfl ?_
  refine hp_s (pc' := 20) (st' := [.int 5, .int 1]) rfl rfl rfl ?_
  refine hp_go (pc' := 27) rfl rfl rfl ?_
  refine hp_s (pc' := 28) (st' := [.int 1]) rfl rfl rfl ?_
  refine hp_s (pc' := 30) (st' := [.int 7, .int 1]) rfl rfl rfl ?_
  refine hp_go (pc' := 37) rfl rfl rfl ?_
  refine hp_s (pc' := 38) (st' := [.int 0]) rfl rfl rfl ?_
  refine hp_ri rfl rfl ?_
  first | (exact k0 ) | (exfalso; omega)
theorem s_above2 {ro : List (List Int32)} {n d : Nat} {p : xH} {Q : Option Value → xH → Prop}   (k0 : Q (some (.int (0))) p) : hP ro n d (12, 1, 0, 1, k255) 0 (lv_args 0 [.int 2]) [] p Q := by
  refine hp_id (ls := [(0, .int 2)]) ?_
  refine hp_s (pc' := 1) (st' := [.int 2]) rfl rfl rfl ?_
  refine hp_s (pc' := 2) (st' := [.int 3, .int 2]) rfl rfl rfl ?_
  refine hp_go (pc' := 9) rfl rfl rfl ?_
  refine hp_s (pc' := 10) (st' := [.int 2]) rfl rfl rfl ?_
  refine hp_s (pc' := 11) (st' := [.int 4, .int 2]) rfl rfl rfl ?_
  refine hp_go (pc' := 18) rfl rfl rfl ?_
  refine hp_s (pc' := 19) (st' := [.int 2]) rfl rfl rfl ?_
  refine hp_s (pc' := 20) (st' := [.int 5, .int 2]) rfl rfl rfl ?_
  refine hp_go (pc' := 27) rfl rfl rfl ?_
  refine hp_s (pc' := 28) (st' := [.int 2]) rfl rfl rfl ?_
  refine hp_s (pc' := 30) (st' := [.int 7, .int 2]) rfl rfl rfl ?_
  refine hp_go (pc' := 37) rfl rfl rfl ?_
  refine hp_s (pc' := 38) (st' := [.int 0]) rfl rfl rfl ?_
  refine hp_ri rfl rfl ?_
  first | (exact k0 ) | (exfalso; omega)
theorem s_above3 {ro : List (List Int32)} {n d : Nat} {p : xH} {Q : Option Value → xH → Prop}   (k0 : Q (some (.int (2))) p) : hP ro n d (12, 1, 0, 1, k255) 0 (lv_args 0 [.int 3]) [] p Q := by
  refine hp_id (ls := [(0, .int 3)]) ?_
  refine hp_s (pc' := 1) (st' := [.int 3]) rfl rfl rfl ?_
  refine hp_s (pc' := 2) (st' := [.int 3, .int 3]) rfl rfl rfl ?_
  refine hp_go (pc' := 5) rfl rfl rfl ?_
  refine hp_s (pc' := 6) (st' := [.int 2]) rfl rfl rfl ?_
  refine hp_go (pc' := 38) rfl rfl rfl ?_
  refine hp_ri rfl rfl ?_
  first | (exact k0 ) | (exfalso; omega)
theorem s_above4 {ro : List (List Int32)} {n d : Nat} {p : xH} {Q : Option Value → xH → Prop}   (k0 : Q (some (.int (1))) p) : hP ro n d (12, 1, 0, 1, k255) 0 (lv_args 0 [.int 4]) [] p Q := by
  refine hp_id (ls := [(0, .int 4)]) ?_
  refine hp_s (pc' := 1) (st' := [.int 4]) rfl rfl rfl ?_
  refine hp_s (pc' := 2) (st' := [.int 3, .int 4]) rfl rfl rfl ?_
  refine hp_go (pc' := 9) rfl rfl rfl ?_
  refine hp_s (pc' := 10) (st' := [.int 4]) rfl rfl rfl ?_
  refine hp_s (pc' := 11) (st' := [.int 4, .int 4]) rfl rfl rfl ?_
  refine hp_go (pc' := 14) rfl rfl rfl ?_
  refine hp_s (pc' := 15) (st' := [.int 1]) rfl rfl rfl ?_
  refine hp_go (pc' := 38) rfl rfl rfl ?_
  refine hp_ri rfl rfl ?_
  first | (exact k0 ) | (exfalso; omega)
theorem s_above5 {ro : List (List Int32)} {n d : Nat} {p : xH} {Q : Option Value → xH → Prop}   (k0 : Q (some (.int (3))) p) : hP ro n d (12, 1, 0, 1, k255) 0 (lv_args 0 [.int 5]) [] p Q := by
  refine hp_id (ls := [(0, .int 5)]) ?_
  refine hp_s (pc' := 1) (st' := [.int 5]) rfl rfl rfl ?_
  refine hp_s (pc' := 2) (st' := [.int 3, .int 5]) rfl rfl rfl ?_
  refine hp_go (pc' := 9) rfl rfl rfl ?_
  refine hp_s (pc' := 10) (st' := [.int 5]) rfl rfl rfl ?_
  refine hp_s (pc' := 11) (st' := [.int 4, .int 5]) rfl rfl rfl ?_
  refine hp_go (pc' := 18) rfl rfl rfl ?_
  refine hp_s (pc' := 19) (st' := [.int 5]) rfl rfl rfl ?_
  refine hp_s (pc' := 20) (st' := [.int 5, .int 5]) rfl rfl rfl ?_
  refine hp_go (pc' := 23) rfl rfl rfl ?_
  refine hp_s (pc' := 24) (st' := [.int 3]) rfl rfl rfl ?_
  refine hp_go (pc' := 38) rfl rfl rfl ?_
  refine hp_ri rfl rfl ?_
  first | (exact k0 ) | (exfalso; omega)
theorem s_above6 {ro : List (List Int32)} {n d : Nat} {p : xH} {Q : Option Value → xH → Prop}   (k0 : Q (some (.int (0))) p) : hP ro n d (12, 1, 0, 1, k255) 0 (lv_args 0 [.int 6]) [] p Q := by
  refine hp_id (ls := [(0, .int 6)]) ?_
  refine hp_s (pc' := 1) (st' := [.int 6]) rfl rfl rfl ?_
  refine hp_s (pc' := 2) (st' := [.int 3, .int 6]) rfl rfl rfl ?_
  refine hp_go (pc' := 9) rfl rfl rfl ?_
  refine hp_s (pc' := 10) (st' := [.int 6]) rfl rfl rfl ?_
  refine hp_s (pc' := 11) (st' := [.int 4, .int 6]) rfl rfl rfl ?_
  refine hp_go (pc' := 18) rfl rfl rfl ?_
  refine hp_s (pc' := 19) (st' := [.int 6]) rfl rfl rfl ?_
  refine hp_s (pc' := 20) (st' := [.int 5, .int 6]) rfl rfl rfl ?_
  refine hp_go (pc' := 27) rfl rfl rfl ?_
  refine hp_s (pc' := 28) (st' := [.int 6]) rfl rfl rfl ?_
  refine hp_s (pc' := 30) (st' := [.int 7, .int 6]) rfl rfl rfl ?_
  refine hp_go (pc' := 37) rfl rfl rfl ?_
  refine hp_s (pc' := 38) (st' := [.int 0]) rfl rfl rfl ?_
  refine hp_ri rfl rfl ?_
  first | (exact k0 ) | (exfalso; omega)
theorem s_above7 {ro : List (List Int32)} {n d : Nat} {p : xH} {Q : Option Value → xH → Prop}   (k0 : Q (some (.int (4))) p) : hP ro n d (12, 1, 0, 1, k255) 0 (lv_args 0 [.int 7]) [] p Q := by
  refine hp_id (ls := [(0, .int 7)]) ?_
  refine hp_s (pc' := 1) (st' := [.int 7]) rfl rfl rfl ?_
  refine hp_s (pc' := 2) (st' := [.int 3, .int 7]) rfl rfl rfl ?_
  refine hp_go (pc' := 9) rfl rfl rfl ?_
  refine hp_s (pc' := 10) (st' := [.int 7]) rfl rfl rfl ?_
  refine hp_s (pc' := 11) (st' := [.int 4, .int 7]) rfl rfl rfl ?_
  refine hp_go (pc' := 18) rfl rfl rfl ?_
  refine hp_s (pc' := 19) (st' := [.int 7]) rfl rfl rfl ?_
  refine hp_s (pc' := 20) (st' := [.int 5, .int 7]) rfl rfl rfl ?_
  refine hp_go (pc' := 27) rfl rfl rfl ?_
  refine hp_s (pc' := 28) (st' := [.int 7]) rfl rfl rfl ?_
  refine hp_s (pc' := 30) (st' := [.int 7, .int 7]) rfl rfl rfl ?_
  refine hp_go (pc' := 33) rfl rfl rfl ?_
  refine hp_s (pc' := 34) (st' := [.int 4]) rfl rfl rfl ?_
  refine hp_go (pc' := 38) rfl rfl rfl ?_
  refine hp_ri rfl rfl ?_
  first | (exact k0 ) | (exfalso; omega)
theorem s_above {ro : List (List Int32)} {n d : Nat} {p : xH} {Q : Option Value → xH → Prop} {x : Int32} {xi : Int} (hx : x.toInt = xi)  (k0 : (xi = 3) → Q (some (.int (2))) p) (k1 : (xi = 4) → Q (some (.int (1))) p) (k2 : (xi = 5) → Q (some (.int (3))) p) (k3 : (xi = 7) → Q (some (.int (4))) p) (k4 : (xi ≠ 3) → (xi ≠ 4) → (xi ≠ 5) → (xi ≠ 7) → Q (some (.int (0))) p) : hP ro n d (12, 1, 0, 1, k255) 0 (lv_args 0 [.int x]) [] p Q := by
  subst hx
  refine hp_id (ls := [(0, .int x)]) ?_
  refine hp_s (pc' := 1) (st' := [.int x]) rfl rfl rfl ?_
  refine hp_s (pc' := 2) (st' := [.int 3, .int x]) rfl rfl rfl ?_
  refine hp_ic (pc' := 5) (t := 9) (a := x.toInt) (b := 3) rfl rfl rfl rfl (by decide) (fun (h1 : x.toInt ≠ 3) => ?_) (fun (h2 : ¬ (x.toInt ≠ 3)) => ?_)
  ·
    refine hp_s (pc' := 10) (st' := [.int x]) rfl rfl rfl ?_
    refine hp_s (pc' := 11) (st' := [.int 4, .int x]) rfl rfl rfl ?_
    refine hp_ic (pc' := 14) (t := 18) (a := x.toInt) (b := 4) rfl rfl rfl rfl (by decide) (fun (h3 : x.toInt ≠ 4) => ?_) (fun (h4 : ¬ (x.toInt ≠ 4)) => ?_)
    ·
      refine hp_s (pc' := 19) (st' := [.int x]) rfl rfl rfl ?_
      refine hp_s (pc' := 20) (st' := [.int 5, .int x]) rfl rfl rfl ?_
      refine hp_ic (pc' := 23) (t := 27) (a := x.toInt) (b := 5) rfl rfl rfl rfl (by decide) (fun (h5 : x.toInt ≠ 5) => ?_) (fun (h6 : ¬ (x.toInt ≠ 5)) => ?_)
      ·
        refine hp_s (pc' := 28) (st' := [.int x]) rfl rfl rfl ?_
        refine hp_s (pc' := 30) (st' := [.int 7, .int x]) rfl rfl rfl ?_
        refine hp_ic (pc' := 33) (t := 37) (a := x.toInt) (b := 7) rfl rfl rfl rfl (by decide) (fun (h7 : x.toInt ≠ 7) => ?_) (fun (h8 : ¬ (x.toInt ≠ 7)) => ?_)
        ·
          refine hp_s (pc' := 38) (st' := [.int 0]) rfl rfl rfl ?_
          refine hp_ri rfl rfl ?_
          first | (exact k4 (by first | assumption | omega) (by first | assumption | omega) (by first | assumption | omega) (by first | assumption | omega)) | (exfalso; omega)
        ·
          refine hp_s (pc' := 34) (st' := [.int 4]) rfl rfl rfl ?_
          refine hp_go (pc' := 38) rfl rfl rfl ?_
          refine hp_ri rfl rfl ?_
          first | (exact k3 (by first | assumption | omega)) | (exfalso; omega)
      ·
        refine hp_s (pc' := 24) (st' := [.int 3]) rfl rfl rfl ?_
        refine hp_go (pc' := 38) rfl rfl rfl ?_
        refine hp_ri rfl rfl ?_
        first | (exact k2 (by first | assumption | omega)) | (exfalso; omega)
    ·
      refine hp_s (pc' := 15) (st' := [.int 1]) rfl rfl rfl ?_
      refine hp_go (pc' := 38) rfl rfl rfl ?_
      refine hp_ri rfl rfl ?_
      first | (exact k1 (by first | assumption | omega)) | (exfalso; omega)
  ·
    refine hp_s (pc' := 6) (st' := [.int 2]) rfl rfl rfl ?_
    refine hp_go (pc' := 38) rfl rfl rfl ?_
    refine hp_ri rfl rfl ?_
    first | (exact k0 (by first | assumption | omega)) | (exfalso; omega)
theorem s_kindOfM {ro : List (List Int32)} {n d : Nat} {p : xH} {Q : Option Value → xH → Prop} {x : Int32} {xi : Int} (hx : x.toInt = xi)  (k0 : (0 ≤ xi) → (xi < 50) → Q (some (.int (rI p 95 xi.toNat))) p) : hP ro n d (12, 2, 1, 1, k253) 0 (lv_args 0 [.ref 66, .int x]) [] p Q := by
  subst hx
  refine hp_id (ls := [(0, .ref 66), (1, .int x)]) ?_
  refine hp_s (pc' := 1) (st' := [.ref 66]) rfl rfl rfl ?_
  refine hp_getr (k := 45) (w := .ref 95) (pc' := 4) rfl rfl rfl rfl rfl ?_
  refine hp_s (pc' := 5) (st' := [.int x, .ref 95]) rfl rfl rfl ?_
  refine hp_ld (t := 100) (v := (rI p 95 x.toInt.toNat)) rfl (.inl rfl) rfl rfl rfl ?_
  intro (g1a : 0 ≤ x.toInt) (g1b : x.toInt < 50)
  refine hp_ri rfl rfl ?_
  first | (exact k0 (by first | assumption | omega) (by first | assumption | omega)) | (exfalso; omega)
theorem M_taken {ro : List (List Int32)} {n d : Nat} {p : xH} {Q : Option Value → xH → Prop} {x : Int32} {xi : Int} {y : Int32} {yi : Int} (hx : x.toInt = xi) (hy : y.toInt = yi) (pre0 : 0 ≤ (rI p 95 (rI p 97 xi.toNat).toInt.toNat).toInt) (pre1 : (rI p 95 (rI p 97 xi.toNat).toInt.toNat).toInt < 8) (k0 : (¬ (0 ≤ xi ∧ xi < 6 ∧ 0 ≤ yi ∧ yi < 8)) → Q (some (.int (-1))) p) (k1 : (0 ≤ xi) → (xi < 6) → (0 ≤ yi) → (yi < 8) → ((rI p 97 xi.toNat).toInt < 0) → Q (some (.int (-11))) p) (k2 : (0 ≤ xi) → (xi < 6) → (0 ≤ yi) → (yi < 8) → (50 ≤ (rI p 97 xi.toNat).toInt) → Q (some (.int (-12))) p) (k3 : (0 ≤ xi) → (xi < 6) → (0 ≤ yi) → (yi < 8) → (0 ≤ (rI p 97 xi.toNat).toInt) → ((rI p 97 xi.toNat).toInt < 50) → (hUn (rI p 95 (rI p 97 xi.toNat).toInt.toNat).toInt yi) → Q (some (.int (rI p 95 (rI p 97 xi.toNat).toInt.toNat))) p) (k4 : (0 ≤ xi) → (xi < 6) → (0 ≤ yi) → (yi < 8) → (0 ≤ (rI p 97 xi.toNat).toInt) → ((rI p 97 xi.toNat).toInt < 50) → (¬ hUn (rI p 95 (rI p 97 xi.toNat).toInt.toNat).toInt yi) → Q (some (.int (-12))) p) : hP ro n d (12, 4, 1, 1, k271) 0 (lv_args 0 [.ref 66, .int x, .int y]) [] p Q := by
  subst hx
  subst hy
  refine hp_id (ls := [(0, .ref 66), (1, .int x), (2, .int y)]) ?_
  refine hp_s (pc' := 1) (st' := [.int x]) rfl rfl rfl ?_
  refine hp_cs (kd := 0) (as := [.int x]) (rest := []) (pc' := 4) rfl rfl rfl rfl rfl rfl rfl (fun d1 => ?_)
  refine s_isShelfM (xi := x.toInt) rfl ?_ ?_
  ·
    intro h1 h2
    refine hp_id (st := [.int 1]) ?_
    refine hp_go (pc' := 7) rfl rfl rfl ?_
    refine hp_s (pc' := 8) (st' := [.int y]) rfl rfl rfl ?_
    refine hp_i2l (pc' := 9) rfl rfl ?_
    intro z1 hz1 ez1
    refine hp_s (pc' := 10) (st' := [.long 0, .long z1]) rfl rfl rfl ?_
    refine hp_s (pc' := 13) (st' := [.long 7, .long 0, .long z1]) rfl rfl rfl ?_
    refine hp_cs (kd := 0) (as := [.long z1, .long 0, .long 7]) (rest := []) (pc' := 16) rfl rfl rfl rfl rfl rfl rfl (fun d2 => ?_)
    refine s_within (vi := y.toInt) ez1 (ai := 0) (by decide) (bi := 7) (by decide) ?_ ?_
    ·
      intro h3 h4
      refine hp_id (st := [.int 1]) ?_
      refine hp_go (pc' := 21) rfl rfl rfl ?_
      refine hp_s (pc' := 22) (st' := [.ref 66]) rfl rfl rfl ?_
      refine hp_getr (k := 50) (w := .ref 97) (pc' := 25) rfl rfl rfl rfl rfl ?_
      refine hp_s (pc' := 26) (st' := [.int x, .ref 97]) rfl rfl rfl ?_
      refine hp_ld (t := 100) (v := (rI p 97 x.toInt.toNat)) rfl (.inl rfl) rfl rfl rfl ?_
      intro (g1a : 0 ≤ x.toInt) (g1b : x.toInt < 6)
      refine hp_if (pc' := 30) (t := 33) (a := (rI p 97 x.toInt.toNat).toInt) rfl rfl rfl rfl (fun (h5 : 0 ≤ (rI p 97 x.toInt.toNat).toInt) => ?_) (fun (h6 : ¬ (0 ≤ (rI p 97 x.toInt.toNat).toInt)) => ?_)
      ·
        refine hp_s (pc' := 34) (st' := [.ref 66]) rfl rfl rfl ?_
        refine hp_getr (k := 50) (w := .ref 97) (pc' := 37) rfl rfl rfl rfl rfl ?_
        refine hp_s (pc' := 38) (st' := [.int x, .ref 97]) rfl rfl rfl ?_
        refine hp_ld (t := 100) (v := (rI p 97 x.toInt.toNat)) rfl (.inl rfl) rfl rfl rfl ?_
        intro (g2a : 0 ≤ x.toInt) (g2b : x.toInt < 6)
        refine hp_s (pc' := 41) (st' := [.int 50, .int (rI p 97 x.toInt.toNat)]) rfl rfl rfl ?_
        refine hp_ic (pc' := 44) (t := 47) (a := (rI p 97 x.toInt.toNat).toInt) (b := 50) rfl rfl rfl rfl (by decide) (fun (h7 : (rI p 97 x.toInt.toNat).toInt < 50) => ?_) (fun (h8 : ¬ ((rI p 97 x.toInt.toNat).toInt < 50)) => ?_)
        ·
          refine hp_s (pc' := 48) (st' := [.ref 66]) rfl rfl rfl ?_
          refine hp_s (pc' := 49) (st' := [.ref 66, .ref 66]) rfl rfl rfl ?_
          refine hp_getr (k := 50) (w := .ref 97) (pc' := 52) rfl rfl rfl rfl rfl ?_
          refine hp_s (pc' := 53) (st' := [.int x, .ref 97, .ref 66]) rfl rfl rfl ?_
          refine hp_ld (t := 100) (v := (rI p 97 x.toInt.toNat)) rfl (.inl rfl) rfl rfl rfl ?_
          intro (g3a : 0 ≤ x.toInt) (g3b : x.toInt < 6)
          refine hp_cv (r := 66) (o := 12) (kd := 1) (as := [.int (rI p 97 x.toInt.toNat)]) (rest := []) (pc' := 57) rfl rfl rfl rfl rfl rfl rfl rfl rfl (fun d3 => ?_)
          refine s_kindOfM (xi := (rI p 97 x.toInt.toNat).toInt) rfl ?_
          intro h9 h10
          refine hp_id (st := [.int (((rI p 95 ((rI p 97 x.toInt.toNat).toInt).toNat)))]) ?_
          refine hp_s (pc' := 58) (ls' := [(3, .int (((rI p 95 ((rI p 97 x.toInt.toNat).toInt).toNat)))), (0, .ref 66), (1, .int x), (2, .int y)]) (st' := []) rfl rfl rfl ?_
          refine hp_s (pc' := 59) (st' := [.int (((rI p 95 ((rI p 97 x.toInt.toNat).toInt).toNat)))]) rfl rfl rfl ?_
          refine hp_s (pc' := 60) (st' := [.int y, .int (((rI p 95 ((rI p 97 x.toInt.toNat).toInt).toNat)))]) rfl rfl rfl ?_
          refine hp_ic (pc' := 63) (t := 75) (a := (((rI p 95 ((rI p 97 x.toInt.toNat).toInt).toNat))).toInt) (b := y.toInt) rfl rfl rfl rfl rfl (fun (h11 : (((rI p 95 ((rI p 97 x.toInt.toNat).toInt).toNat))).toInt = y.toInt) => ?_) (fun (h12 : ¬ ((((rI p 95 ((rI p 97 x.toInt.toNat).toInt).toNat))).toInt = y.toInt)) => ?_)
          ·
            refine hp_s (pc' := 76) (st' := [.int (((rI p 95 ((rI p 97 x.toInt.toNat).toInt).toNat)))]) rfl rfl rfl ?_
            refine hp_s (pc' := 77) (st' := [.int y, .int (((rI p 95 ((rI p 97 x.toInt.toNat).toInt).toNat)))]) rfl rfl rfl ?_
            refine hp_ic (pc' := 80) (t := 93) (a := (((rI p 95 ((rI p 97 x.toInt.toNat).toInt).toNat))).toInt) (b := y.toInt) rfl rfl rfl rfl rfl (fun (h13 : (((rI p 95 ((rI p 97 x.toInt.toNat).toInt).toNat))).toInt ≠ y.toInt) => ?_) (fun (h14 : ¬ ((((rI p 95 ((rI p 97 x.toInt.toNat).toInt).toNat))).toInt ≠ y.toInt)) => ?_)
            ·
              refine hp_s (pc' := 95) (st' := [.int (-12)]) rfl rfl rfl ?_
              refine hp_ri rfl rfl ?_
              first | (exact k2 (by first | assumption | (unfold hUn; omega) | omega) (by first | assumption | (unfold hUn; omega) | omega) (by first | assumption | (unfold hUn; omega) | omega) (by first | assumption | (unfold hUn; omega) | omega) (by first | assumption | (unfold hUn; omega) | omega)) | (exact k3 (by first | assumption | (unfold hUn; omega) | omega) (by first | assumption | (unfold hUn; omega) | omega) (by first | assumption | (unfold hUn; omega) | omega) (by first | assumption | (unfold hUn; omega) | omega) (by first | assumption | (unfold hUn; omega) | omega) (by first | assumption | (unfold hUn; omega) | omega) (by first | assumption | (unfold hUn; omega) | omega)) | (exact k4 (by first | assumption | (unfold hUn; omega) | omega) (by first | assumption | (unfold hUn; omega) | omega) (by first | assumption | (unfold hUn; omega) | omega) (by first | assumption | (unfold hUn; omega) | omega) (by first | assumption | (unfold hUn; omega) | omega) (by first | assumption | (unfold hUn; omega) | omega) (by first | assumption | (unfold hUn; omega) | omega)) | (exfalso; omega)
            ·
              refine hp_s (pc' := 81) (st' := [.ref 66]) rfl rfl rfl ?_
              refine hp_s (pc' := 82) (st' := [.ref 66, .ref 66]) rfl rfl rfl ?_
              refine hp_getr (k := 50) (w := .ref 97) (pc' := 85) rfl rfl rfl rfl rfl ?_
              refine hp_s (pc' := 86) (st' := [.int x, .ref 97, .ref 66]) rfl rfl rfl ?_
              refine hp_ld (t := 100) (v := (rI p 97 x.toInt.toNat)) rfl (.inl rfl) rfl rfl rfl ?_
              intro (g4a : 0 ≤ x.toInt) (g4b : x.toInt < 6)
              refine hp_cv (r := 66) (o := 12) (kd := 1) (as := [.int (rI p 97 x.toInt.toNat)]) (rest := []) (pc' := 90) rfl rfl rfl rfl rfl rfl rfl rfl rfl (fun d4 => ?_)
              refine s_kindOfM (xi := (rI p 97 x.toInt.toNat).toInt) rfl ?_
              intro h15 h16
              refine hp_id (st := [.int (((rI p 95 ((rI p 97 x.toInt.toNat).toInt).toNat)))]) ?_
              refine hp_go (pc' := 95) rfl rfl rfl ?_
              refine hp_ri rfl rfl ?_
              first | (exact k0 (by first | assumption | (unfold hUn; omega) | omega)) | (exact k1 (by first | assumption | (unfold hUn; omega) | omega) (by first | assumption | (unfold hUn; omega) | omega) (by first | assumption | (unfold hUn; omega) | omega) (by first | assumption | (unfold hUn; omega) | omega) (by first | assumption | (unfold hUn; omega) | omega)) | (exact k2 (by first | assumption | (unfold hUn; omega) | omega) (by first | assumption | (unfold hUn; omega) | omega) (by first | assumption | (unfold hUn; omega) | omega) (by first | assumption | (unfold hUn; omega) | omega) (by first | assumption | (unfold hUn; omega) | omega)) | (exact k3 (by first | assumption | (unfold hUn; omega) | omega) (by first | assumption | (unfold hUn; omega) | omega) (by first | assumption | (unfold hUn; omega) | omega) (by first | assumption | (unfold hUn; omega) | omega) (by first | assumption | (unfold hUn; omega) | omega) (by first | assumption | (unfold hUn; omega) | omega) (by first | assumption | (unfold hUn; omega) | omega)) | (exact k4 (by first | assumption | (unfold hUn; omega) | omega) (by first | assumption | (unfold hUn; omega) | omega) (by first | assumption | (unfold hUn; omega) | omega) (by first | assumption | (unfold hUn; omega) | omega) (by first | assumption | (unfold hUn; omega) | omega) (by first | assumption | (unfold hUn; omega) | omega) (by first | assumption | (unfold hUn; omega) | omega)) | (exfalso; omega)
          ·
            refine hp_s (pc' := 64) (st' := [.int (((rI p 95 ((rI p 97 x.toInt.toNat).toInt).toNat)))]) rfl rfl rfl ?_
            refine hp_if (pc' := 67) (t := 75) (a := (((rI p 95 ((rI p 97 x.toInt.toNat).toInt).toNat))).toInt) rfl rfl rfl rfl (fun (h17 : (((rI p 95 ((rI p 97 x.toInt.toNat).toInt).toNat))).toInt ≤ 0) => ?_) (fun (h18 : ¬ ((((rI p 95 ((rI p 97 x.toInt.toNat).toInt).toNat))).toInt ≤ 0)) => ?_)
            ·
              refine hp_s (pc' := 76) (st' := [.int (((rI p 95 ((rI p 97 x.toInt.toNat).toInt).toNat)))]) rfl rfl rfl ?_
              refine hp_s (pc' := 77) (st' := [.int y, .int (((rI p 95 ((rI p 97 x.toInt.toNat).toInt).toNat)))]) rfl rfl rfl ?_
              refine hp_ic (pc' := 80) (t := 93) (a := (((rI p 95 ((rI p 97 x.toInt.toNat).toInt).toNat))).toInt) (b := y.toInt) rfl rfl rfl rfl rfl (fun (h19 : (((rI p 95 ((rI p 97 x.toInt.toNat).toInt).toNat))).toInt ≠ y.toInt) => ?_) (fun (h20 : ¬ ((((rI p 95 ((rI p 97 x.toInt.toNat).toInt).toNat))).toInt ≠ y.toInt)) => ?_)
              ·
                refine hp_s (pc' := 95) (st' := [.int (-12)]) rfl rfl rfl ?_
                refine hp_ri rfl rfl ?_
                first | (exact k2 (by first | assumption | (unfold hUn; omega) | omega) (by first | assumption | (unfold hUn; omega) | omega) (by first | assumption | (unfold hUn; omega) | omega) (by first | assumption | (unfold hUn; omega) | omega) (by first | assumption | (unfold hUn; omega) | omega)) | (exact k3 (by first | assumption | (unfold hUn; omega) | omega) (by first | assumption | (unfold hUn; omega) | omega) (by first | assumption | (unfold hUn; omega) | omega) (by first | assumption | (unfold hUn; omega) | omega) (by first | assumption | (unfold hUn; omega) | omega) (by first | assumption | (unfold hUn; omega) | omega) (by first | assumption | (unfold hUn; omega) | omega)) | (exact k4 (by first | assumption | (unfold hUn; omega) | omega) (by first | assumption | (unfold hUn; omega) | omega) (by first | assumption | (unfold hUn; omega) | omega) (by first | assumption | (unfold hUn; omega) | omega) (by first | assumption | (unfold hUn; omega) | omega) (by first | assumption | (unfold hUn; omega) | omega) (by first | assumption | (unfold hUn; omega) | omega)) | (exfalso; omega)
              ·
                refine hp_s (pc' := 81) (st' := [.ref 66]) rfl rfl rfl ?_
                refine hp_s (pc' := 82) (st' := [.ref 66, .ref 66]) rfl rfl rfl ?_
                refine hp_getr (k := 50) (w := .ref 97) (pc' := 85) rfl rfl rfl rfl rfl ?_
                refine hp_s (pc' := 86) (st' := [.int x, .ref 97, .ref 66]) rfl rfl rfl ?_
                refine hp_ld (t := 100) (v := (rI p 97 x.toInt.toNat)) rfl (.inl rfl) rfl rfl rfl ?_
                intro (g5a : 0 ≤ x.toInt) (g5b : x.toInt < 6)
                refine hp_cv (r := 66) (o := 12) (kd := 1) (as := [.int (rI p 97 x.toInt.toNat)]) (rest := []) (pc' := 90) rfl rfl rfl rfl rfl rfl rfl rfl rfl (fun d5 => ?_)
                refine s_kindOfM (xi := (rI p 97 x.toInt.toNat).toInt) rfl ?_
                intro h21 h22
                refine hp_id (st := [.int (((rI p 95 ((rI p 97 x.toInt.toNat).toInt).toNat)))]) ?_
                refine hp_go (pc' := 95) rfl rfl rfl ?_
                refine hp_ri rfl rfl ?_
                first | (exact k0 (by first | assumption | (unfold hUn; omega) | omega)) | (exact k1 (by first | assumption | (unfold hUn; omega) | omega) (by first | assumption | (unfold hUn; omega) | omega) (by first | assumption | (unfold hUn; omega) | omega) (by first | assumption | (unfold hUn; omega) | omega) (by first | assumption | (unfold hUn; omega) | omega)) | (exact k2 (by first | assumption | (unfold hUn; omega) | omega) (by first | assumption | (unfold hUn; omega) | omega) (by first | assumption | (unfold hUn; omega) | omega) (by first | assumption | (unfold hUn; omega) | omega) (by first | assumption | (unfold hUn; omega) | omega)) | (exact k3 (by first | assumption | (unfold hUn; omega) | omega) (by first | assumption | (unfold hUn; omega) | omega) (by first | assumption | (unfold hUn; omega) | omega) (by first | assumption | (unfold hUn; omega) | omega) (by first | assumption | (unfold hUn; omega) | omega) (by first | assumption | (unfold hUn; omega) | omega) (by first | assumption | (unfold hUn; omega) | omega)) | (exact k4 (by first | assumption | (unfold hUn; omega) | omega) (by first | assumption | (unfold hUn; omega) | omega) (by first | assumption | (unfold hUn; omega) | omega) (by first | assumption | (unfold hUn; omega) | omega) (by first | assumption | (unfold hUn; omega) | omega) (by first | assumption | (unfold hUn; omega) | omega) (by first | assumption | (unfold hUn; omega) | omega)) | (exfalso; omega)
            ·
              refine hp_s (pc' := 68) (st' := [.int (((rI p 95 ((rI p 97 x.toInt.toNat).toInt).toNat)))]) rfl rfl rfl ?_
              refine hp_cs (kd := 0) (as := [.int (((rI p 95 ((rI p 97 x.toInt.toNat).toInt).toNat)))]) (rest := []) (pc' := 71) rfl rfl rfl rfl rfl rfl rfl (fun d6 => ?_)
              refine s_above (xi := (((rI p 95 ((rI p 97 x.toInt.toNat).toInt).toNat))).toInt) rfl ?_ ?_ ?_ ?_ ?_
              ·
                intro h23
                refine hp_id (st := [.int 2]) ?_
                refine hp_s (pc' := 72) (ls' := [(3, .int 2), (0, .ref 66), (1, .int x), (2, .int y)]) (st' := []) rfl rfl rfl ?_
                refine hp_go (pc' := 58) rfl rfl rfl ?_
                refine hp_s (pc' := 59) (st' := [.int 2]) rfl rfl rfl ?_
                refine hp_s (pc' := 60) (st' := [.int y, .int 2]) rfl rfl rfl ?_
                refine hp_ic (pc' := 63) (t := 75) (a := 2) (b := y.toInt) rfl rfl rfl (by decide) rfl (fun (h24 : 2 = y.toInt) => ?_) (fun (h25 : ¬ (2 = y.toInt)) => ?_)
                ·
                  refine hp_s (pc' := 76) (st' := [.int 2]) rfl rfl rfl ?_
                  refine hp_s (pc' := 77) (st' := [.int y, .int 2]) rfl rfl rfl ?_
                  refine hp_ic (pc' := 80) (t := 93) (a := 2) (b := y.toInt) rfl rfl rfl (by decide) rfl (fun (h26 : 2 ≠ y.toInt) => ?_) (fun (h27 : ¬ (2 ≠ y.toInt)) => ?_)
                  ·
                    refine hp_s (pc' := 95) (st' := [.int (-12)]) rfl rfl rfl ?_
                    refine hp_ri rfl rfl ?_
                    first | (exact k2 (by first | assumption | (unfold hUn; omega) | omega) (by first | assumption | (unfold hUn; omega) | omega) (by first | assumption | (unfold hUn; omega) | omega) (by first | assumption | (unfold hUn; omega) | omega) (by first | assumption | (unfold hUn; omega) | omega)) | (exact k3 (by first | assumption | (unfold hUn; omega) | omega) (by first | assumption | (unfold hUn; omega) | omega) (by first | assumption | (unfold hUn; omega) | omega) (by first | assumption | (unfold hUn; omega) | omega) (by first | assumption | (unfold hUn; omega) | omega) (by first | assumption | (unfold hUn; omega) | omega) (by first | assumption | (unfold hUn; omega) | omega)) | (exact k4 (by first | assumption | (unfold hUn; omega) | omega) (by first | assumption | (unfold hUn; omega) | omega) (by first | assumption | (unfold hUn; omega) | omega) (by first | assumption | (unfold hUn; omega) | omega) (by first | assumption | (unfold hUn; omega) | omega) (by first | assumption | (unfold hUn; omega) | omega) (by first | assumption | (unfold hUn; omega) | omega)) | (exfalso; omega)
                  ·
                    refine hp_s (pc' := 81) (st' := [.ref 66]) rfl rfl rfl ?_
                    refine hp_s (pc' := 82) (st' := [.ref 66, .ref 66]) rfl rfl rfl ?_
                    refine hp_getr (k := 50) (w := .ref 97) (pc' := 85) rfl rfl rfl rfl rfl ?_
                    refine hp_s (pc' := 86) (st' := [.int x, .ref 97, .ref 66]) rfl rfl rfl ?_
                    refine hp_ld (t := 100) (v := (rI p 97 x.toInt.toNat)) rfl (.inl rfl) rfl rfl rfl ?_
                    intro (g6a : 0 ≤ x.toInt) (g6b : x.toInt < 6)
                    refine hp_cv (r := 66) (o := 12) (kd := 1) (as := [.int (rI p 97 x.toInt.toNat)]) (rest := []) (pc' := 90) rfl rfl rfl rfl rfl rfl rfl rfl rfl (fun d7 => ?_)
                    refine s_kindOfM (xi := (rI p 97 x.toInt.toNat).toInt) rfl ?_
                    intro h28 h29
                    refine hp_id (st := [.int (((rI p 95 ((rI p 97 x.toInt.toNat).toInt).toNat)))]) ?_
                    refine hp_go (pc' := 95) rfl rfl rfl ?_
                    refine hp_ri rfl rfl ?_
                    first | (exact k0 (by first | assumption | (unfold hUn; omega) | omega)) | (exact k1 (by first | assumption | (unfold hUn; omega) | omega) (by first | assumption | (unfold hUn; omega) | omega) (by first | assumption | (unfold hUn; omega) | omega) (by first | assumption | (unfold hUn; omega) | omega) (by first | assumption | (unfold hUn; omega) | omega)) | (exact k2 (by first | assumption | (unfold hUn; omega) | omega) (by first | assumption | (unfold hUn; omega) | omega) (by first | assumption | (unfold hUn; omega) | omega) (by first | assumption | (unfold hUn; omega) | omega) (by first | assumption | (unfold hUn; omega) | omega)) | (exact k3 (by first | assumption | (unfold hUn; omega) | omega) (by first | assumption | (unfold hUn; omega) | omega) (by first | assumption | (unfold hUn; omega) | omega) (by first | assumption | (unfold hUn; omega) | omega) (by first | assumption | (unfold hUn; omega) | omega) (by first | assumption | (unfold hUn; omega) | omega) (by first | assumption | (unfold hUn; omega) | omega)) | (exact k4 (by first | assumption | (unfold hUn; omega) | omega) (by first | assumption | (unfold hUn; omega) | omega) (by first | assumption | (unfold hUn; omega) | omega) (by first | assumption | (unfold hUn; omega) | omega) (by first | assumption | (unfold hUn; omega) | omega) (by first | assumption | (unfold hUn; omega) | omega) (by first | assumption | (unfold hUn; omega) | omega)) | (exfalso; omega)
                ·
                  refine hp_s (pc' := 64) (st' := [.int 2]) rfl rfl rfl ?_
                  refine hp_go (pc' := 67) rfl rfl rfl ?_
                  refine hp_s (pc' := 68) (st' := [.int 2]) rfl rfl rfl ?_
                  refine hp_cs (kd := 0) (as := [.int 2]) (rest := []) (pc' := 71) rfl rfl rfl rfl rfl rfl rfl (fun d8 => ?_)
                  refine s_above2 ?_
                  refine hp_id (st := [.int 0]) ?_
                  refine hp_s (pc' := 72) (ls' := [(3, .int 0), (0, .ref 66), (1, .int x), (2, .int y)]) (st' := []) rfl rfl rfl ?_
                  refine hp_go (pc' := 58) rfl rfl rfl ?_
                  refine hp_s (pc' := 59) (st' := [.int 0]) rfl rfl rfl ?_
                  refine hp_s (pc' := 60) (st' := [.int y, .int 0]) rfl rfl rfl ?_
                  refine hp_ic (pc' := 63) (t := 75) (a := 0) (b := y.toInt) rfl rfl rfl (by decide) rfl (fun (h30 : 0 = y.toInt) => ?_) (fun (h31 : ¬ (0 = y.toInt)) => ?_)
                  ·
                    refine hp_s (pc' := 76) (st' := [.int 0]) rfl rfl rfl ?_
                    refine hp_s (pc' := 77) (st' := [.int y, .int 0]) rfl rfl rfl ?_
                    refine hp_ic (pc' := 80) (t := 93) (a := 0) (b := y.toInt) rfl rfl rfl (by decide) rfl (fun (h32 : 0 ≠ y.toInt) => ?_) (fun (h33 : ¬ (0 ≠ y.toInt)) => ?_)
                    ·
                      refine hp_s (pc' := 95) (st' := [.int (-12)]) rfl rfl rfl ?_
                      refine hp_ri rfl rfl ?_
                      first | (exact k2 (by first | assumption | (unfold hUn; omega) | omega) (by first | assumption | (unfold hUn; omega) | omega) (by first | assumption | (unfold hUn; omega) | omega) (by first | assumption | (unfold hUn; omega) | omega) (by first | assumption | (unfold hUn; omega) | omega)) | (exact k3 (by first | assumption | (unfold hUn; omega) | omega) (by first | assumption | (unfold hUn; omega) | omega) (by first | assumption | (unfold hUn; omega) | omega) (by first | assumption | (unfold hUn; omega) | omega) (by first | assumption | (unfold hUn; omega) | omega) (by first | assumption | (unfold hUn; omega) | omega) (by first | assumption | (unfold hUn; omega) | omega)) | (exact k4 (by first | assumption | (unfold hUn; omega) | omega) (by first | assumption | (unfold hUn; omega) | omega) (by first | assumption | (unfold hUn; omega) | omega) (by first | assumption | (unfold hUn; omega) | omega) (by first | assumption | (unfold hUn; omega) | omega) (by first | assumption | (unfold hUn; omega) | omega) (by first | assumption | (unfold hUn; omega) | omega)) | (exfalso; omega)
                    ·
                      refine hp_s (pc' := 81) (st' := [.ref 66]) rfl rfl rfl ?_
                      refine hp_s (pc' := 82) (st' := [.ref 66, .ref 66]) rfl rfl rfl ?_
                      refine hp_getr (k := 50) (w := .ref 97) (pc' := 85) rfl rfl rfl rfl rfl ?_
                      refine hp_s (pc' := 86) (st' := [.int x, .ref 97, .ref 66]) rfl rfl rfl ?_
                      refine hp_ld (t := 100) (v := (rI p 97 x.toInt.toNat)) rfl (.inl rfl) rfl rfl rfl ?_
                      intro (g7a : 0 ≤ x.toInt) (g7b : x.toInt < 6)
                      refine hp_cv (r := 66) (o := 12) (kd := 1) (as := [.int (rI p 97 x.toInt.toNat)]) (rest := []) (pc' := 90) rfl rfl rfl rfl rfl rfl rfl rfl rfl (fun d9 => ?_)
                      refine s_kindOfM (xi := (rI p 97 x.toInt.toNat).toInt) rfl ?_
                      intro h34 h35
                      refine hp_id (st := [.int (((rI p 95 ((rI p 97 x.toInt.toNat).toInt).toNat)))]) ?_
                      refine hp_go (pc' := 95) rfl rfl rfl ?_
                      refine hp_ri rfl rfl ?_
                      first | (exact k0 (by first | assumption | (unfold hUn; omega) | omega)) | (exact k1 (by first | assumption | (unfold hUn; omega) | omega) (by first | assumption | (unfold hUn; omega) | omega) (by first | assumption | (unfold hUn; omega) | omega) (by first | assumption | (unfold hUn; omega) | omega) (by first | assumption | (unfold hUn; omega) | omega)) | (exact k2 (by first | assumption | (unfold hUn; omega) | omega) (by first | assumption | (unfold hUn; omega) | omega) (by first | assumption | (unfold hUn; omega) | omega) (by first | assumption | (unfold hUn; omega) | omega) (by first | assumption | (unfold hUn; omega) | omega)) | (exact k3 (by first | assumption | (unfold hUn; omega) | omega) (by first | assumption | (unfold hUn; omega) | omega) (by first | assumption | (unfold hUn; omega) | omega) (by first | assumption | (unfold hUn; omega) | omega) (by first | assumption | (unfold hUn; omega) | omega) (by first | assumption | (unfold hUn; omega) | omega) (by first | assumption | (unfold hUn; omega) | omega)) | (exact k4 (by first | assumption | (unfold hUn; omega) | omega) (by first | assumption | (unfold hUn; omega) | omega) (by first | assumption | (unfold hUn; omega) | omega) (by first | assumption | (unfold hUn; omega) | omega) (by first | assumption | (unfold hUn; omega) | omega) (by first | assumption | (unfold hUn; omega) | omega) (by first | assumption | (unfold hUn; omega) | omega)) | (exfalso; omega)
                  ·
                    refine hp_s (pc' := 64) (st' := [.int 0]) rfl rfl rfl ?_
                    refine hp_go (pc' := 75) rfl rfl rfl ?_
                    refine hp_s (pc' := 76) (st' := [.int 0]) rfl rfl rfl ?_
                    refine hp_s (pc' := 77) (st' := [.int y, .int 0]) rfl rfl rfl ?_
                    refine hp_ic (pc' := 80) (t := 93) (a := 0) (b := y.toInt) rfl rfl rfl (by decide) rfl (fun (h36 : 0 ≠ y.toInt) => ?_) (fun (h37 : ¬ (0 ≠ y.toInt)) => ?_)
                    ·
                      refine hp_s (pc' := 95) (st' := [.int (-12)]) rfl rfl rfl ?_
                      refine hp_ri rfl rfl ?_
                      first | (exact k2 (by first | assumption | (unfold hUn; omega) | omega) (by first | assumption | (unfold hUn; omega) | omega) (by first | assumption | (unfold hUn; omega) | omega) (by first | assumption | (unfold hUn; omega) | omega) (by first | assumption | (unfold hUn; omega) | omega)) | (exact k3 (by first | assumption | (unfold hUn; omega) | omega) (by first | assumption | (unfold hUn; omega) | omega) (by first | assumption | (unfold hUn; omega) | omega) (by first | assumption | (unfold hUn; omega) | omega) (by first | assumption | (unfold hUn; omega) | omega) (by first | assumption | (unfold hUn; omega) | omega) (by first | assumption | (unfold hUn; omega) | omega)) | (exact k4 (by first | assumption | (unfold hUn; omega) | omega) (by first | assumption | (unfold hUn; omega) | omega) (by first | assumption | (unfold hUn; omega) | omega) (by first | assumption | (unfold hUn; omega) | omega) (by first | assumption | (unfold hUn; omega) | omega) (by first | assumption | (unfold hUn; omega) | omega) (by first | assumption | (unfold hUn; omega) | omega)) | (exfalso; omega)
                    ·
                      refine hp_s (pc' := 81) (st' := [.ref 66]) rfl rfl rfl ?_
                      refine hp_s (pc' := 82) (st' := [.ref 66, .ref 66]) rfl rfl rfl ?_
                      refine hp_getr (k := 50) (w := .ref 97) (pc' := 85) rfl rfl rfl rfl rfl ?_
                      refine hp_s (pc' := 86) (st' := [.int x, .ref 97, .ref 66]) rfl rfl rfl ?_
                      refine hp_ld (t := 100) (v := (rI p 97 x.toInt.toNat)) rfl (.inl rfl) rfl rfl rfl ?_
                      intro (g8a : 0 ≤ x.toInt) (g8b : x.toInt < 6)
                      refine hp_cv (r := 66) (o := 12) (kd := 1) (as := [.int (rI p 97 x.toInt.toNat)]) (rest := []) (pc' := 90) rfl rfl rfl rfl rfl rfl rfl rfl rfl (fun d10 => ?_)
                      refine s_kindOfM (xi := (rI p 97 x.toInt.toNat).toInt) rfl ?_
                      intro h38 h39
                      refine hp_id (st := [.int (((rI p 95 ((rI p 97 x.toInt.toNat).toInt).toNat)))]) ?_
                      refine hp_go (pc' := 95) rfl rfl rfl ?_
                      refine hp_ri rfl rfl ?_
                      first | (exact k0 (by first | assumption | (unfold hUn; omega) | omega)) | (exact k1 (by first | assumption | (unfold hUn; omega) | omega) (by first | assumption | (unfold hUn; omega) | omega) (by first | assumption | (unfold hUn; omega) | omega) (by first | assumption | (unfold hUn; omega) | omega) (by first | assumption | (unfold hUn; omega) | omega)) | (exact k2 (by first | assumption | (unfold hUn; omega) | omega) (by first | assumption | (unfold hUn; omega) | omega) (by first | assumption | (unfold hUn; omega) | omega) (by first | assumption | (unfold hUn; omega) | omega) (by first | assumption | (unfold hUn; omega) | omega)) | (exact k3 (by first | assumption | (unfold hUn; omega) | omega) (by first | assumption | (unfold hUn; omega) | omega) (by first | assumption | (unfold hUn; omega) | omega) (by first | assumption | (unfold hUn; omega) | omega) (by first | assumption | (unfold hUn; omega) | omega) (by first | assumption | (unfold hUn; omega) | omega) (by first | assumption | (unfold hUn; omega) | omega)) | (exact k4 (by first | assumption | (unfold hUn; omega) | omega) (by first | assumption | (unfold hUn; omega) | omega) (by first | assumption | (unfold hUn; omega) | omega) (by first | assumption | (unfold hUn; omega) | omega) (by first | assumption | (unfold hUn; omega) | omega) (by first | assumption | (unfold hUn; omega) | omega) (by first | assumption | (unfold hUn; omega) | omega)) | (exfalso; omega)
              ·
                intro h40
                refine hp_id (st := [.int 1]) ?_
                refine hp_s (pc' := 72) (ls' := [(3, .int 1), (0, .ref 66), (1, .int x), (2, .int y)]) (st' := []) rfl rfl rfl ?_
                refine hp_go (pc' := 58) rfl rfl rfl ?_
                refine hp_s (pc' := 59) (st' := [.int 1]) rfl rfl rfl ?_
                refine hp_s (pc' := 60) (st' := [.int y, .int 1]) rfl rfl rfl ?_
                refine hp_ic (pc' := 63) (t := 75) (a := 1) (b := y.toInt) rfl rfl rfl (by decide) rfl (fun (h41 : 1 = y.toInt) => ?_) (fun (h42 : ¬ (1 = y.toInt)) => ?_)
                ·
                  refine hp_s (pc' := 76) (st' := [.int 1]) rfl rfl rfl ?_
                  refine hp_s (pc' := 77) (st' := [.int y, .int 1]) rfl rfl rfl ?_
                  refine hp_ic (pc' := 80) (t := 93) (a := 1) (b := y.toInt) rfl rfl rfl (by decide) rfl (fun (h43 : 1 ≠ y.toInt) => ?_) (fun (h44 : ¬ (1 ≠ y.toInt)) => ?_)
                  ·
                    refine hp_s (pc' := 95) (st' := [.int (-12)]) rfl rfl rfl ?_
                    refine hp_ri rfl rfl ?_
                    first | (exact k2 (by first | assumption | (unfold hUn; omega) | omega) (by first | assumption | (unfold hUn; omega) | omega) (by first | assumption | (unfold hUn; omega) | omega) (by first | assumption | (unfold hUn; omega) | omega) (by first | assumption | (unfold hUn; omega) | omega)) | (exact k3 (by first | assumption | (unfold hUn; omega) | omega) (by first | assumption | (unfold hUn; omega) | omega) (by first | assumption | (unfold hUn; omega) | omega) (by first | assumption | (unfold hUn; omega) | omega) (by first | assumption | (unfold hUn; omega) | omega) (by first | assumption | (unfold hUn; omega) | omega) (by first | assumption | (unfold hUn; omega) | omega)) | (exact k4 (by first | assumption | (unfold hUn; omega) | omega) (by first | assumption | (unfold hUn; omega) | omega) (by first | assumption | (unfold hUn; omega) | omega) (by first | assumption | (unfold hUn; omega) | omega) (by first | assumption | (unfold hUn; omega) | omega) (by first | assumption | (unfold hUn; omega) | omega) (by first | assumption | (unfold hUn; omega) | omega)) | (exfalso; omega)
                  ·
                    refine hp_s (pc' := 81) (st' := [.ref 66]) rfl rfl rfl ?_
                    refine hp_s (pc' := 82) (st' := [.ref 66, .ref 66]) rfl rfl rfl ?_
                    refine hp_getr (k := 50) (w := .ref 97) (pc' := 85) rfl rfl rfl rfl rfl ?_
                    refine hp_s (pc' := 86) (st' := [.int x, .ref 97, .ref 66]) rfl rfl rfl ?_
                    refine hp_ld (t := 100) (v := (rI p 97 x.toInt.toNat)) rfl (.inl rfl) rfl rfl rfl ?_
                    intro (g9a : 0 ≤ x.toInt) (g9b : x.toInt < 6)
                    refine hp_cv (r := 66) (o := 12) (kd := 1) (as := [.int (rI p 97 x.toInt.toNat)]) (rest := []) (pc' := 90) rfl rfl rfl rfl rfl rfl rfl rfl rfl (fun d11 => ?_)
                    refine s_kindOfM (xi := (rI p 97 x.toInt.toNat).toInt) rfl ?_
                    intro h45 h46
                    refine hp_id (st := [.int (((rI p 95 ((rI p 97 x.toInt.toNat).toInt).toNat)))]) ?_
                    refine hp_go (pc' := 95) rfl rfl rfl ?_
                    refine hp_ri rfl rfl ?_
                    first | (exact k0 (by first | assumption | (unfold hUn; omega) | omega)) | (exact k1 (by first | assumption | (unfold hUn; omega) | omega) (by first | assumption | (unfold hUn; omega) | omega) (by first | assumption | (unfold hUn; omega) | omega) (by first | assumption | (unfold hUn; omega) | omega) (by first | assumption | (unfold hUn; omega) | omega)) | (exact k2 (by first | assumption | (unfold hUn; omega) | omega) (by first | assumption | (unfold hUn; omega) | omega) (by first | assumption | (unfold hUn; omega) | omega) (by first | assumption | (unfold hUn; omega) | omega) (by first | assumption | (unfold hUn; omega) | omega)) | (exact k3 (by first | assumption | (unfold hUn; omega) | omega) (by first | assumption | (unfold hUn; omega) | omega) (by first | assumption | (unfold hUn; omega) | omega) (by first | assumption | (unfold hUn; omega) | omega) (by first | assumption | (unfold hUn; omega) | omega) (by first | assumption | (unfold hUn; omega) | omega) (by first | assumption | (unfold hUn; omega) | omega)) | (exact k4 (by first | assumption | (unfold hUn; omega) | omega) (by first | assumption | (unfold hUn; omega) | omega) (by first | assumption | (unfold hUn; omega) | omega) (by first | assumption | (unfold hUn; omega) | omega) (by first | assumption | (unfold hUn; omega) | omega) (by first | assumption | (unfold hUn; omega) | omega) (by first | assumption | (unfold hUn; omega) | omega)) | (exfalso; omega)
                ·
                  refine hp_s (pc' := 64) (st' := [.int 1]) rfl rfl rfl ?_
                  refine hp_go (pc' := 67) rfl rfl rfl ?_
                  refine hp_s (pc' := 68) (st' := [.int 1]) rfl rfl rfl ?_
                  refine hp_cs (kd := 0) (as := [.int 1]) (rest := []) (pc' := 71) rfl rfl rfl rfl rfl rfl rfl (fun d12 => ?_)
                  refine s_above1 ?_
                  refine hp_id (st := [.int 0]) ?_
                  refine hp_s (pc' := 72) (ls' := [(3, .int 0), (0, .ref 66), (1, .int x), (2, .int y)]) (st' := []) rfl rfl rfl ?_
                  refine hp_go (pc' := 58) rfl rfl rfl ?_
                  refine hp_s (pc' := 59) (st' := [.int 0]) rfl rfl rfl ?_
                  refine hp_s (pc' := 60) (st' := [.int y, .int 0]) rfl rfl rfl ?_
                  refine hp_ic (pc' := 63) (t := 75) (a := 0) (b := y.toInt) rfl rfl rfl (by decide) rfl (fun (h47 : 0 = y.toInt) => ?_) (fun (h48 : ¬ (0 = y.toInt)) => ?_)
                  ·
                    refine hp_s (pc' := 76) (st' := [.int 0]) rfl rfl rfl ?_
                    refine hp_s (pc' := 77) (st' := [.int y, .int 0]) rfl rfl rfl ?_
                    refine hp_ic (pc' := 80) (t := 93) (a := 0) (b := y.toInt) rfl rfl rfl (by decide) rfl (fun (h49 : 0 ≠ y.toInt) => ?_) (fun (h50 : ¬ (0 ≠ y.toInt)) => ?_)
                    ·
                      refine hp_s (pc' := 95) (st' := [.int (-12)]) rfl rfl rfl ?_
                      refine hp_ri rfl rfl ?_
                      first | (exact k2 (by first | assumption | (unfold hUn; omega) | omega) (by first | assumption | (unfold hUn; omega) | omega) (by first | assumption | (unfold hUn; omega) | omega) (by first | assumption | (unfold hUn; omega) | omega) (by first | assumption | (unfold hUn; omega) | omega)) | (exact k3 (by first | assumption | (unfold hUn; omega) | omega) (by first | assumption | (unfold hUn; omega) | omega) (by first | assumption | (unfold hUn; omega) | omega) (by first | assumption | (unfold hUn; omega) | omega) (by first | assumption | (unfold hUn; omega) | omega) (by first | assumption | (unfold hUn; omega) | omega) (by first | assumption | (unfold hUn; omega) | omega)) | (exact k4 (by first | assumption | (unfold hUn; omega) | omega) (by first | assumption | (unfold hUn; omega) | omega) (by first | assumption | (unfold hUn; omega) | omega) (by first | assumption | (unfold hUn; omega) | omega) (by first | assumption | (unfold hUn; omega) | omega) (by first | assumption | (unfold hUn; omega) | omega) (by first | assumption | (unfold hUn; omega) | omega)) | (exfalso; omega)
                    ·
                      refine hp_s (pc' := 81) (st' := [.ref 66]) rfl rfl rfl ?_
                      refine hp_s (pc' := 82) (st' := [.ref 66, .ref 66]) rfl rfl rfl ?_
                      refine hp_getr (k := 50) (w := .ref 97) (pc' := 85) rfl rfl rfl rfl rfl ?_
                      refine hp_s (pc' := 86) (st' := [.int x, .ref 97, .ref 66]) rfl rfl rfl ?_
                      refine hp_ld (t := 100) (v := (rI p 97 x.toInt.toNat)) rfl (.inl rfl) rfl rfl rfl ?_
                      intro (g10a : 0 ≤ x.toInt) (g10b : x.toInt < 6)
                      refine hp_cv (r := 66) (o := 12) (kd := 1) (as := [.int (rI p 97 x.toInt.toNat)]) (rest := []) (pc' := 90) rfl rfl rfl rfl rfl rfl rfl rfl rfl (fun d13 => ?_)
                      refine s_kindOfM (xi := (rI p 97 x.toInt.toNat).toInt) rfl ?_
                      intro h51 h52
                      refine hp_id (st := [.int (((rI p 95 ((rI p 97 x.toInt.toNat).toInt).toNat)))]) ?_
                      refine hp_go (pc' := 95) rfl rfl rfl ?_
                      refine hp_ri rfl rfl ?_
                      first | (exact k0 (by first | assumption | (unfold hUn; omega) | omega)) | (exact k1 (by first | assumption | (unfold hUn; omega) | omega) (by first | assumption | (unfold hUn; omega) | omega) (by first | assumption | (unfold hUn; omega) | omega) (by first | assumption | (unfold hUn; omega) | omega) (by first | assumption | (unfold hUn; omega) | omega)) | (exact k2 (by first | assumption | (unfold hUn; omega) | omega) (by first | assumption | (unfold hUn; omega) | omega) (by first | assumption | (unfold hUn; omega) | omega) (by first | assumption | (unfold hUn; omega) | omega) (by first | assumption | (unfold hUn; omega) | omega)) | (exact k3 (by first | assumption | (unfold hUn; omega) | omega) (by first | assumption | (unfold hUn; omega) | omega) (by first | assumption | (unfold hUn; omega) | omega) (by first | assumption | (unfold hUn; omega) | omega) (by first | assumption | (unfold hUn; omega) | omega) (by first | assumption | (unfold hUn; omega) | omega) (by first | assumption | (unfold hUn; omega) | omega)) | (exact k4 (by first | assumption | (unfold hUn; omega) | omega) (by first | assumption | (unfold hUn; omega) | omega) (by first | assumption | (unfold hUn; omega) | omega) (by first | assumption | (unfold hUn; omega) | omega) (by first | assumption | (unfold hUn; omega) | omega) (by first | assumption | (unfold hUn; omega) | omega) (by first | assumption | (unfold hUn; omega) | omega)) | (exfalso; omega)
                  ·
                    refine hp_s (pc' := 64) (st' := [.int 0]) rfl rfl rfl ?_
                    refine hp_go (pc' := 75) rfl rfl rfl ?_
                    refine hp_s (pc' := 76) (st' := [.int 0]) rfl rfl rfl ?_
                    refine hp_s (pc' := 77) (st' := [.int y, .int 0]) rfl rfl rfl ?_
                    refine hp_ic (pc' := 80) (t := 93) (a := 0) (b := y.toInt) rfl rfl rfl (by decide) rfl (fun (h53 : 0 ≠ y.toInt) => ?_) (fun (h54 : ¬ (0 ≠ y.toInt)) => ?_)
                    ·
                      refine hp_s (pc' := 95) (st' := [.int (-12)]) rfl rfl rfl ?_
                      refine hp_ri rfl rfl ?_
                      first | (exact k2 (by first | assumption | (unfold hUn; omega) | omega) (by first | assumption | (unfold hUn; omega) | omega) (by first | assumption | (unfold hUn; omega) | omega) (by first | assumption | (unfold hUn; omega) | omega) (by first | assumption | (unfold hUn; omega) | omega)) | (exact k3 (by first | assumption | (unfold hUn; omega) | omega) (by first | assumption | (unfold hUn; omega) | omega) (by first | assumption | (unfold hUn; omega) | omega) (by first | assumption | (unfold hUn; omega) | omega) (by first | assumption | (unfold hUn; omega) | omega) (by first | assumption | (unfold hUn; omega) | omega) (by first | assumption | (unfold hUn; omega) | omega)) | (exact k4 (by first | assumption | (unfold hUn; omega) | omega) (by first | assumption | (unfold hUn; omega) | omega) (by first | assumption | (unfold hUn; omega) | omega) (by first | assumption | (unfold hUn; omega) | omega) (by first | assumption | (unfold hUn; omega) | omega) (by first | assumption | (unfold hUn; omega) | omega) (by first | assumption | (unfold hUn; omega) | omega)) | (exfalso; omega)
                    ·
                      refine hp_s (pc' := 81) (st' := [.ref 66]) rfl rfl rfl ?_
                      refine hp_s (pc' := 82) (st' := [.ref 66, .ref 66]) rfl rfl rfl ?_
                      refine hp_getr (k := 50) (w := .ref 97) (pc' := 85) rfl rfl rfl rfl rfl ?_
                      refine hp_s (pc' := 86) (st' := [.int x, .ref 97, .ref 66]) rfl rfl rfl ?_
                      refine hp_ld (t := 100) (v := (rI p 97 x.toInt.toNat)) rfl (.inl rfl) rfl rfl rfl ?_
                      intro (g11a : 0 ≤ x.toInt) (g11b : x.toInt < 6)
                      refine hp_cv (r := 66) (o := 12) (kd := 1) (as := [.int (rI p 97 x.toInt.toNat)]) (rest := []) (pc' := 90) rfl rfl rfl rfl rfl rfl rfl rfl rfl (fun d14 => ?_)
                      refine s_kindOfM (xi := (rI p 97 x.toInt.toNat).toInt) rfl ?_
                      intro h55 h56
                      refine hp_id (st := [.int (((rI p 95 ((rI p 97 x.toInt.toNat).toInt).toNat)))]) ?_
                      refine hp_go (pc' := 95) rfl rfl rfl ?_
                      refine hp_ri rfl rfl ?_
                      first | (exact k0 (by first | assumption | (unfold hUn; omega) | omega)) | (exact k1 (by first | assumption | (unfold hUn; omega) | omega) (by first | assumption | (unfold hUn; omega) | omega) (by first | assumption | (unfold hUn; omega) | omega) (by first | assumption | (unfold hUn; omega) | omega) (by first | assumption | (unfold hUn; omega) | omega)) | (exact k2 (by first | assumption | (unfold hUn; omega) | omega) (by first | assumption | (unfold hUn; omega) | omega) (by first | assumption | (unfold hUn; omega) | omega) (by first | assumption | (unfold hUn; omega) | omega) (by first | assumption | (unfold hUn; omega) | omega)) | (exact k3 (by first | assumption | (unfold hUn; omega) | omega) (by first | assumption | (unfold hUn; omega) | omega) (by first | assumption | (unfold hUn; omega) | omega) (by first | assumption | (unfold hUn; omega) | omega) (by first | assumption | (unfold hUn; omega) | omega) (by first | assumption | (unfold hUn; omega) | omega) (by first | assumption | (unfold hUn; omega) | omega)) | (exact k4 (by first | assumption | (unfold hUn; omega) | omega) (by first | assumption | (unfold hUn; omega) | omega) (by first | assumption | (unfold hUn; omega) | omega) (by first | assumption | (unfold hUn; omega) | omega) (by first | assumption | (unfold hUn; omega) | omega) (by first | assumption | (unfold hUn; omega) | omega) (by first | assumption | (unfold hUn; omega) | omega)) | (exfalso; omega)
              ·
                intro h57
                refine hp_id (st := [.int 3]) ?_
                refine hp_s (pc' := 72) (ls' := [(3, .int 3), (0, .ref 66), (1, .int x), (2, .int y)]) (st' := []) rfl rfl rfl ?_
                refine hp_go (pc' := 58) rfl rfl rfl ?_
                refine hp_s (pc' := 59) (st' := [.int 3]) rfl rfl rfl ?_
                refine hp_s (pc' := 60) (st' := [.int y, .int 3]) rfl rfl rfl ?_
                refine hp_ic (pc' := 63) (t := 75) (a := 3) (b := y.toInt) rfl rfl rfl (by decide) rfl (fun (h58 : 3 = y.toInt) => ?_) (fun (h59 : ¬ (3 = y.toInt)) => ?_)
                ·
                  refine hp_s (pc' := 76) (st' := [.int 3]) rfl rfl rfl ?_
                  refine hp_s (pc' := 77) (st' := [.int y, .int 3]) rfl rfl rfl ?_
                  refine hp_ic (pc' := 80) (t := 93) (a := 3) (b := y.toInt) rfl rfl rfl (by decide) rfl (fun (h60 : 3 ≠ y.toInt) => ?_) (fun (h61 : ¬ (3 ≠ y.toInt)) => ?_)
                  ·
                    refine hp_s (pc' := 95) (st' := [.int (-12)]) rfl rfl rfl ?_
                    refine hp_ri rfl rfl ?_
                    first | (exact k2 (by first | assumption | (unfold hUn; omega) | omega) (by first | assumption | (unfold hUn; omega) | omega) (by first | assumption | (unfold hUn; omega) | omega) (by first | assumption | (unfold hUn; omega) | omega) (by first | assumption | (unfold hUn; omega) | omega)) | (exact k3 (by first | assumption | (unfold hUn; omega) | omega) (by first | assumption | (unfold hUn; omega) | omega) (by first | assumption | (unfold hUn; omega) | omega) (by first | assumption | (unfold hUn; omega) | omega) (by first | assumption | (unfold hUn; omega) | omega) (by first | assumption | (unfold hUn; omega) | omega) (by first | assumption | (unfold hUn; omega) | omega)) | (exact k4 (by first | assumption | (unfold hUn; omega) | omega) (by first | assumption | (unfold hUn; omega) | omega) (by first | assumption | (unfold hUn; omega) | omega) (by first | assumption | (unfold hUn; omega) | omega) (by first | assumption | (unfold hUn; omega) | omega) (by first | assumption | (unfold hUn; omega) | omega) (by first | assumption | (unfold hUn; omega) | omega)) | (exfalso; omega)
                  ·
                    refine hp_s (pc' := 81) (st' := [.ref 66]) rfl rfl rfl ?_
                    refine hp_s (pc' := 82) (st' := [.ref 66, .ref 66]) rfl rfl rfl ?_
                    refine hp_getr (k := 50) (w := .ref 97) (pc' := 85) rfl rfl rfl rfl rfl ?_
                    refine hp_s (pc' := 86) (st' := [.int x, .ref 97, .ref 66]) rfl rfl rfl ?_
                    refine hp_ld (t := 100) (v := (rI p 97 x.toInt.toNat)) rfl (.inl rfl) rfl rfl rfl ?_
                    intro (g12a : 0 ≤ x.toInt) (g12b : x.toInt < 6)
                    refine hp_cv (r := 66) (o := 12) (kd := 1) (as := [.int (rI p 97 x.toInt.toNat)]) (rest := []) (pc' := 90) rfl rfl rfl rfl rfl rfl rfl rfl rfl (fun d15 => ?_)
                    refine s_kindOfM (xi := (rI p 97 x.toInt.toNat).toInt) rfl ?_
                    intro h62 h63
                    refine hp_id (st := [.int (((rI p 95 ((rI p 97 x.toInt.toNat).toInt).toNat)))]) ?_
                    refine hp_go (pc' := 95) rfl rfl rfl ?_
                    refine hp_ri rfl rfl ?_
                    first | (exact k0 (by first | assumption | (unfold hUn; omega) | omega)) | (exact k1 (by first | assumption | (unfold hUn; omega) | omega) (by first | assumption | (unfold hUn; omega) | omega) (by first | assumption | (unfold hUn; omega) | omega) (by first | assumption | (unfold hUn; omega) | omega) (by first | assumption | (unfold hUn; omega) | omega)) | (exact k2 (by first | assumption | (unfold hUn; omega) | omega) (by first | assumption | (unfold hUn; omega) | omega) (by first | assumption | (unfold hUn; omega) | omega) (by first | assumption | (unfold hUn; omega) | omega) (by first | assumption | (unfold hUn; omega) | omega)) | (exact k3 (by first | assumption | (unfold hUn; omega) | omega) (by first | assumption | (unfold hUn; omega) | omega) (by first | assumption | (unfold hUn; omega) | omega) (by first | assumption | (unfold hUn; omega) | omega) (by first | assumption | (unfold hUn; omega) | omega) (by first | assumption | (unfold hUn; omega) | omega) (by first | assumption | (unfold hUn; omega) | omega)) | (exact k4 (by first | assumption | (unfold hUn; omega) | omega) (by first | assumption | (unfold hUn; omega) | omega) (by first | assumption | (unfold hUn; omega) | omega) (by first | assumption | (unfold hUn; omega) | omega) (by first | assumption | (unfold hUn; omega) | omega) (by first | assumption | (unfold hUn; omega) | omega) (by first | assumption | (unfold hUn; omega) | omega)) | (exfalso; omega)
                ·
                  refine hp_s (pc' := 64) (st' := [.int 3]) rfl rfl rfl ?_
                  refine hp_go (pc' := 67) rfl rfl rfl ?_
                  refine hp_s (pc' := 68) (st' := [.int 3]) rfl rfl rfl ?_
                  refine hp_cs (kd := 0) (as := [.int 3]) (rest := []) (pc' := 71) rfl rfl rfl rfl rfl rfl rfl (fun d16 => ?_)
                  refine s_above3 ?_
                  refine hp_id (st := [.int 2]) ?_
                  refine hp_s (pc' := 72) (ls' := [(3, .int 2), (0, .ref 66), (1, .int x), (2, .int y)]) (st' := []) rfl rfl rfl ?_
                  refine hp_go (pc' := 58) rfl rfl rfl ?_
                  refine hp_s (pc' := 59) (st' := [.int 2]) rfl rfl rfl ?_
                  refine hp_s (pc' := 60) (st' := [.int y, .int 2]) rfl rfl rfl ?_
                  refine hp_ic (pc' := 63) (t := 75) (a := 2) (b := y.toInt) rfl rfl rfl (by decide) rfl (fun (h64 : 2 = y.toInt) => ?_) (fun (h65 : ¬ (2 = y.toInt)) => ?_)
                  ·
                    refine hp_s (pc' := 76) (st' := [.int 2]) rfl rfl rfl ?_
                    refine hp_s (pc' := 77) (st' := [.int y, .int 2]) rfl rfl rfl ?_
                    refine hp_ic (pc' := 80) (t := 93) (a := 2) (b := y.toInt) rfl rfl rfl (by decide) rfl (fun (h66 : 2 ≠ y.toInt) => ?_) (fun (h67 : ¬ (2 ≠ y.toInt)) => ?_)
                    ·
                      refine hp_s (pc' := 95) (st' := [.int (-12)]) rfl rfl rfl ?_
                      refine hp_ri rfl rfl ?_
                      first | (exact k2 (by first | assumption | (unfold hUn; omega) | omega) (by first | assumption | (unfold hUn; omega) | omega) (by first | assumption | (unfold hUn; omega) | omega) (by first | assumption | (unfold hUn; omega) | omega) (by first | assumption | (unfold hUn; omega) | omega)) | (exact k3 (by first | assumption | (unfold hUn; omega) | omega) (by first | assumption | (unfold hUn; omega) | omega) (by first | assumption | (unfold hUn; omega) | omega) (by first | assumption | (unfold hUn; omega) | omega) (by first | assumption | (unfold hUn; omega) | omega) (by first | assumption | (unfold hUn; omega) | omega) (by first | assumption | (unfold hUn; omega) | omega)) | (exact k4 (by first | assumption | (unfold hUn; omega) | omega) (by first | assumption | (unfold hUn; omega) | omega) (by first | assumption | (unfold hUn; omega) | omega) (by first | assumption | (unfold hUn; omega) | omega) (by first | assumption | (unfold hUn; omega) | omega) (by first | assumption | (unfold hUn; omega) | omega) (by first | assumption | (unfold hUn; omega) | omega)) | (exfalso; omega)
                    ·
                      refine hp_s (pc' := 81) (st' := [.ref 66]) rfl rfl rfl ?_
                      refine hp_s (pc' := 82) (st' := [.ref 66, .ref 66]) rfl rfl rfl ?_
                      refine hp_getr (k := 50) (w := .ref 97) (pc' := 85) rfl rfl rfl rfl rfl ?_
                      refine hp_s (pc' := 86) (st' := [.int x, .ref 97, .ref 66]) rfl rfl rfl ?_
                      refine hp_ld (t := 100) (v := (rI p 97 x.toInt.toNat)) rfl (.inl rfl) rfl rfl rfl ?_
                      intro (g13a : 0 ≤ x.toInt) (g13b : x.toInt < 6)
                      refine hp_cv (r := 66) (o := 12) (kd := 1) (as := [.int (rI p 97 x.toInt.toNat)]) (rest := []) (pc' := 90) rfl rfl rfl rfl rfl rfl rfl rfl rfl (fun d17 => ?_)
                      refine s_kindOfM (xi := (rI p 97 x.toInt.toNat).toInt) rfl ?_
                      intro h68 h69
                      refine hp_id (st := [.int (((rI p 95 ((rI p 97 x.toInt.toNat).toInt).toNat)))]) ?_
                      refine hp_go (pc' := 95) rfl rfl rfl ?_
                      refine hp_ri rfl rfl ?_
                      first | (exact k0 (by first | assumption | (unfold hUn; omega) | omega)) | (exact k1 (by first | assumption | (unfold hUn; omega) | omega) (by first | assumption | (unfold hUn; omega) | omega) (by first | assumption | (unfold hUn; omega) | omega) (by first | assumption | (unfold hUn; omega) | omega) (by first | assumption | (unfold hUn; omega) | omega)) | (exact k2 (by first | assumption | (unfold hUn; omega) | omega) (by first | assumption | (unfold hUn; omega) | omega) (by first | assumption | (unfold hUn; omega) | omega) (by first | assumption | (unfold hUn; omega) | omega) (by first | assumption | (unfold hUn; omega) | omega)) | (exact k3 (by first | assumption | (unfold hUn; omega) | omega) (by first | assumption | (unfold hUn; omega) | omega) (by first | assumption | (unfold hUn; omega) | omega) (by first | assumption | (unfold hUn; omega) | omega) (by first | assumption | (unfold hUn; omega) | omega) (by first | assumption | (unfold hUn; omega) | omega) (by first | assumption | (unfold hUn; omega) | omega)) | (exact k4 (by first | assumption | (unfold hUn; omega) | omega) (by first | assumption | (unfold hUn; omega) | omega) (by first | assumption | (unfold hUn; omega) | omega) (by first | assumption | (unfold hUn; omega) | omega) (by first | assumption | (unfold hUn; omega) | omega) (by first | assumption | (unfold hUn; omega) | omega) (by first | assumption | (unfold hUn; omega) | omega)) | (exfalso; omega)
                  ·
                    refine hp_s (pc' := 64) (st' := [.int 2]) rfl rfl rfl ?_
                    refine hp_go (pc' := 67) rfl rfl rfl ?_
                    refine hp_s (pc' := 68) (st' := [.int 2]) rfl rfl rfl ?_
                    refine hp_cs (kd := 0) (as := [.int 2]) (rest := []) (pc' := 71) rfl rfl rfl rfl rfl rfl rfl (fun d18 => ?_)
                    refine s_above2 ?_
                    refine hp_id (st := [.int 0]) ?_
                    refine hp_s (pc' := 72) (ls' := [(3, .int 0), (0, .ref 66), (1, .int x), (2, .int y)]) (st' := []) rfl rfl rfl ?_
                    refine hp_go (pc' := 58) rfl rfl rfl ?_
                    refine hp_s (pc' := 59) (st' := [.int 0]) rfl rfl rfl ?_
                    refine hp_s (pc' := 60) (st' := [.int y, .int 0]) rfl rfl rfl ?_
                    refine hp_ic (pc' := 63) (t := 75) (a := 0) (b := y.toInt) rfl rfl rfl (by decide) rfl (fun (h70 : 0 = y.toInt) => ?_) (fun (h71 : ¬ (0 = y.toInt)) => ?_)
                    ·
                      refine hp_s (pc' := 76) (st' := [.int 0]) rfl rfl rfl ?_
                      refine hp_s (pc' := 77) (st' := [.int y, .int 0]) rfl rfl rfl ?_
                      refine hp_ic (pc' := 80) (t := 93) (a := 0) (b := y.toInt) rfl rfl rfl (by decide) rfl (fun (h72 : 0 ≠ y.toInt) => ?_) (fun (h73 : ¬ (0 ≠ y.toInt)) => ?_)
                      ·
                        refine hp_s (pc' := 95) (st' := [.int (-12)]) rfl rfl rfl ?_
                        refine hp_ri rfl rfl ?_
                        first | (exact k2 (by first | assumption | (unfold hUn; omega) | omega) (by first | assumption | (unfold hUn; omega) | omega) (by first | assumption | (unfold hUn; omega) | omega) (by first | assumption | (unfold hUn; omega) | omega) (by first | assumption | (unfold hUn; omega) | omega)) | (exact k3 (by first | assumption | (unfold hUn; omega) | omega) (by first | assumption | (unfold hUn; omega) | omega) (by first | assumption | (unfold hUn; omega) | omega) (by first | assumption | (unfold hUn; omega) | omega) (by first | assumption | (unfold hUn; omega) | omega) (by first | assumption | (unfold hUn; omega) | omega) (by first | assumption | (unfold hUn; omega) | omega)) | (exact k4 (by first | assumption | (unfold hUn; omega) | omega) (by first | assumption | (unfold hUn; omega) | omega) (by first | assumption | (unfold hUn; omega) | omega) (by first | assumption | (unfold hUn; omega) | omega) (by first | assumption | (unfold hUn; omega) | omega) (by first | assumption | (unfold hUn; omega) | omega) (by first | assumption | (unfold hUn; omega) | omega)) | (exfalso; omega)
                      ·
                        refine hp_s (pc' := 81) (st' := [.ref 66]) rfl rfl rfl ?_
                        refine hp_s (pc' := 82) (st' := [.ref 66, .ref 66]) rfl rfl rfl ?_
                        refine hp_getr (k := 50) (w := .ref 97) (pc' := 85) rfl rfl rfl rfl rfl ?_
                        refine hp_s (pc' := 86) (st' := [.int x, .ref 97, .ref 66]) rfl rfl rfl ?_
                        refine hp_ld (t := 100) (v := (rI p 97 x.toInt.toNat)) rfl (.inl rfl) rfl rfl rfl ?_
                        intro (g14a : 0 ≤ x.toInt) (g14b : x.toInt < 6)
                        refine hp_cv (r := 66) (o := 12) (kd := 1) (as := [.int (rI p 97 x.toInt.toNat)]) (rest := []) (pc' := 90) rfl rfl rfl rfl rfl rfl rfl rfl rfl (fun d19 => ?_)
                        refine s_kindOfM (xi := (rI p 97 x.toInt.toNat).toInt) rfl ?_
                        intro h74 h75
                        refine hp_id (st := [.int (((rI p 95 ((rI p 97 x.toInt.toNat).toInt).toNat)))]) ?_
                        refine hp_go (pc' := 95) rfl rfl rfl ?_
                        refine hp_ri rfl rfl ?_
                        first | (exact k0 (by first | assumption | (unfold hUn; omega) | omega)) | (exact k1 (by first | assumption | (unfold hUn; omega) | omega) (by first | assumption | (unfold hUn; omega) | omega) (by first | assumption | (unfold hUn; omega) | omega) (by first | assumption | (unfold hUn; omega) | omega) (by first | assumption | (unfold hUn; omega) | omega)) | (exact k2 (by first | assumption | (unfold hUn; omega) | omega) (by first | assumption | (unfold hUn; omega) | omega) (by first | assumption | (unfold hUn; omega) | omega) (by first | assumption | (unfold hUn; omega) | omega) (by first | assumption | (unfold hUn; omega) | omega)) | (exact k3 (by first | assumption | (unfold hUn; omega) | omega) (by first | assumption | (unfold hUn; omega) | omega) (by first | assumption | (unfold hUn; omega) | omega) (by first | assumption | (unfold hUn; omega) | omega) (by first | assumption | (unfold hUn; omega) | omega) (by first | assumption | (unfold hUn; omega) | omega) (by first | assumption | (unfold hUn; omega) | omega)) | (exact k4 (by first | assumption | (unfold hUn; omega) | omega) (by first | assumption | (unfold hUn; omega) | omega) (by first | assumption | (unfold hUn; omega) | omega) (by first | assumption | (unfold hUn; omega) | omega) (by first | assumption | (unfold hUn; omega) | omega) (by first | assumption | (unfold hUn; omega) | omega) (by first | assumption | (unfold hUn; omega) | omega)) | (exfalso; omega)
                    ·
                      refine hp_s (pc' := 64) (st' := [.int 0]) rfl rfl rfl ?_
                      refine hp_go (pc' := 75) rfl rfl rfl ?_
                      refine hp_s (pc' := 76) (st' := [.int 0]) rfl rfl rfl ?_
                      refine hp_s (pc' := 77) (st' := [.int y, .int 0]) rfl rfl rfl ?_
                      refine hp_ic (pc' := 80) (t := 93) (a := 0) (b := y.toInt) rfl rfl rfl (by decide) rfl (fun (h76 : 0 ≠ y.toInt) => ?_) (fun (h77 : ¬ (0 ≠ y.toInt)) => ?_)
                      ·
                        refine hp_s (pc' := 95) (st' := [.int (-12)]) rfl rfl rfl ?_
                        refine hp_ri rfl rfl ?_
                        first | (exact k2 (by first | assumption | (unfold hUn; omega) | omega) (by first | assumption | (unfold hUn; omega) | omega) (by first | assumption | (unfold hUn; omega) | omega) (by first | assumption | (unfold hUn; omega) | omega) (by first | assumption | (unfold hUn; omega) | omega)) | (exact k3 (by first | assumption | (unfold hUn; omega) | omega) (by first | assumption | (unfold hUn; omega) | omega) (by first | assumption | (unfold hUn; omega) | omega) (by first | assumption | (unfold hUn; omega) | omega) (by first | assumption | (unfold hUn; omega) | omega) (by first | assumption | (unfold hUn; omega) | omega) (by first | assumption | (unfold hUn; omega) | omega)) | (exact k4 (by first | assumption | (unfold hUn; omega) | omega) (by first | assumption | (unfold hUn; omega) | omega) (by first | assumption | (unfold hUn; omega) | omega) (by first | assumption | (unfold hUn; omega) | omega) (by first | assumption | (unfold hUn; omega) | omega) (by first | assumption | (unfold hUn; omega) | omega) (by first | assumption | (unfold hUn; omega) | omega)) | (exfalso; omega)
                      ·
                        refine hp_s (pc' := 81) (st' := [.ref 66]) rfl rfl rfl ?_
                        refine hp_s (pc' := 82) (st' := [.ref 66, .ref 66]) rfl rfl rfl ?_
                        refine hp_getr (k := 50) (w := .ref 97) (pc' := 85) rfl rfl rfl rfl rfl ?_
                        refine hp_s (pc' := 86) (st' := [.int x, .ref 97, .ref 66]) rfl rfl rfl ?_
                        refine hp_ld (t := 100) (v := (rI p 97 x.toInt.toNat)) rfl (.inl rfl) rfl rfl rfl ?_
                        intro (g15a : 0 ≤ x.toInt) (g15b : x.toInt < 6)
                        refine hp_cv (r := 66) (o := 12) (kd := 1) (as := [.int (rI p 97 x.toInt.toNat)]) (rest := []) (pc' := 90) rfl rfl rfl rfl rfl rfl rfl rfl rfl (fun d20 => ?_)
                        refine s_kindOfM (xi := (rI p 97 x.toInt.toNat).toInt) rfl ?_
                        intro h78 h79
                        refine hp_id (st := [.int (((rI p 95 ((rI p 97 x.toInt.toNat).toInt).toNat)))]) ?_
                        refine hp_go (pc' := 95) rfl rfl rfl ?_
                        refine hp_ri rfl rfl ?_
                        first | (exact k0 (by first | assumption | (unfold hUn; omega) | omega)) | (exact k1 (by first | assumption | (unfold hUn; omega) | omega) (by first | assumption | (unfold hUn; omega) | omega) (by first | assumption | (unfold hUn; omega) | omega) (by first | assumption | (unfold hUn; omega) | omega) (by first | assumption | (unfold hUn; omega) | omega)) | (exact k2 (by first | assumption | (unfold hUn; omega) | omega) (by first | assumption | (unfold hUn; omega) | omega) (by first | assumption | (unfold hUn; omega) | omega) (by first | assumption | (unfold hUn; omega) | omega) (by first | assumption | (unfold hUn; omega) | omega)) | (exact k3 (by first | assumption | (unfold hUn; omega) | omega) (by first | assumption | (unfold hUn; omega) | omega) (by first | assumption | (unfold hUn; omega) | omega) (by first | assumption | (unfold hUn; omega) | omega) (by first | assumption | (unfold hUn; omega) | omega) (by first | assumption | (unfold hUn; omega) | omega) (by first | assumption | (unfold hUn; omega) | omega)) | (exact k4 (by first | assumption | (unfold hUn; omega) | omega) (by first | assumption | (unfold hUn; omega) | omega) (by first | assumption | (unfold hUn; omega) | omega) (by first | assumption | (unfold hUn; omega) | omega) (by first | assumption | (unfold hUn; omega) | omega) (by first | assumption | (unfold hUn; omega) | omega) (by first | assumption | (unfold hUn; omega) | omega)) | (exfalso; omega)
              ·
                intro h80
                refine hp_id (st := [.int 4]) ?_
                refine hp_s (pc' := 72) (ls' := [(3, .int 4), (0, .ref 66), (1, .int x), (2, .int y)]) (st' := []) rfl rfl rfl ?_
                refine hp_go (pc' := 58) rfl rfl rfl ?_
                refine hp_s (pc' := 59) (st' := [.int 4]) rfl rfl rfl ?_
                refine hp_s (pc' := 60) (st' := [.int y, .int 4]) rfl rfl rfl ?_
                refine hp_ic (pc' := 63) (t := 75) (a := 4) (b := y.toInt) rfl rfl rfl (by decide) rfl (fun (h81 : 4 = y.toInt) => ?_) (fun (h82 : ¬ (4 = y.toInt)) => ?_)
                ·
                  refine hp_s (pc' := 76) (st' := [.int 4]) rfl rfl rfl ?_
                  refine hp_s (pc' := 77) (st' := [.int y, .int 4]) rfl rfl rfl ?_
                  refine hp_ic (pc' := 80) (t := 93) (a := 4) (b := y.toInt) rfl rfl rfl (by decide) rfl (fun (h83 : 4 ≠ y.toInt) => ?_) (fun (h84 : ¬ (4 ≠ y.toInt)) => ?_)
                  ·
                    refine hp_s (pc' := 95) (st' := [.int (-12)]) rfl rfl rfl ?_
                    refine hp_ri rfl rfl ?_
                    first | (exact k2 (by first | assumption | (unfold hUn; omega) | omega) (by first | assumption | (unfold hUn; omega) | omega) (by first | assumption | (unfold hUn; omega) | omega) (by first | assumption | (unfold hUn; omega) | omega) (by first | assumption | (unfold hUn; omega) | omega)) | (exact k3 (by first | assumption | (unfold hUn; omega) | omega) (by first | assumption | (unfold hUn; omega) | omega) (by first | assumption | (unfold hUn; omega) | omega) (by first | assumption | (unfold hUn; omega) | omega) (by first | assumption | (unfold hUn; omega) | omega) (by first | assumption | (unfold hUn; omega) | omega) (by first | assumption | (unfold hUn; omega) | omega)) | (exact k4 (by first | assumption | (unfold hUn; omega) | omega) (by first | assumption | (unfold hUn; omega) | omega) (by first | assumption | (unfold hUn; omega) | omega) (by first | assumption | (unfold hUn; omega) | omega) (by first | assumption | (unfold hUn; omega) | omega) (by first | assumption | (unfold hUn; omega) | omega) (by first | assumption | (unfold hUn; omega) | omega)) | (exfalso; omega)
                  ·
                    refine hp_s (pc' := 81) (st' := [.ref 66]) rfl rfl rfl ?_
                    refine hp_s (pc' := 82) (st' := [.ref 66, .ref 66]) rfl rfl rfl ?_
                    refine hp_getr (k := 50) (w := .ref 97) (pc' := 85) rfl rfl rfl rfl rfl ?_
                    refine hp_s (pc' := 86) (st' := [.int x, .ref 97, .ref 66]) rfl rfl rfl ?_
                    refine hp_ld (t := 100) (v := (rI p 97 x.toInt.toNat)) rfl (.inl rfl) rfl rfl rfl ?_
                    intro (g16a : 0 ≤ x.toInt) (g16b : x.toInt < 6)
                    refine hp_cv (r := 66) (o := 12) (kd := 1) (as := [.int (rI p 97 x.toInt.toNat)]) (rest := []) (pc' := 90) rfl rfl rfl rfl rfl rfl rfl rfl rfl (fun d21 => ?_)
                    refine s_kindOfM (xi := (rI p 97 x.toInt.toNat).toInt) rfl ?_
                    intro h85 h86
                    refine hp_id (st := [.int (((rI p 95 ((rI p 97 x.toInt.toNat).toInt).toNat)))]) ?_
                    refine hp_go (pc' := 95) rfl rfl rfl ?_
                    refine hp_ri rfl rfl ?_
                    first | (exact k0 (by first | assumption | (unfold hUn; omega) | omega)) | (exact k1 (by first | assumption | (unfold hUn; omega) | omega) (by first | assumption | (unfold hUn; omega) | omega) (by first | assumption | (unfold hUn; omega) | omega) (by first | assumption | (unfold hUn; omega) | omega) (by first | assumption | (unfold hUn; omega) | omega)) | (exact k2 (by first | assumption | (unfold hUn; omega) | omega) (by first | assumption | (unfold hUn; omega) | omega) (by first | assumption | (unfold hUn; omega) | omega) (by first | assumption | (unfold hUn; omega) | omega) (by first | assumption | (unfold hUn; omega) | omega)) | (exact k3 (by first | assumption | (unfold hUn; omega) | omega) (by first | assumption | (unfold hUn; omega) | omega) (by first | assumption | (unfold hUn; omega) | omega) (by first | assumption | (unfold hUn; omega) | omega) (by first | assumption | (unfold hUn; omega) | omega) (by first | assumption | (unfold hUn; omega) | omega) (by first | assumption | (unfold hUn; omega) | omega)) | (exact k4 (by first | assumption | (unfold hUn; omega) | omega) (by first | assumption | (unfold hUn; omega) | omega) (by first | assumption | (unfold hUn; omega) | omega) (by first | assumption | (unfold hUn; omega) | omega) (by first | assumption | (unfold hUn; omega) | omega) (by first | assumption | (unfold hUn; omega) | omega) (by first | assumption | (unfold hUn; omega) | omega)) | (exfalso; omega)
                ·
                  refine hp_s (pc' := 64) (st' := [.int 4]) rfl rfl rfl ?_
                  refine hp_go (pc' := 67) rfl rfl rfl ?_
                  refine hp_s (pc' := 68) (st' := [.int 4]) rfl rfl rfl ?_
                  refine hp_cs (kd := 0) (as := [.int 4]) (rest := []) (pc' := 71) rfl rfl rfl rfl rfl rfl rfl (fun d22 => ?_)
                  refine s_above4 ?_
                  refine hp_id (st := [.int 1]) ?_
                  refine hp_s (pc' := 72) (ls' := [(3, .int 1), (0, .ref 66), (1, .int x), (2, .int y)]) (st' := []) rfl rfl rfl ?_
                  refine hp_go (pc' := 58) rfl rfl rfl ?_
                  refine hp_s (pc' := 59) (st' := [.int 1]) rfl rfl rfl ?_
                  refine hp_s (pc' := 60) (st' := [.int y, .int 1]) rfl rfl rfl ?_
                  refine hp_ic (pc' := 63) (t := 75) (a := 1) (b := y.toInt) rfl rfl rfl (by decide) rfl (fun (h87 : 1 = y.toInt) => ?_) (fun (h88 : ¬ (1 = y.toInt)) => ?_)
                  ·
                    refine hp_s (pc' := 76) (st' := [.int 1]) rfl rfl rfl ?_
                    refine hp_s (pc' := 77) (st' := [.int y, .int 1]) rfl rfl rfl ?_
                    refine hp_ic (pc' := 80) (t := 93) (a := 1) (b := y.toInt) rfl rfl rfl (by decide) rfl (fun (h89 : 1 ≠ y.toInt) => ?_) (fun (h90 : ¬ (1 ≠ y.toInt)) => ?_)
                    ·
                      refine hp_s (pc' := 95) (st' := [.int (-12)]) rfl rfl rfl ?_
                      refine hp_ri rfl rfl ?_
                      first | (exact k2 (by first | assumption | (unfold hUn; omega) | omega) (by first | assumption | (unfold hUn; omega) | omega) (by first | assumption | (unfold hUn; omega) | omega) (by first | assumption | (unfold hUn; omega) | omega) (by first | assumption | (unfold hUn; omega) | omega)) | (exact k3 (by first | assumption | (unfold hUn; omega) | omega) (by first | assumption | (unfold hUn; omega) | omega) (by first | assumption | (unfold hUn; omega) | omega) (by first | assumption | (unfold hUn; omega) | omega) (by first | assumption | (unfold hUn; omega) | omega) (by first | assumption | (unfold hUn; omega) | omega) (by first | assumption | (unfold hUn; omega) | omega)) | (exact k4 (by first | assumption | (unfold hUn; omega) | omega) (by first | assumption | (unfold hUn; omega) | omega) (by first | assumption | (unfold hUn; omega) | omega) (by first | assumption | (unfold hUn; omega) | omega) (by first | assumption | (unfold hUn; omega) | omega) (by first | assumption | (unfold hUn; omega) | omega) (by first | assumption | (unfold hUn; omega) | omega)) | (exfalso; omega)
                    ·
                      refine hp_s (pc' := 81) (st' := [.ref 66]) rfl rfl rfl ?_
                      refine hp_s (pc' := 82) (st' := [.ref 66, .ref 66]) rfl rfl rfl ?_
                      refine hp_getr (k := 50) (w := .ref 97) (pc' := 85) rfl rfl rfl rfl rfl ?_
                      refine hp_s (pc' := 86) (st' := [.int x, .ref 97, .ref 66]) rfl rfl rfl ?_
                      refine hp_ld (t := 100) (v := (rI p 97 x.toInt.toNat)) rfl (.inl rfl) rfl rfl rfl ?_
                      intro (g17a : 0 ≤ x.toInt) (g17b : x.toInt < 6)
                      refine hp_cv (r := 66) (o := 12) (kd := 1) (as := [.int (rI p 97 x.toInt.toNat)]) (rest := []) (pc' := 90) rfl rfl rfl rfl rfl rfl rfl rfl rfl (fun d23 => ?_)
                      refine s_kindOfM (xi := (rI p 97 x.toInt.toNat).toInt) rfl ?_
                      intro h91 h92
                      refine hp_id (st := [.int (((rI p 95 ((rI p 97 x.toInt.toNat).toInt).toNat)))]) ?_
                      refine hp_go (pc' := 95) rfl rfl rfl ?_
                      refine hp_ri rfl rfl ?_
                      first | (exact k0 (by first | assumption | (unfold hUn; omega) | omega)) | (exact k1 (by first | assumption | (unfold hUn; omega) | omega) (by first | assumption | (unfold hUn; omega) | omega) (by first | assumption | (unfold hUn; omega) | omega) (by first | assumption | (unfold hUn; omega) | omega) (by first | assumption | (unfold hUn; omega) | omega)) | (exact k2 (by first | assumption | (unfold hUn; omega) | omega) (by first | assumption | (unfold hUn; omega) | omega) (by first | assumption | (unfold hUn; omega) | omega) (by first | assumption | (unfold hUn; omega) | omega) (by first | assumption | (unfold hUn; omega) | omega)) | (exact k3 (by first | assumption | (unfold hUn; omega) | omega) (by first | assumption | (unfold hUn; omega) | omega) (by first | assumption | (unfold hUn; omega) | omega) (by first | assumption | (unfold hUn; omega) | omega) (by first | assumption | (unfold hUn; omega) | omega) (by first | assumption | (unfold hUn; omega) | omega) (by first | assumption | (unfold hUn; omega) | omega)) | (exact k4 (by first | assumption | (unfold hUn; omega) | omega) (by first | assumption | (unfold hUn; omega) | omega) (by first | assumption | (unfold hUn; omega) | omega) (by first | assumption | (unfold hUn; omega) | omega) (by first | assumption | (unfold hUn; omega) | omega) (by first | assumption | (unfold hUn; omega) | omega) (by first | assumption | (unfold hUn; omega) | omega)) | (exfalso; omega)
                  ·
                    refine hp_s (pc' := 64) (st' := [.int 1]) rfl rfl rfl ?_
                    refine hp_go (pc' := 67) rfl rfl rfl ?_
                    refine hp_s (pc' := 68) (st' := [.int 1]) rfl rfl rfl ?_
                    refine hp_cs (kd := 0) (as := [.int 1]) (rest := []) (pc' := 71) rfl rfl rfl rfl rfl rfl rfl (fun d24 => ?_)
                    refine s_above1 ?_
                    refine hp_id (st := [.int 0]) ?_
                    refine hp_s (pc' := 72) (ls' := [(3, .int 0), (0, .ref 66), (1, .int x), (2, .int y)]) (st' := []) rfl rfl rfl ?_
                    refine hp_go (pc' := 58) rfl rfl rfl ?_
                    refine hp_s (pc' := 59) (st' := [.int 0]) rfl rfl rfl ?_
                    refine hp_s (pc' := 60) (st' := [.int y, .int 0]) rfl rfl rfl ?_
                    refine hp_ic (pc' := 63) (t := 75) (a := 0) (b := y.toInt) rfl rfl rfl (by decide) rfl (fun (h93 : 0 = y.toInt) => ?_) (fun (h94 : ¬ (0 = y.toInt)) => ?_)
                    ·
                      refine hp_s (pc' := 76) (st' := [.int 0]) rfl rfl rfl ?_
                      refine hp_s (pc' := 77) (st' := [.int y, .int 0]) rfl rfl rfl ?_
                      refine hp_ic (pc' := 80) (t := 93) (a := 0) (b := y.toInt) rfl rfl rfl (by decide) rfl (fun (h95 : 0 ≠ y.toInt) => ?_) (fun (h96 : ¬ (0 ≠ y.toInt)) => ?_)
                      ·
                        refine hp_s (pc' := 95) (st' := [.int (-12)]) rfl rfl rfl ?_
                        refine hp_ri rfl rfl ?_
                        first | (exact k2 (by first | assumption | (unfold hUn; omega) | omega) (by first | assumption | (unfold hUn; omega) | omega) (by first | assumption | (unfold hUn; omega) | omega) (by first | assumption | (unfold hUn; omega) | omega) (by first | assumption | (unfold hUn; omega) | omega)) | (exact k3 (by first | assumption | (unfold hUn; omega) | omega) (by first | assumption | (unfold hUn; omega) | omega) (by first | assumption | (unfold hUn; omega) | omega) (by first | assumption | (unfold hUn; omega) | omega) (by first | assumption | (unfold hUn; omega) | omega) (by first | assumption | (unfold hUn; omega) | omega) (by first | assumption | (unfold hUn; omega) | omega)) | (exact k4 (by first | assumption | (unfold hUn; omega) | omega) (by first | assumption | (unfold hUn; omega) | omega) (by first | assumption | (unfold hUn; omega) | omega) (by first | assumption | (unfold hUn; omega) | omega) (by first | assumption | (unfold hUn; omega) | omega) (by first | assumption | (unfold hUn; omega) | omega) (by first | assumption | (unfold hUn; omega) | omega)) | (exfalso; omega)
                      ·
                        refine hp_s (pc' := 81) (st' := [.ref 66]) rfl rfl rfl ?_
                        refine hp_s (pc' := 82) (st' := [.ref 66, .ref 66]) rfl rfl rfl ?_
                        refine hp_getr (k := 50) (w := .ref 97) (pc' := 85) rfl rfl rfl rfl rfl ?_
                        refine hp_s (pc' := 86) (st' := [.int x, .ref 97, .ref 66]) rfl rfl rfl ?_
                        refine hp_ld (t := 100) (v := (rI p 97 x.toInt.toNat)) rfl (.inl rfl) rfl rfl rfl ?_
                        intro (g18a : 0 ≤ x.toInt) (g18b : x.toInt < 6)
                        refine hp_cv (r := 66) (o := 12) (kd := 1) (as := [.int (rI p 97 x.toInt.toNat)]) (rest := []) (pc' := 90) rfl rfl rfl rfl rfl rfl rfl rfl rfl (fun d25 => ?_)
                        refine s_kindOfM (xi := (rI p 97 x.toInt.toNat).toInt) rfl ?_
                        intro h97 h98
                        refine hp_id (st := [.int (((rI p 95 ((rI p 97 x.toInt.toNat).toInt).toNat)))]) ?_
                        refine hp_go (pc' := 95) rfl rfl rfl ?_
                        refine hp_ri rfl rfl ?_
                        first | (exact k0 (by first | assumption | (unfold hUn; omega) | omega)) | (exact k1 (by first | assumption | (unfold hUn; omega) | omega) (by first | assumption | (unfold hUn; omega) | omega) (by first | assumption | (unfold hUn; omega) | omega) (by first | assumption | (unfold hUn; omega) | omega) (by first | assumption | (unfold hUn; omega) | omega)) | (exact k2 (by first | assumption | (unfold hUn; omega) | omega) (by first | assumption | (unfold hUn; omega) | omega) (by first | assumption | (unfold hUn; omega) | omega) (by first | assumption | (unfold hUn; omega) | omega) (by first | assumption | (unfold hUn; omega) | omega)) | (exact k3 (by first | assumption | (unfold hUn; omega) | omega) (by first | assumption | (unfold hUn; omega) | omega) (by first | assumption | (unfold hUn; omega) | omega) (by first | assumption | (unfold hUn; omega) | omega) (by first | assumption | (unfold hUn; omega) | omega) (by first | assumption | (unfold hUn; omega) | omega) (by first | assumption | (unfold hUn; omega) | omega)) | (exact k4 (by first | assumption | (unfold hUn; omega) | omega) (by first | assumption | (unfold hUn; omega) | omega) (by first | assumption | (unfold hUn; omega) | omega) (by first | assumption | (unfold hUn; omega) | omega) (by first | assumption | (unfold hUn; omega) | omega) (by first | assumption | (unfold hUn; omega) | omega) (by first | assumption | (unfold hUn; omega) | omega)) | (exfalso; omega)
                    ·
                      refine hp_s (pc' := 64) (st' := [.int 0]) rfl rfl rfl ?_
                      refine hp_go (pc' := 75) rfl rfl rfl ?_
                      refine hp_s (pc' := 76) (st' := [.int 0]) rfl rfl rfl ?_
                      refine hp_s (pc' := 77) (st' := [.int y, .int 0]) rfl rfl rfl ?_
                      refine hp_ic (pc' := 80) (t := 93) (a := 0) (b := y.toInt) rfl rfl rfl (by decide) rfl (fun (h99 : 0 ≠ y.toInt) => ?_) (fun (h100 : ¬ (0 ≠ y.toInt)) => ?_)
                      ·
                        refine hp_s (pc' := 95) (st' := [.int (-12)]) rfl rfl rfl ?_
                        refine hp_ri rfl rfl ?_
                        first | (exact k2 (by first | assumption | (unfold hUn; omega) | omega) (by first | assumption | (unfold hUn; omega) | omega) (by first | assumption | (unfold hUn; omega) | omega) (by first | assumption | (unfold hUn; omega) | omega) (by first | assumption | (unfold hUn; omega) | omega)) | (exact k3 (by first | assumption | (unfold hUn; omega) | omega) (by first | assumption | (unfold hUn; omega) | omega) (by first | assumption | (unfold hUn; omega) | omega) (by first | assumption | (unfold hUn; omega) | omega) (by first | assumption | (unfold hUn; omega) | omega) (by first | assumption | (unfold hUn; omega) | omega) (by first | assumption | (unfold hUn; omega) | omega)) | (exact k4 (by first | assumption | (unfold hUn; omega) | omega) (by first | assumption | (unfold hUn; omega) | omega) (by first | assumption | (unfold hUn; omega) | omega) (by first | assumption | (unfold hUn; omega) | omega) (by first | assumption | (unfold hUn; omega) | omega) (by first | assumption | (unfold hUn; omega) | omega) (by first | assumption | (unfold hUn; omega) | omega)) | (exfalso; omega)
                      ·
                        refine hp_s (pc' := 81) (st' := [.ref 66]) rfl rfl rfl ?_
                        refine hp_s (pc' := 82) (st' := [.ref 66, .ref 66]) rfl rfl rfl ?_
                        refine hp_getr (k := 50) (w := .ref 97) (pc' := 85) rfl rfl rfl rfl rfl ?_
                        refine hp_s (pc' := 86) (st' := [.int x, .ref 97, .ref 66]) rfl rfl rfl ?_
                        refine hp_ld (t := 100) (v := (rI p 97 x.toInt.toNat)) rfl (.inl rfl) rfl rfl rfl ?_
                        intro (g19a : 0 ≤ x.toInt) (g19b : x.toInt < 6)
                        refine hp_cv (r := 66) (o := 12) (kd := 1) (as := [.int (rI p 97 x.toInt.toNat)]) (rest := []) (pc' := 90) rfl rfl rfl rfl rfl rfl rfl rfl rfl (fun d26 => ?_)
                        refine s_kindOfM (xi := (rI p 97 x.toInt.toNat).toInt) rfl ?_
                        intro h101 h102
                        refine hp_id (st := [.int (((rI p 95 ((rI p 97 x.toInt.toNat).toInt).toNat)))]) ?_
                        refine hp_go (pc' := 95) rfl rfl rfl ?_
                        refine hp_ri rfl rfl ?_
                        first | (exact k0 (by first | assumption | (unfold hUn; omega) | omega)) | (exact k1 (by first | assumption | (unfold hUn; omega) | omega) (by first | assumption | (unfold hUn; omega) | omega) (by first | assumption | (unfold hUn; omega) | omega) (by first | assumption | (unfold hUn; omega) | omega) (by first | assumption | (unfold hUn; omega) | omega)) | (exact k2 (by first | assumption | (unfold hUn; omega) | omega) (by first | assumption | (unfold hUn; omega) | omega) (by first | assumption | (unfold hUn; omega) | omega) (by first | assumption | (unfold hUn; omega) | omega) (by first | assumption | (unfold hUn; omega) | omega)) | (exact k3 (by first | assumption | (unfold hUn; omega) | omega) (by first | assumption | (unfold hUn; omega) | omega) (by first | assumption | (unfold hUn; omega) | omega) (by first | assumption | (unfold hUn; omega) | omega) (by first | assumption | (unfold hUn; omega) | omega) (by first | assumption | (unfold hUn; omega) | omega) (by first | assumption | (unfold hUn; omega) | omega)) | (exact k4 (by first | assumption | (unfold hUn; omega) | omega) (by first | assumption | (unfold hUn; omega) | omega) (by first | assumption | (unfold hUn; omega) | omega) (by first | assumption | (unfold hUn; omega) | omega) (by first | assumption | (unfold hUn; omega) | omega) (by first | assumption | (unfold hUn; omega) | omega) (by first | assumption | (unfold hUn; omega) | omega)) | (exfalso; omega)
              ·
                intro h103 h104 h105 h106
                refine hp_id (st := [.int 0]) ?_
                refine hp_s (pc' := 72) (ls' := [(3, .int 0), (0, .ref 66), (1, .int x), (2, .int y)]) (st' := []) rfl rfl rfl ?_
                refine hp_go (pc' := 58) rfl rfl rfl ?_
                refine hp_s (pc' := 59) (st' := [.int 0]) rfl rfl rfl ?_
                refine hp_s (pc' := 60) (st' := [.int y, .int 0]) rfl rfl rfl ?_
                refine hp_ic (pc' := 63) (t := 75) (a := 0) (b := y.toInt) rfl rfl rfl (by decide) rfl (fun (h107 : 0 = y.toInt) => ?_) (fun (h108 : ¬ (0 = y.toInt)) => ?_)
                ·
                  refine hp_s (pc' := 76) (st' := [.int 0]) rfl rfl rfl ?_
                  refine hp_s (pc' := 77) (st' := [.int y, .int 0]) rfl rfl rfl ?_
                  refine hp_ic (pc' := 80) (t := 93) (a := 0) (b := y.toInt) rfl rfl rfl (by decide) rfl (fun (h109 : 0 ≠ y.toInt) => ?_) (fun (h110 : ¬ (0 ≠ y.toInt)) => ?_)
                  ·
                    refine hp_s (pc' := 95) (st' := [.int (-12)]) rfl rfl rfl ?_
                    refine hp_ri rfl rfl ?_
                    first | (exact k2 (by first | assumption | (unfold hUn; omega) | omega) (by first | assumption | (unfold hUn; omega) | omega) (by first | assumption | (unfold hUn; omega) | omega) (by first | assumption | (unfold hUn; omega) | omega) (by first | assumption | (unfold hUn; omega) | omega)) | (exact k3 (by first | assumption | (unfold hUn; omega) | omega) (by first | assumption | (unfold hUn; omega) | omega) (by first | assumption | (unfold hUn; omega) | omega) (by first | assumption | (unfold hUn; omega) | omega) (by first | assumption | (unfold hUn; omega) | omega) (by first | assumption | (unfold hUn; omega) | omega) (by first | assumption | (unfold hUn; omega) | omega)) | (exact k4 (by first | assumption | (unfold hUn; omega) | omega) (by first | assumption | (unfold hUn; omega) | omega) (by first | assumption | (unfold hUn; omega) | omega) (by first | assumption | (unfold hUn; omega) | omega) (by first | assumption | (unfold hUn; omega) | omega) (by first | assumption | (unfold hUn; omega) | omega) (by first | assumption | (unfold hUn; omega) | omega)) | (exfalso; omega)
                  ·
                    refine hp_s (pc' := 81) (st' := [.ref 66]) rfl rfl rfl ?_
                    refine hp_s (pc' := 82) (st' := [.ref 66, .ref 66]) rfl rfl rfl ?_
                    refine hp_getr (k := 50) (w := .ref 97) (pc' := 85) rfl rfl rfl rfl rfl ?_
                    refine hp_s (pc' := 86) (st' := [.int x, .ref 97, .ref 66]) rfl rfl rfl ?_
                    refine hp_ld (t := 100) (v := (rI p 97 x.toInt.toNat)) rfl (.inl rfl) rfl rfl rfl ?_
                    intro (g20a : 0 ≤ x.toInt) (g20b : x.toInt < 6)
                    refine hp_cv (r := 66) (o := 12) (kd := 1) (as := [.int (rI p 97 x.toInt.toNat)]) (rest := []) (pc' := 90) rfl rfl rfl rfl rfl rfl rfl rfl rfl (fun d27 => ?_)
                    refine s_kindOfM (xi := (rI p 97 x.toInt.toNat).toInt) rfl ?_
                    intro h111 h112
                    refine hp_id (st := [.int (((rI p 95 ((rI p 97 x.toInt.toNat).toInt).toNat)))]) ?_
                    refine hp_go (pc' := 95) rfl rfl rfl ?_
                    refine hp_ri rfl rfl ?_
                    first | (exact k0 (by first | assumption | (unfold hUn; omega) | omega)) | (exact k1 (by first | assumption | (unfold hUn; omega) | omega) (by first | assumption | (unfold hUn; omega) | omega) (by first | assumption | (unfold hUn; omega) | omega) (by first | assumption | (unfold hUn; omega) | omega) (by first | assumption | (unfold hUn; omega) | omega)) | (exact k2 (by first | assumption | (unfold hUn; omega) | omega) (by first | assumption | (unfold hUn; omega) | omega) (by first | assumption | (unfold hUn; omega) | omega) (by first | assumption | (unfold hUn; omega) | omega) (by first | assumption | (unfold hUn; omega) | omega)) | (exact k3 (by first | assumption | (unfold hUn; omega) | omega) (by first | assumption | (unfold hUn; omega) | omega) (by first | assumption | (unfold hUn; omega) | omega) (by first | assumption | (unfold hUn; omega) | omega) (by first | assumption | (unfold hUn; omega) | omega) (by first | assumption | (unfold hUn; omega) | omega) (by first | assumption | (unfold hUn; omega) | omega)) | (exact k4 (by first | assumption | (unfold hUn; omega) | omega) (by first | assumption | (unfold hUn; omega) | omega) (by first | assumption | (unfold hUn; omega) | omega) (by first | assumption | (unfold hUn; omega) | omega) (by first | assumption | (unfold hUn; omega) | omega) (by first | assumption | (unfold hUn; omega) | omega) (by first | assumption | (unfold hUn; omega) | omega)) | (exfalso; omega)
                ·
                  refine hp_s (pc' := 64) (st' := [.int 0]) rfl rfl rfl ?_
                  refine hp_go (pc' := 75) rfl rfl rfl ?_
                  refine hp_s (pc' := 76) (st' := [.int 0]) rfl rfl rfl ?_
                  refine hp_s (pc' := 77) (st' := [.int y, .int 0]) rfl rfl rfl ?_
                  refine hp_ic (pc' := 80) (t := 93) (a := 0) (b := y.toInt) rfl rfl rfl (by decide) rfl (fun (h113 : 0 ≠ y.toInt) => ?_) (fun (h114 : ¬ (0 ≠ y.toInt)) => ?_)
                  ·
                    refine hp_s (pc' := 95) (st' := [.int (-12)]) rfl rfl rfl ?_
                    refine hp_ri rfl rfl ?_
                    first | (exact k2 (by first | assumption | (unfold hUn; omega) | omega) (by first | assumption | (unfold hUn; omega) | omega) (by first | assumption | (unfold hUn; omega) | omega) (by first | assumption | (unfold hUn; omega) | omega) (by first | assumption | (unfold hUn; omega) | omega)) | (exact k3 (by first | assumption | (unfold hUn; omega) | omega) (by first | assumption | (unfold hUn; omega) | omega) (by first | assumption | (unfold hUn; omega) | omega) (by first | assumption | (unfold hUn; omega) | omega) (by first | assumption | (unfold hUn; omega) | omega) (by first | assumption | (unfold hUn; omega) | omega) (by first | assumption | (unfold hUn; omega) | omega)) | (exact k4 (by first | assumption | (unfold hUn; omega) | omega) (by first | assumption | (unfold hUn; omega) | omega) (by first | assumption | (unfold hUn; omega) | omega) (by first | assumption | (unfold hUn; omega) | omega) (by first | assumption | (unfold hUn; omega) | omega) (by first | assumption | (unfold hUn; omega) | omega) (by first | assumption | (unfold hUn; omega) | omega)) | (exfalso; omega)
                  ·
                    refine hp_s (pc' := 81) (st' := [.ref 66]) rfl rfl rfl ?_
                    refine hp_s (pc' := 82) (st' := [.ref 66, .ref 66]) rfl rfl rfl ?_
                    refine hp_getr (k := 50) (w := .ref 97) (pc' := 85) rfl rfl rfl rfl rfl ?_
                    refine hp_s (pc' := 86) (st' := [.int x, .ref 97, .ref 66]) rfl rfl rfl ?_
                    refine hp_ld (t := 100) (v := (rI p 97 x.toInt.toNat)) rfl (.inl rfl) rfl rfl rfl ?_
                    intro (g21a : 0 ≤ x.toInt) (g21b : x.toInt < 6)
                    refine hp_cv (r := 66) (o := 12) (kd := 1) (as := [.int (rI p 97 x.toInt.toNat)]) (rest := []) (pc' := 90) rfl rfl rfl rfl rfl rfl rfl rfl rfl (fun d28 => ?_)
                    refine s_kindOfM (xi := (rI p 97 x.toInt.toNat).toInt) rfl ?_
                    intro h115 h116
                    refine hp_id (st := [.int (((rI p 95 ((rI p 97 x.toInt.toNat).toInt).toNat)))]) ?_
                    refine hp_go (pc' := 95) rfl rfl rfl ?_
                    refine hp_ri rfl rfl ?_
                    first | (exact k0 (by first | assumption | (unfold hUn; omega) | omega)) | (exact k1 (by first | assumption | (unfold hUn; omega) | omega) (by first | assumption | (unfold hUn; omega) | omega) (by first | assumption | (unfold hUn; omega) | omega) (by first | assumption | (unfold hUn; omega) | omega) (by first | assumption | (unfold hUn; omega) | omega)) | (exact k2 (by first | assumption | (unfold hUn; omega) | omega) (by first | assumption | (unfold hUn; omega) | omega) (by first | assumption | (unfold hUn; omega) | omega) (by first | assumption | (unfold hUn; omega) | omega) (by first | assumption | (unfold hUn; omega) | omega)) | (exact k3 (by first | assumption | (unfold hUn; omega) | omega) (by first | assumption | (unfold hUn; omega) | omega) (by first | assumption | (unfold hUn; omega) | omega) (by first | assumption | (unfold hUn; omega) | omega) (by first | assumption | (unfold hUn; omega) | omega) (by first | assumption | (unfold hUn; omega) | omega) (by first | assumption | (unfold hUn; omega) | omega)) | (exact k4 (by first | assumption | (unfold hUn; omega) | omega) (by first | assumption | (unfold hUn; omega) | omega) (by first | assumption | (unfold hUn; omega) | omega) (by first | assumption | (unfold hUn; omega) | omega) (by first | assumption | (unfold hUn; omega) | omega) (by first | assumption | (unfold hUn; omega) | omega) (by first | assumption | (unfold hUn; omega) | omega)) | (exfalso; omega)
        ·
          refine hp_s (pc' := 46) (st' := [.int (-12)]) rfl rfl rfl ?_
          refine hp_ri rfl rfl ?_
          first | (exact k2 (by first | assumption | (unfold hUn; omega) | omega) (by first | assumption | (unfold hUn; omega) | omega) (by first | assumption | (unfold hUn; omega) | omega) (by first | assumption | (unfold hUn; omega) | omega) (by first | assumption | (unfold hUn; omega) | omega)) | (exact k3 (by first | assumption | (unfold hUn; omega) | omega) (by first | assumption | (unfold hUn; omega) | omega) (by first | assumption | (unfold hUn; omega) | omega) (by first | assumption | (unfold hUn; omega) | omega) (by first | assumption | (unfold hUn; omega) | omega) (by first | assumption | (unfold hUn; omega) | omega) (by first | assumption | (unfold hUn; omega) | omega)) | (exact k4 (by first | assumption | (unfold hUn; omega) | omega) (by first | assumption | (unfold hUn; omega) | omega) (by first | assumption | (unfold hUn; omega) | omega) (by first | assumption | (unfold hUn; omega) | omega) (by first | assumption | (unfold hUn; omega) | omega) (by first | assumption | (unfold hUn; omega) | omega) (by first | assumption | (unfold hUn; omega) | omega)) | (exfalso; omega)
      ·
        refine hp_s (pc' := 32) (st' := [.int (-11)]) rfl rfl rfl ?_
        refine hp_ri rfl rfl ?_
        first | (exact k1 (by first | assumption | (unfold hUn; omega) | omega) (by first | assumption | (unfold hUn; omega) | omega) (by first | assumption | (unfold hUn; omega) | omega) (by first | assumption | (unfold hUn; omega) | omega) (by first | assumption | (unfold hUn; omega) | omega)) | (exact k3 (by first | assumption | (unfold hUn; omega) | omega) (by first | assumption | (unfold hUn; omega) | omega) (by first | assumption | (unfold hUn; omega) | omega) (by first | assumption | (unfold hUn; omega) | omega) (by first | assumption | (unfold hUn; omega) | omega) (by first | assumption | (unfold hUn; omega) | omega) (by first | assumption | (unfold hUn; omega) | omega)) | (exfalso; omega)
    ·
      intro h117
      refine hp_id (st := [.int 0]) ?_
      refine hp_go (pc' := 19) rfl rfl rfl ?_
      refine hp_s (pc' := 20) (st' := [.int (-1)]) rfl rfl rfl ?_
      refine hp_ri rfl rfl ?_
      first | (exact k0 (by first | assumption | (unfold hUn; omega) | omega)) | (exact k3 (by first | assumption | (unfold hUn; omega) | omega) (by first | assumption | (unfold hUn; omega) | omega) (by first | assumption | (unfold hUn; omega) | omega) (by first | assumption | (unfold hUn; omega) | omega) (by first | assumption | (unfold hUn; omega) | omega) (by first | assumption | (unfold hUn; omega) | omega) (by first | assumption | (unfold hUn; omega) | omega)) | (exfalso; omega)
  ·
    intro h118
    refine hp_id (st := [.int 0]) ?_
    refine hp_go (pc' := 19) rfl rfl rfl ?_
    refine hp_s (pc' := 20) (st' := [.int (-1)]) rfl rfl rfl ?_
    refine hp_ri rfl rfl ?_
    first | (exact k0 (by first | assumption | (unfold hUn; omega) | omega)) | (exact k3 (by first | assumption | (unfold hUn; omega) | omega) (by first | assumption | (unfold hUn; omega) | omega) (by first | assumption | (unfold hUn; omega) | omega) (by first | assumption | (unfold hUn; omega) | omega) (by first | assumption | (unfold hUn; omega) | omega) (by first | assumption | (unfold hUn; omega) | omega) (by first | assumption | (unfold hUn; omega) | omega)) | (exfalso; omega)
