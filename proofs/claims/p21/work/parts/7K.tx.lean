/-! contracts of methods, walked -/
/-- one step is told anew -/
theorem hCd_pt {p p2 : xH} {L : Nat} {A B : lE} {c : Int} {u v : Int32} (hw : hW p) (h : hCd p 27 L (A ++ [(c, u)] ++ B)) (hl : L + A.length < 128) (e : p2 = wV p 28 (L + A.length) (.int v)) : hCd p2 27 L (A ++ [(c, v)] ++ B) := by
  intro i x hx
  have r27 : rI p2 27 (L + i) = rI p 27 (L + i) := by rw [e, rI_o (by decide)]
  have r28 : rI p2 28 (L + i) = if L + i = L + A.length then v else rI p 28 (L + i) := by rw [e, rI_w hw hl]
  show (rI p2 27 (L + i)).toInt = x.1 ∧ rI p2 28 (L + i) = x.2
  rw [r27, r28]
  rw [List.append_assoc] at hx h
  by_cases z : i = A.length
  · subst z
    rw [List.getElem?_append_right (Nat.le_refl _), Nat.sub_self] at hx
    have hx : some (c, v) = some x := hx
    cases hx
    have := h A.length (c, u) (by rw [List.getElem?_append_right (Nat.le_refl _), Nat.sub_self]; rfl)
    rw [if_pos rfl]
    exact ⟨this.1, rfl⟩
  · rw [if_neg (by omega)]
    refine h i x ?_
    rw [List.getElem?_append] at hx ⊢
    split at hx
    next hi => rw [if_pos hi]; exact hx
    next hi =>
      rw [if_neg hi]
      obtain ⟨m, hm⟩ : ∃ m, i - A.length = m + 1 := ⟨i - A.length - 1, by omega⟩
      rw [hm] at hx ⊢
      exact hx
theorem XO_pt {k : Int} {p0 p p2 : xH} {a b : Nat} {A B : lE} {c : Int} {u v : Int32} (h : XO k p0 p a (A ++ [(c, u)] ++ B) b) (hw : hW p) (h0 : 0 ≤ (rI p0 26 2).toInt) (hl : (rI p0 26 2).toInt.toNat + A.length < 128) (e : p2 = wV p 28 ((rI p0 26 2).toInt.toNat + A.length) (.int v)) : XO k p0 p2 a (A ++ [(c, v)] ++ B) b := by
  obtain ⟨h1, h2, h3, h4, h5, h6, h7⟩ := h
  have hl1 : (A ++ [(c, v)] ++ B).length = (A ++ [(c, u)] ++ B).length := by simp only [List.length_append, List.length_cons, List.length_nil]
  refine ⟨by rw [e]; exact h1.w rfl, by rw [e, rI_o (by decide)]; exact h2, by rw [hl1, e, rI_o (by decide)]; exact h3, by rw [hl1]; exact h4, h5, fun j hj => ?_, hCd_pt hw h7 hl e⟩
  rw [e, rV_ne (fun z => absurd z (by decide)), rV_ne (fun _ => by omega)]
  exact h6 j hj
theorem X_line {ro : List (List Int32)} {n d : Nat} {p : xH} {Q : Option Value → xH → Prop}  (pre0 : hTp p) (k0 : ∀ x : yN, ∀ b : Nat, ∀ p2 : xH, (hNt T_rd p p2) → (yL (fX p) (rI p 25 3).toInt.toNat (some x, b)) → (XO (-1) p p2 (rI p 25 3).toInt.toNat (llc (rI p 26 2).toInt.toNat x) b) → (lKl x) → Q (some (.int (1))) p2) (k1 : ∀ b : Nat, ∀ p2 : xH, (hNt T_rd p p2) → (yL (fX p) (rI p 25 3).toInt.toNat (none, b)) → ((rI p2 25 3).toInt = b) → Q (some (.int (0))) p2) : hP ro n d (8, 2, 1, 2, k96) 0 (lv_args 0 [.ref 25]) [] p Q := by
  refine hp_id (ls := [(0, .ref 25)]) ?_
  obtain ⟨t1, t2, t3, t4, t5⟩ := pre0
  have pre0 : hTp p := ⟨t1, t2, t3, t4, t5⟩
  have ga : (rI p 25 3).toInt = ((rI p 25 3).toInt.toNat : Nat) := by omega
  refine hp_hw (fun wp => ?_)
  refine hp_s (pc' := 1) (st' := [.ref 25]) rfl rfl rfl ?_
  refine hp_s (pc' := 2) (st' := [.int 0, .ref 25]) rfl rfl rfl ?_
  refine hp_cv (r := 25) (o := 8) (kd := 1) (as := [.int 0]) (rest := []) (pc' := 5) rfl rfl rfl rfl rfl rfl rfl rfl rfl (fun d1 => ?_)
  refine X_rd0 (oi := 0) (by decide) (by first | assumption | omega) (by first | assumption | omega) ?_ ?_
  ·
    intro y1 y2 p1 h1 h2 h3 h4
    refine hp_hw (fun wq => ?_)
    have hX := h3
    have x1 := hX.2.1
    have x2 := hX.2.2.1
    have x3 := hX.2.2.2.1
    have x4 := hX.2.2.2.2.1
    have hT := XO_tp pre0 ga (by decide) hX
    have hfb : fX p1 (rI p1 25 3).toInt.toNat = fX p y2 := by rw [fX_nt hX.1, i_to x1]
    refine hp_id (st := [.int 1]) ?_
    refine hp_go (pc' := 10) rfl rfl rfl ?_
    refine hp_s (pc' := 11) (st' := [.ref 25]) rfl rfl rfl ?_
    refine hp_s (pc' := 13) (st' := [.int 63, .ref 25]) rfl rfl rfl ?_
    refine hp_cv (r := 25) (o := 8) (kd := 1) (as := [.int 63]) (rest := []) (pc' := 16) rfl rfl rfl rfl rfl rfl rfl rfl rfl (fun d2 => ?_)
    refine s_passOver (ci := 63) (by decide) (by first | assumption | omega) ?_ ?_
    ·
      intro p2 ep2 h5
      have hop : fX p y2 = 63 := by rw [← hfb]; exact h5
      have hX1 := XO_at (z := rI p1 25 3 + 1) hX wq (by have q := i_add (z := rI p1 25 3 + 1) rfl rfl (show (1 : Int32).toInt = 1 from by decide); omega) (fX_in (by omega)) ep2
      have f0 := hX1.2.2.1
      refine hp_hw (fun w1 => ?_)
      refine hp_id (st := [.int 1]) ?_
      refine hp_go (pc' := 19) rfl rfl rfl ?_
      refine hp_s (pc' := 20) (st' := [.ref 25]) rfl rfl rfl ?_
      refine hp_getr (k := 0) (w := .ref 26) (pc' := 23) rfl rfl rfl rfl rfl ?_
      refine hp_get (k := 2) (pc' := 26) (v := (rI p1 26 2)) rfl rfl rfl rfl rfl (by rw [ep2, rI_o (by decide)]) ?_
      refine hp_s (pc' := 27) (ls' := [(1, .int (rI p1 26 2)), (0, .ref 25)]) (st' := []) rfl rfl rfl ?_
      refine hp_s (pc' := 28) (st' := [.ref 25]) rfl rfl rfl ?_
      refine hp_getr (k := 0) (w := .ref 26) (pc' := 31) rfl rfl rfl rfl rfl ?_
      refine hp_s (pc' := 33) (st' := [.int 63, .ref 26]) rfl rfl rfl ?_
      refine hp_s (pc' := 34) (st' := [.int 0, .int 63, .ref 26]) rfl rfl rfl ?_
      refine hp_cv (r := 26) (o := 3) (kd := 1) (as := [.int 63, .int 0]) (rest := []) (pc' := 37) rfl rfl rfl rfl rfl rfl rfl rfl rfl (fun d3 => ?_)
      refine s_addD (xi := 63) (by decide) (yi := 0) (by decide) (by first | assumption | omega) ?_
      intro p3 ep3
      have hX3 := XO_ad (k := 0) (c := 63) pre0 ga (by decide) (XO_k hX1 (by decide)) w1 (by decide) ep3
      have hT3 := XO_tp pre0 ga (by decide) hX3
      have hf3 := fX_nt hX3.1
      have hq := i_to hX3.2.1
      refine hp_id (st := []) ?_
      refine hp_s (pc' := 38) (st' := [.ref 25]) rfl rfl rfl ?_
      refine hp_s (pc' := 39) (st' := [.int 0, .ref 25]) rfl rfl rfl ?_
      refine hp_cv (r := 25) (o := 8) (kd := 1) (as := [.int 0]) (rest := []) (pc' := 42) rfl rfl rfl rfl rfl rfl rfl rfl rfl (fun d4 => ?_)
      refine X_rd0 (oi := 0) (by decide) (by first | assumption | omega) (by first | assumption | omega) ?_ ?_
      ·
        intro y3 y4 p4 h6 h7 h8 h9
        rw [hf3, hq] at h7
        rw [hq] at h8
        have hX4 := XO_tr pre0.2.2.2.1 hX3 h8
        have f3 := hX4.2.2.1
        have f4 := hX4.2.2.2.1
        have f5 := hX4.2.2.2.2.1
        refine hp_hw (fun w4 => ?_)
        refine hp_id (st := [.int 1]) ?_
        refine hp_go (pc' := 47) rfl rfl rfl ?_
        refine hp_s (pc' := 48) (st' := [.ref 25]) rfl rfl rfl ?_
        refine hp_getr (k := 0) (w := .ref 26) (pc' := 51) rfl rfl rfl rfl rfl ?_
        refine hp_s (pc' := 53) (st' := [.int 59, .ref 26]) rfl rfl rfl ?_
        refine hp_s (pc' := 54) (st' := [.int 0, .int 59, .ref 26]) rfl rfl rfl ?_
        refine hp_cv (r := 26) (o := 3) (kd := 1) (as := [.int 59, .int 0]) (rest := []) (pc' := 57) rfl rfl rfl rfl rfl rfl rfl rfl rfl (fun d5 => ?_)
        refine s_addD (xi := 59) (by decide) (yi := 0) (by decide) (by first | assumption | omega) ?_
        intro p5 ep5
        have hX5 := XO_ad (k := -1) (c := 59) pre0 ga (by decide) (XO_k hX4 (by decide)) w4 (by decide) ep5
        have f6 := hX5.2.2.1
        have f7 := hX5.2.2.2.1
        refine hp_hw (fun w5 => ?_)
        refine hp_id (st := []) ?_
        refine hp_s (pc' := 58) (st' := [.ref 25]) rfl rfl rfl ?_
        refine hp_getr (k := 0) (w := .ref 26) (pc' := 61) rfl rfl rfl rfl rfl ?_
        refine hp_s (pc' := 62) (st' := [.int (rI p1 26 2), .ref 26]) rfl rfl rfl ?_
        simp only [List.length_append, List.length_cons, List.length_nil] at f6 f3 f4 f7
        refine hp_cv (r := 26) (o := 3) (kd := 1) (as := [.int (rI p1 26 2)]) (rest := []) (pc' := 65) rfl rfl rfl rfl rfl rfl rfl rfl rfl (fun d6 => ?_)
        refine s_endSkip (xi := (rI p1 26 2).toInt) rfl (by first | assumption | omega) (by first | assumption | omega) ?_
        intro p6 ep6
        skip
        refine hp_id (st := []) ?_
        refine hp_go (pc' := 78) rfl rfl rfl ?_
        refine hp_s (pc' := 79) (st' := [.int 1]) rfl rfl rfl ?_
        refine hp_rb rfl rfl (fun _ => ?_)
        have hX7 := XO_pt (p2 := p6) (A := y1) (B := y3 ++ [(59, 0)]) (c := 63) (u := 0) (v := rI p5 26 2) (by rw [List.append_assoc, List.append_assoc] at hX5; rw [List.append_assoc]; exact hX5) w5 pre0.2.2.2.1 (by omega) (by rw [ep6]; congr 1; omega)
        have hll : llc (rI p 26 2).toInt.toNat (some y1, y3) = y1 ++ [(63, rI p5 26 2)] ++ (y3 ++ [(59, 0)]) := by
          show y1 ++ [(63, Int32.ofNat _)] ++ y3 ++ [(59, 0)] = _
          rw [List.append_assoc (y1 ++ _) y3]
          congr 3
          refine congrArg (fun z => ((63 : Int), z)) (Int32.toInt_inj.mp ?_)
          dsimp only
          have f9 := hX5.2.2.1
          simp only [List.length_append, List.length_cons, List.length_nil] at f9 f3 f4
          rw [Int32.toInt_ofNat_of_lt (by omega), f9]; push_cast; omega
        rw [← hll] at hX7
        exact k0 _ _ _ hX7.1 (yL_o2 h2 hop h7) hX7 ⟨h9, fun c hc => by cases hc; exact h4⟩
      ·
        intro y5 p7 h10 h11 h12
        rw [hf3, hq] at h11
        refine hp_id (st := [.int 0]) ?_
        refine hp_go (pc' := 45) rfl rfl rfl ?_
        refine hp_s (pc' := 46) (st' := [.int 0]) rfl rfl rfl ?_
        refine hp_rb rfl rfl (fun _ => ?_)
        exact k1 _ _ (hX3.1.trans h10) (yL_b2 h2 hop h11) h12
    ·
      intro h13
      have hno : fX p y2 ≠ 63 := by rw [← hfb]; exact h13
      refine hp_id (st := [.int 0]) ?_
      refine hp_go (pc' := 68) rfl rfl rfl ?_
      refine hp_s (pc' := 69) (st' := [.ref 25]) rfl rfl rfl ?_
      refine hp_getr (k := 0) (w := .ref 26) (pc' := 72) rfl rfl rfl rfl rfl ?_
      refine hp_s (pc' := 74) (st' := [.int 59, .ref 26]) rfl rfl rfl ?_
      refine hp_s (pc' := 75) (st' := [.int 0, .int 59, .ref 26]) rfl rfl rfl ?_
      refine hp_cv (r := 26) (o := 3) (kd := 1) (as := [.int 59, .int 0]) (rest := []) (pc' := 78) rfl rfl rfl rfl rfl rfl rfl rfl rfl (fun d7 => ?_)
      refine s_addD (xi := 59) (by decide) (yi := 0) (by decide) (by first | assumption | omega) ?_
      intro p8 ep8
      have hX3 := XO_ad (k := -1) (c := 59) pre0 ga (by decide) (XO_k hX (by decide)) wq (by decide) ep8
      refine hp_id (st := []) ?_
      refine hp_s (pc' := 79) (st' := [.int 1]) rfl rfl rfl ?_
      refine hp_rb rfl rfl (fun _ => ?_)
      exact k0 _ _ _ hX3.1 (yL_o1 h2 hno) hX3 ⟨h4, fun c hc => (by cases hc)⟩
  ·
    intro y6 p9 h14 h15 h16
    refine hp_id (st := [.int 0]) ?_
    refine hp_go (pc' := 8) rfl rfl rfl ?_
    refine hp_s (pc' := 9) (st' := [.int 0]) rfl rfl rfl ?_
    refine hp_rb rfl rfl (fun _ => ?_)
    exact k1 _ _ h14 (yL_b1 h15) h16
/-- on the way through the lines -/
def XT (p0 p : xH) (ac : List yN) (b : Nat) : Prop := hNt T_rd p0 p ∧ (rI p 25 3).toInt = b ∧ (rI p 26 2).toInt = ((ltc 0 ac).length : Int) ∧ (b : Int) ≤ (rI p0 25 2).toInt ∧ hCd p 27 0 (ltc 0 ac) ∧ (∀ x ∈ ac, lKl x) ∧ ((ltc 0 ac).length : Int) ≤ b + 1
theorem XT_s {p0 p p2 : xH} {ac : List yN} {a b : Nat} {x : yN} (h : XT p0 p ac a) (hm : (rI p 26 2).toInt ≤ a) (g : XO (-1) p p2 a (llc (rI p 26 2).toInt.toNat x) b) (hx : lKl x) : XT p0 p2 (ac ++ [x]) b := by
  obtain ⟨h1, h2, h3, h4, h5, h6, h7⟩ := h
  obtain ⟨g1, g2, g3, g4, g5, g6, g7⟩ := g
  rw [h1.int (r := 25) (k := 2) rfl] at g5
  have hL : (rI p 26 2).toInt.toNat = (ltc 0 ac).length := by omega
  rw [hL] at g3 g4 g7
  have hc : ltc 0 (ac ++ [x]) = ltc 0 ac ++ llc (ltc 0 ac).length x := by rw [ltc_app, Nat.zero_add]
  refine ⟨h1.trans g1, g2, ?_, g5, ?_, fun y hy => ?_, by rw [hc, List.length_append]; push_cast; omega⟩
  · rw [hc, List.length_append, g3, h3]; push_cast; rfl
  · rw [hc]
    refine hCd_app (hCd_same h5 (fun j _ j2 => g6 j (by omega))) ?_
    rw [Nat.zero_add]
    exact g7
  · rcases List.mem_append.mp hy with hy | hy
    · exact h6 y hy
    · rw [List.mem_singleton.mp hy]; exact hx
theorem XT_at {p0 p p2 : xH} {ac : List yN} {b : Nat} {z : Int32} (h : XT p0 p ac b) (hw : hW p) (hz : z.toInt = b + 1) (hb : (b : Int) < (rI p0 25 2).toInt) (e : p2 = wV p 25 3 (.int z)) : XT p0 p2 ac (b + 1) := by
  obtain ⟨h1, h2, h3, h4, h5, h6, h7⟩ := h
  refine ⟨by rw [e]; exact h1.w rfl, by rw [e, rI_eq hw (by decide), hz]; push_cast; rfl, by rw [e, rI_o (by decide)]; exact h3, by push_cast; omega, ?_, h6, by push_cast; omega⟩
  refine hCd_same h5 (fun j _ _ => ?_)
  rw [e, rV_ne (fun z => absurd z (by decide)), rV_ne (fun z => absurd z (by decide))]
  exact ⟨rfl, rfl⟩
theorem llc_pos {L : Nat} {x : yN} : 1 ≤ (llc L x).length := by
  unfold llc
  split
  · rw [List.length_append]; exact Nat.le_add_left _ _
  · rw [List.length_append]; exact Nat.le_add_left _ _
theorem ltc_pos {ac : List yN} {x : yN} : 1 ≤ (ltc 0 (ac ++ [x])).length := by
  rw [ltc_app, List.length_append]
  have := llc_pos (L := 0 + (ltc 0 ac).length) (x := x)
  omega
theorem lp_93 {ro : List (List Int32)} {d : Nat} {Q : Option Value → xH → Prop} {p0 : xH} (gl : 0 ≤ (rI p0 25 2).toInt) (gh : (rI p0 25 2).toInt ≤ 120) (K1 : ∀ (ac : List yN) (p2 : xH), yT (fX p0) 0 [] (some ac, (rI p0 25 2).toInt.toNat) → XT p0 p2 ac (rI p0 25 2).toInt.toNat → 1 ≤ (ltc 0 ac).length → Q (some (.int 1)) p2) (K0 : ∀ (r : Option (List yN)) (b : Nat) (p2 : xH), hNt T_rd p0 p2 → yT (fX p0) 0 [] (r, b) → (rI p2 25 3).toInt = b → (r = none ∨ (b : Int) ≠ (rI p0 25 2).toInt) → Q (some (.int 0)) p2) : ∀ (n : Nat) (k : Int32) (m : Int32) (p : xH) (ac : List yN) (b : Nat), (0 ≤ k.toInt) → (k.toInt ≤ 121) → (XT p0 p ac b) → ((m.toInt = 1 ∧ (rI p 26 2).toInt ≤ b ∧ k.toInt ≤ b ∧ ∀ r, yT (fX p0) b ac r → yT (fX p0) 0 [] r) ∨ (m.toInt = 0 ∧ 1 ≤ (ltc 0 ac).length ∧ yT (fX p0) 0 [] (some ac, b))) → hP ro n d (8, 3, 1, 2, k93) 17 [(2, .int k), (1, .int m), (0, .ref 25)] [] p Q := by
  intro n
  induction n with
  | zero => intros; exact hp_0
  | succ n ih =>
    intro k m p ac b h1 h2 hX hM
    refine hp_hw (fun wp => ?_)
    have x1 := hX.2.1
    have x3 := hX.2.2.1
    have x4 := hX.2.2.2.1
    have hf := fX_nt hX.1
    have hqb := i_to x1
    have hM0 : m.toInt = 1 ∧ k.toInt ≤ b ∨ m.toInt = 0 := hM.imp (fun q => ⟨q.1, q.2.2.1⟩) (fun q => q.1)
    have e25 : (rI p 25 2).toInt = (rI p0 25 2).toInt := by rw [hX.1.int (r := 25) (k := 2) rfl]
    refine hp_s1 (pc' := 18) (st' := [.int k]) rfl rfl rfl ?_
    refine hp_s (pc' := 20) (st' := [.int 120, .int k]) rfl rfl rfl ?_
    refine hp_ic (pc' := 23) (t := 49) (a := k.toInt) (b := 120) rfl rfl rfl rfl (by decide) (fun (h1 : 120 < k.toInt) => ?_) (fun (h2 : ¬ (120 < k.toInt)) => ?_)
    ·
      refine hp_s (pc' := 50) (st' := [.ref 25]) rfl rfl rfl ?_
      refine hp_get (k := 3) (pc' := 53) (v := (rI p 25 3)) rfl rfl rfl rfl rfl rfl ?_
      refine hp_s (pc' := 54) (st' := [.ref 25, .int (rI p 25 3)]) rfl rfl rfl ?_
      refine hp_get (k := 2) (pc' := 57) (v := (rI p 25 2)) rfl rfl rfl rfl rfl rfl ?_
      refine hp_ic (pc' := 60) (t := 64) (a := (rI p 25 3).toInt) (b := (rI p 25 2).toInt) rfl rfl rfl rfl rfl (fun (h3 : (rI p 25 3).toInt ≠ (rI p 25 2).toInt) => ?_) (fun (h4 : ¬ ((rI p 25 3).toInt ≠ (rI p 25 2).toInt)) => ?_)
      ·
        refine hp_s (pc' := 65) (st' := [.int 0]) rfl rfl rfl ?_
        refine hp_rb rfl rfl (fun _ => ?_)
        rcases hM with ⟨m1, m2, m3, m4⟩ | ⟨m1, m2, m3⟩
        · exfalso; omega
        · exact K0 (some ac) b p hX.1 m3 x1 (Or.inr (by omega))
      ·
        refine hp_s (pc' := 61) (st' := [.int 1]) rfl rfl rfl ?_
        refine hp_go (pc' := 65) rfl rfl rfl ?_
        refine hp_rb rfl rfl (fun _ => ?_)
        rcases hM with ⟨m1, m2, m3, m4⟩ | ⟨m1, m2, m3⟩
        · exfalso; omega
        · have hbn : (rI p0 25 2).toInt.toNat = b := by omega
          exact K1 ac p (by rw [hbn]; exact m3) (by rw [hbn]; exact hX) m2
    ·
      refine hp_s (pc' := 24) (st' := [.int m]) rfl rfl rfl ?_
      refine hp_if (pc' := 27) (t := 49) (a := m.toInt) rfl rfl rfl rfl (fun (h5 : m.toInt = 0) => ?_) (fun (h6 : ¬ (m.toInt = 0)) => ?_)
      ·
        refine hp_s (pc' := 50) (st' := [.ref 25]) rfl rfl rfl ?_
        refine hp_get (k := 3) (pc' := 53) (v := (rI p 25 3)) rfl rfl rfl rfl rfl rfl ?_
        refine hp_s (pc' := 54) (st' := [.ref 25, .int (rI p 25 3)]) rfl rfl rfl ?_
        refine hp_get (k := 2) (pc' := 57) (v := (rI p 25 2)) rfl rfl rfl rfl rfl rfl ?_
        refine hp_ic (pc' := 60) (t := 64) (a := (rI p 25 3).toInt) (b := (rI p 25 2).toInt) rfl rfl rfl rfl rfl (fun (h7 : (rI p 25 3).toInt ≠ (rI p 25 2).toInt) => ?_) (fun (h8 : ¬ ((rI p 25 3).toInt ≠ (rI p 25 2).toInt)) => ?_)
        ·
          refine hp_s (pc' := 65) (st' := [.int 0]) rfl rfl rfl ?_
          refine hp_rb rfl rfl (fun _ => ?_)
          rcases hM with ⟨m1, m2, m3, m4⟩ | ⟨m1, m2, m3⟩
          · exfalso; omega
          · exact K0 (some ac) b p hX.1 m3 x1 (Or.inr (by omega))
        ·
          refine hp_s (pc' := 61) (st' := [.int 1]) rfl rfl rfl ?_
          refine hp_go (pc' := 65) rfl rfl rfl ?_
          refine hp_rb rfl rfl (fun _ => ?_)
          rcases hM with ⟨m1, m2, m3, m4⟩ | ⟨m1, m2, m3⟩
          · exfalso; omega
          · have hbn : (rI p0 25 2).toInt.toNat = b := by omega
            exact K1 ac p (by rw [hbn]; exact m3) (by rw [hbn]; exact hX) m2
      ·
        refine hp_s (pc' := 28) (st' := [.ref 25]) rfl rfl rfl ?_
        have hm1 : 0 ≤ (rI p 26 2).toInt ∧ (rI p 26 2).toInt ≤ b ∧ k.toInt ≤ b ∧ ∀ r, yT (fX p0) b ac r → yT (fX p0) 0 [] r := by rcases hM with ⟨m1, m2, m3, m4⟩ | ⟨m1, m2, m3⟩; exact ⟨by omega, m2, m3, m4⟩; exfalso; omega
        have hr := hm1.2.2.2
        have hm2 := hm1.2.1
        have hTp1 : hTp p := by unfold hTp; rw [hX.1.int (r := 25) (k := 2) rfl]; omega
        refine hp_cv (r := 25) (o := 8) (kd := 1) (as := []) (rest := []) (pc' := 31) rfl rfl rfl rfl rfl rfl rfl rfl rfl (fun d1 => ?_)
        refine X_line (by first | assumption | omega) ?_ ?_
        ·
          intro y1 y2 p1 h9 h10 h11 h12
          refine hp_hw (fun wq => ?_)
          rw [hf, hqb] at h10
          rw [hqb] at h11
          have hX2 := XT_s hX (by omega) h11 h12
          have u1 := hX2.2.1
          have u4 := hX2.2.2.2.1
          have hfb : fX p1 (rI p1 25 3).toInt.toNat = fX p0 y2 := by rw [fX_nt hX2.1, i_to u1]
          refine hp_id (st := [.int 1]) ?_
          refine hp_go (pc' := 36) rfl rfl rfl ?_
          refine hp_s (pc' := 37) (st' := [.ref 25]) rfl rfl rfl ?_
          refine hp_s (pc' := 39) (st' := [.int 59, .ref 25]) rfl rfl rfl ?_
          refine hp_cv (r := 25) (o := 8) (kd := 1) (as := [.int 59]) (rest := []) (pc' := 42) rfl rfl rfl rfl rfl rfl rfl rfl rfl (fun d2 => ?_)
          refine s_passOver (ci := 59) (by decide) (by first | assumption | omega) ?_ ?_
          ·
            intro p2 ep2 h13
            have hop : fX p0 y2 = 59 := by rw [← hfb]; exact h13
            have hX3 := XT_at (z := rI p1 25 3 + 1) hX2 wq (by have q := i_add (z := rI p1 25 3 + 1) rfl rfl (show (1 : Int32).toInt = 1 from by decide); omega) (fX_in (by omega)) ep2
            refine hp_id (st := [.int 1]) ?_
            refine hp_s (pc' := 43) (ls' := [(1, .int 1), (2, .int k), (0, .ref 25)]) (st' := []) rfl rfl rfl ?_
            refine hp_inc (L := fun z => [(2, .int z), (1, .int 1), (0, .ref 25)]) (pc' := 46) rfl rfl rfl (fun _ => rfl) rfl ?_
            intro z1 hz1
            have ez1 := i_add hz1 (show k.toInt = k.toInt from rfl) (show (Int32.ofInt 1).toInt = 1 from by decide)
            refine hp_go (pc' := 17) rfl rfl rfl ?_
            exact ih z1 1 _ _ _ (by omega) (by omega) hX3 (Or.inl ⟨by decide, by have q := hX3.2.2.1; have q2 := hX2.2.2.2.2.2.2; push_cast; omega, by have q2 := h11.2.2.2.1; have q5 := @llc_pos (rI p 26 2).toInt.toNat y1; push_cast; omega, fun r h => hr r (yT_m h10 hop h)⟩)
          ·
            intro h14
            have hno : fX p0 y2 ≠ 59 := by rw [← hfb]; exact h14
            refine hp_id (st := [.int 0]) ?_
            refine hp_s (pc' := 43) (ls' := [(1, .int 0), (2, .int k), (0, .ref 25)]) (st' := []) rfl rfl rfl ?_
            refine hp_inc (L := fun z => [(2, .int z), (1, .int 0), (0, .ref 25)]) (pc' := 46) rfl rfl rfl (fun _ => rfl) rfl ?_
            intro z2 hz2
            have ez2 := i_add hz2 (show k.toInt = k.toInt from rfl) (show (Int32.ofInt 1).toInt = 1 from by decide)
            refine hp_go (pc' := 17) rfl rfl rfl ?_
            exact ih z2 0 _ _ _ (by omega) (by omega) hX2 (Or.inr ⟨by decide, ltc_pos, hr _ (yT_s h10 hno)⟩)
        ·
          intro y3 p3 h15 h16 h17
          refine hp_id (st := [.int 0]) ?_
          refine hp_go (pc' := 34) rfl rfl rfl ?_
          refine hp_s (pc' := 35) (st' := [.int 0]) rfl rfl rfl ?_
          refine hp_rb rfl rfl (fun _ => ?_)
          first | (exfalso; omega) | exact K0 _ _ _ (hX.1.trans h15) (hr _ (yT_b (by rw [hf, hqb] at h16; exact h16))) h17 (Or.inl rfl)
theorem X_isText {ro : List (List Int32)} {n d : Nat} {p : xH} {Q : Option Value → xH → Prop}  (pre0 : 0 ≤ (rI p 25 2).toInt) (pre1 : (rI p 25 2).toInt ≤ 120) (k0 : ∀ ac : List yN, ∀ p2 : xH, (hNt T_rd p p2) → (yT (fX p) 0 [] (some ac, (rI p 25 2).toInt.toNat)) → (XT p p2 ac (rI p 25 2).toInt.toNat) → (1 ≤ (ltc 0 ac).length) → Q (some (.int (1))) p2) (k1 : ∀ r : Option (List yN), ∀ b : Nat, ∀ p2 : xH, (hNt T_rd p p2) → (yT (fX p) 0 [] (r, b)) → ((rI p2 25 3).toInt = b) → (r = none ∨ (b : Int) ≠ (rI p 25 2).toInt) → Q (some (.int (0))) p2) : hP ro n d (8, 3, 1, 2, k93) 0 (lv_args 0 [.ref 25]) [] p Q := by
  refine hp_id (ls := [(0, .ref 25)]) ?_
  refine hp_hw (fun wp => ?_)
  refine hp_s (pc' := 1) (st' := [.ref 25]) rfl rfl rfl ?_
  refine hp_s (pc' := 2) (st' := [.int 0, .ref 25]) rfl rfl rfl ?_
  refine hp_put (k := 3) (pc' := 5) rfl rfl rfl rfl rfl ?_
  intro p1 wp1 ep1
  refine hp_s (pc' := 6) (st' := [.ref 25]) rfl rfl rfl ?_
  refine hp_getr (k := 0) (w := .ref 26) (pc' := 9) rfl rfl rfl rfl rfl ?_
  refine hp_s (pc' := 10) (st' := [.int 0, .ref 26]) rfl rfl rfl ?_
  refine hp_put (k := 2) (pc' := 13) rfl rfl rfl rfl rfl ?_
  intro p2 wp2 ep2
  refine hp_s (pc' := 14) (st' := [.int 1]) rfl rfl rfl ?_
  refine hp_s (pc' := 15) (ls' := [(1, .int 1), (0, .ref 25)]) (st' := []) rfl rfl rfl ?_
  refine hp_s (pc' := 16) (st' := [.int 0]) rfl rfl rfl ?_
  refine hp_s (pc' := 17) (ls' := [(2, .int 0), (1, .int 1), (0, .ref 25)]) (st' := []) rfl rfl rfl ?_
  exact lp_93 (p0 := p) pre0 pre1 (fun ac p2 h1 h2 h3 => k0 ac p2 h2.1 h1 h2 h3) k1 n 0 1 _ [] 0 (by decide) (by decide) ⟨(by rw [ep2]; exact (hNt.w (by rw [ep1]; exact (hNt.w (hNt.refl _ _) rfl)) rfl)), by rw [ep2, rI_o (by decide), ep1, rI_eq wp (by decide)]; decide, by rw [ep2, rI_eq wp2 (by decide)]; decide, by omega, fun i x hx => (by cases hx), fun x hx => (by cases hx), by decide⟩ (Or.inl ⟨by decide, by rw [ep2, rI_eq wp2 (by decide)]; decide, by decide, fun r h => h⟩)
