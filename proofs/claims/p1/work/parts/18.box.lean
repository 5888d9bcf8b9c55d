/-! from boxes of arguments to all arguments; single steps of a run -/
theorem ev_s {ro : List (List Int32)} {n d : Nat} {q : xQ} {pc : Nat} {ls ls' : xL} {st st' : List Value} {h : xH} {i : Instr} (hi : xcg q.2.2.2.2 pc = some i) (h1 : xs1 q.1 q.2.1 i ls st = some (ls', st')) : ev ro (n + 1) d q pc ls st h = ev ro n d q (pc + xil i) ls' st' h := by
  rw [ev, hi]; dsimp only; rw [h1]
theorem ev_b {ro : List (List Int32)} {n d : Nat} {q : xQ} {pc pc' : Nat} {ls : xL} {st st' : List Value} {h : xH} {i : Instr} (hi : xcg q.2.2.2.2 pc = some i) (h0 : xs1 q.1 q.2.1 i ls st = none) (h1 : xbr i pc st = some (pc', st')) : ev ro (n + 1) d q pc ls st h = ev ro n d q pc' ls st' h := by
  rw [ev, hi]; dsimp only; rw [h0]; dsimp only; rw [h1]
theorem ev_h {ro : List (List Int32)} {n d : Nat} {q : xQ} {pc : Nat} {ls : xL} {st st' : List Value} {h h' : xH} {i : Instr} (hi : xcg q.2.2.2.2 pc = some i) (h0 : xs1 q.1 q.2.1 i ls st = none) (h1 : xbr i pc st = none) (h2 : xho ro q.1 q.2.2.1 i st h = some (st', h')) : ev ro (n + 1) d q pc ls st h = ev ro n d q (pc + xil i) ls st' h' := by
  rw [ev, hi]; dsimp only; rw [h0]; dsimp only; rw [h1]; dsimp only; rw [h2]
theorem ev_r {ro : List (List Int32)} {n d : Nat} {q : xQ} {pc : Nat} {ls : xL} {st : List Value} {h : xH} {i : Instr} {r : Option Value} (hi : xcg q.2.2.2.2 pc = some i) (h0 : xs1 q.1 q.2.1 i ls st = none) (h1 : xbr i pc st = none) (h2 : xho ro q.1 q.2.2.1 i st h = none) (h3 : xrt q.2.2.2.1 i st = some r) : ev ro (n + 1) d q pc ls st h = some (r, h) := by
  rw [ev, hi]; dsimp only; rw [h0]; dsimp only; rw [h1]; dsimp only; rw [h2]; dsimp only; rw [h3]
theorem ev_c {ro : List (List Int32)} {n d : Nat} {q q' : xQ} {pc y : Nat} {ls : xL} {st as rest : List Value} {h h' : xH} {i : Instr} {r : Option Value} (hi : xcg q.2.2.2.2 pc = some i) (h0 : xs1 q.1 q.2.1 i ls st = none) (h1 : xbr i pc st = none) (h2 : xho ro q.1 q.2.2.1 i st h = none) (h3 : xrt q.2.2.2.1 i st = none) (h4 : xob q.1 i st = none) (h5 : xmm q.1 i st = none)
    (h6 : xca q.1 i st h = some (y, as, rest)) (h7 : xM[y]? = some q') (h8 : (Nat.ble (xcs rest) 8 && Nat.ble (xcs as) q'.2.1) = true) (h9 : ev ro n d q' 0 (lv_args 0 as) [] h = some (r, h')) : ev ro (n + 1) (d + 1) q pc ls st h = ev ro n (d + 1) q (pc + 3) ls (r.toList ++ rest) h' := by
  rw [ev, hi]; dsimp only; rw [h0]; dsimp only; rw [h1]; dsimp only; rw [h2]; dsimp only; rw [h3]; dsimp only; rw [h4]; dsimp only; rw [h5]; dsimp only; rw [h6]; dsimp only; rw [h7]; dsimp only; rw [h8, cond_true, h9]
theorem xho_ro {ro : List (List Int32)} {own kind : Nat} {i : Instr} {st : List Value} {h : xH} : (∀ x, xho [] own kind i st h = some x → xho ro own kind i st h = some x) ∧ (∀ x, xho [] own kind i st h = none → xho ro own kind i st h = some x → (∀ ret, xrt ret i st = none) ∧ xob own i st = none ∧ xmm own i st = none ∧ xca own i st h = none) := by
  refine ⟨fun x e => ?_, fun x e1 e2 => ?_⟩
  · unfold xho at e ⊢
    split at e <;> first | exact e | (simp at e; done)
  · unfold xho at e2
    split at e2 <;> first | exact ⟨fun _ => rfl, rfl, rfl, rfl⟩ | (cases e2; done)
theorem ev_ro {ro : List (List Int32)} : ∀ (n : Nat) {d : Nat} {q : xQ} {pc : Nat} {ls : xL} {st : List Value} {h : xH} {x : Option Value × xH}, ev [] n d q pc ls st h = some x → ev ro n d q pc ls st h = some x := by
  intro n
  induction n with
  | zero => intro d q pc ls st h x e; simp [ev] at e
  | succ n ih =>
    intro d q pc ls st h x e
    rw [ev] at e
    rw [ev]
    split at e
    next => cases e
    next i hi =>
      try rw [hi]
      try dsimp only
      split at e
      next ls' st' h1 => (try rw [h1]); exact ih e
      next h1 =>
        try rw [h1]
        try dsimp only
        split at e
        next pc' st' h2 => (try rw [h2]); exact ih e
        next h2 =>
          try rw [h2]
          try dsimp only
          split at e
          next st' h' h3 => rw [xho_ro.1 _ h3]; exact ih e
          next h3 =>
            cases h9 : xho ro q.1 q.2.2.1 i st h with
            | some z =>
              obtain ⟨z1, z2, z3, z4⟩ := xho_ro.2 z h3 h9
              rw [z1] at e
              dsimp only at e
              split at e
              next => cases e
              next d' =>
                rw [z2] at e
                dsimp only at e
                rw [z3] at e
                dsimp only at e
                rw [z4] at e
                cases e
            | none =>
              dsimp only
              split at e
              next r h4 => (try rw [h4]); exact e
              next h4 =>
                try rw [h4]
                try dsimp only
                split at e
                next => cases e
                next d' =>
                  split at e
                  next rest h5 =>
                    obtain ⟨hz, e⟩ := xbif e
                    try rw [h5]
                    try dsimp only
                    rw [hz, cond_true]
                    exact ih e
                  next h5 =>
                    try rw [h5]
                    try dsimp only
                    split at e
                    next rest h6 =>
                      obtain ⟨hz, e⟩ := xbif e
                      try rw [h6]
                      try dsimp only
                      rw [hz, cond_true]
                      exact ih e
                    next h6 =>
                      try rw [h6]
                      try dsimp only
                      split at e
                      next => cases e
                      next yk as rest hca =>
                        try rw [hca]
                        try dsimp only
                        split at e
                        next => cases e
                        next q' hq' =>
                          obtain ⟨hz, e⟩ := xbif e
                          try rw [hq']
                          try dsimp only
                          rw [hz, cond_true]
                          split at e
                          next => cases e
                          next r1 h' he1 =>
                            rw [ih he1]
                            exact ih e
def alen (h : aH) : List Nat := h.map fun c => c.2.length
theorem alen_set (h : aH) (r t : Nat) (vs vs' : List aV) (hh : h[r]? = some (t, vs)) (hl : vs'.length = vs.length) : alen (h.set r (t, vs')) = alen h := by
  unfold alen
  rw [List.map_set]
  apply List.ext_getElem?
  intro k
  rw [List.getElem?_set]
  split
  next e =>
    subst e
    rw [List.length_map, List.getElem?_map, hh]
    have := (List.getElem?_eq_some_iff.mp hh).1
    rw [if_pos this, Option.map_some, hl]
  next => rfl
theorem aho_same {aro : List (List aV)} {own : Nat} {i : Instr} {ast ast' : List aV} {ah ah' : aH} (e : aho aro own i ast ah = some (ast', ah')) : alen ah' = alen ah := by
  unfold aho at e
  split at e
  next =>
    split at e
    next => obtain ⟨-, e⟩ := xbif e; obtain ⟨v, hv, e⟩ := xmap e; cases e; rfl
    next => cases e
  next =>
    split at e
    next hf hc =>
      obtain ⟨-, e⟩ := xbif e
      split at e
      next =>
        split at e
        next => obtain ⟨-, e⟩ := xbif e; cases e; exact alen_set _ _ _ _ _ hc (by simp)
        next => cases e
      next => cases e
    next => cases e
  next =>
    split at e
    next =>
      obtain ⟨-, e⟩ := xbif e
      split at e
      next => cases e
      next =>
        split at e
        next => obtain ⟨v, hv, e⟩ := xmap e; cases e; rfl
        next => cases e
    next => cases e
  next =>
    split at e
    next =>
      split at e
      next => cases e
      next =>
        split at e
        next => obtain ⟨v, hv, e⟩ := xmap e; cases e; rfl
        next => cases e
    next => cases e
  next =>
    split at e
    next =>
      obtain ⟨-, e⟩ := xbif e
      split at e
      next => cases e
      next =>
        split at e
        next => obtain ⟨v, hv, e⟩ := xmap e; cases e; rfl
        next => cases e
    next => cases e
  next =>
    split at e
    next =>
      obtain ⟨-, e⟩ := xbif e
      split at e
      next => cases e
      next =>
        split at e
        next => obtain ⟨v, hv, e⟩ := xmap e; cases e; rfl
        next => cases e
    next => cases e
  next =>
    split at e
    next hc hj =>
      obtain ⟨-, e⟩ := xbif e
      split at e
      next => cases e
      next => cases e; exact alen_set _ _ _ _ _ hc (by simp)
    next => cases e
  next =>
    split at e
    next hc hj =>
      obtain ⟨-, e⟩ := xbif e
      split at e
      next => cases e
      next => cases e; exact alen_set _ _ _ _ _ hc (by simp)
    next => cases e
  next =>
    split at e
    next hc hj =>
      obtain ⟨-, e⟩ := xbif e
      split at e
      next => cases e
      next => cases e; exact alen_set _ _ _ _ _ hc (by simp)
    next => cases e
  next => obtain ⟨v, hv, e⟩ := xmap e; cases e; rfl
  next => cases e
theorem ax_same {aro : List (List aV)} : ∀ (n : Nat) {d : Nat} {q : xQ} {pc : Nat} {als : aL} {ast : List aV} {ah : aH} {ra : Option aV} {ha : aH}, ax aro n d q pc als ast ah = some (ra, ha) → alen ha = alen ah := by
  intro n
  induction n with
  | zero => intro d q pc als ast ah ra ha e; simp [ax] at e
  | succ n ih =>
    intro d q pc als ast ah ra ha e
    rw [ax] at e
    split at e
    next => cases e
    next =>
      split at e
      next => exact ih e
      next =>
        split at e
        next => exact ih e
        next =>
          split at e
          next h1 => exact (ih e).trans (aho_same h1)
          next =>
            split at e
            next => cases e; rfl
            next =>
              split at e
              next => cases e
              next =>
               split at e
               next => exact ih (xbif e).2
               next =>
                split at e
                next => cases e
                next =>
                  split at e
                  next => cases e
                  next =>
                    obtain ⟨-, e⟩ := xbif e
                    split at e
                    next => cases e
                    next he1 => exact (ih e).trans (ih he1)
theorem aGH_len : ∀ {as : aH} {vs : xH}, aGH as vs → vs.map (fun c => c.2.length) = alen as
  | [], [], _ => rfl
  | [], _ :: _, h => absurd h (by simp [aGH])
  | _ :: _, [], h => absurd h (by simp [aGH])
  | a :: as, v :: vs, h => by
    have := aGH_len h.2
    unfold alen at this ⊢
    rw [List.map_cons, List.map_cons, this, aGl_len h.1.2]
def aup (h : xH) : aH := h.map fun c => (c.1, c.2.map Sum.inl)
theorem aGl_up : ∀ (vs : List Value), aGl (vs.map Sum.inl) vs
  | [] => trivial
  | v :: vs => ⟨rfl, aGl_up vs⟩
theorem aGH_up : ∀ (h : xH), aGH (aup h) h
  | [] => trivial
  | c :: h => ⟨⟨rfl, aGl_up c.2⟩, aGH_up h⟩
/-- a box' side -/
def abv (b : Int × Int) : aV := if b.1 = b.2 then .inl (.int (Int32.ofInt b.1)) else .inr (false, b.1, b.2)
theorem abv_ok {b : Int × Int} {x : Int32} (h1 : b.1 ≤ x.toInt) (h2 : x.toInt ≤ b.2) : aG (abv b) (.int x) := by
  unfold abv
  split
  next e =>
    have : x = Int32.ofInt b.1 := by
      have e1 : x.toInt = b.1 := by omega
      rw [← e1, Int32.ofInt_toInt]
    rw [this]
    rfl
  next => exact ⟨x, rfl, h1, h2⟩
/-- sides that cover all ints -/
def acv : Int → List (Int × Int) → Bool
  | a, [] => decide (a = 2147483648)
  | a, b :: r => decide (b.1 = a) && acv (b.2 + 1) r
theorem acv_ok : ∀ {P : List (Int × Int)} {a v : Int}, acv a P = true → a ≤ v → v ≤ 2147483647 → ∃ b ∈ P, b.1 ≤ v ∧ v ≤ b.2
  | [], a, v, h, h1, h2 => by
    have := of_decide_eq_true h
    omega
  | b :: r, a, v, h, h1, h2 => by
    unfold acv at h
    simp only [Bool.and_eq_true, decide_eq_true_eq] at h
    by_cases hv : v ≤ b.2
    · exact ⟨b, List.mem_cons_self, by omega, hv⟩
    · obtain ⟨c, c1, c2⟩ := acv_ok h.2 (v := v) (by omega) h2
      exact ⟨c, List.mem_cons_of_mem _ c1, c2⟩
def lwL : xL := [(3, .int 0), (2, .ref 66), (1, .ref 0), (0, .retAddr 0)]
def lwLa : aL := [(3, .inl (.int 0)), (2, .inl (.ref 66)), (1, .inl (.ref 0)), (0, .inl (.retAddr 0))]
def xhA : xH := xhX ++ xhM
def abH : aH := aup xhA
/-- one call of kind k on fresh objects, from the law's switch to its end, over a box: it answers 1 -/
def abr1 (k : Nat) (bs : List (Int × Int)) : Bool := match ax [aT :: bs.map abv] 4000 14 xqL 33 lwLa [.inl (.int (Int32.ofNat k))] abH with
  | some (some a, _) => (match aex a with
    | some x => decide (x = 1)
    | none => false)
  | _ => false
def abx (k : Nat) (P1 P2 P3 P4 P5 : List (Int × Int)) : Bool :=
  acv (-2147483648) P1 && acv (-2147483648) P2 && acv (-2147483648) P3 && acv (-2147483648) P4 && acv (-2147483648) P5 &&
  P1.all fun b1 => P2.all fun b2 => P3.all fun b3 => P4.all fun b4 => P5.all fun b5 => abr1 k [b1, b2, b3, b4, b5]
theorem xhA_len : (xhA.map fun c => c.2.length).length ≤ 600000 ∧ (xhA.map fun c => c.2.length).sum ≤ 7302250 := by decide +kernel
theorem abx_ok {k : Nat} {P1 P2 P3 P4 P5 : List (Int × Int)} (h : abx k P1 P2 P3 P4 P5 = true) (a0 a1 a2 a3 a4 a5 : Int32) :
    ∃ h2, ev [[a0, a1, a2, a3, a4, a5]] 4000 14 xqL 33 lwL [.int (Int32.ofNat k)] xhA = some (some (.int 1), h2) ∧ h2.length ≤ 600000 ∧ xsl h2 ≤ 7302250 := by
  unfold abx at h
  simp only [Bool.and_eq_true] at h
  obtain ⟨⟨⟨⟨⟨c1, c2⟩, c3⟩, c4⟩, c5⟩, hall⟩ := h
  have lo : ∀ x : Int32, (-2147483648 : Int) ≤ x.toInt := fun x => Int32.le_toInt x
  have hi : ∀ x : Int32, x.toInt ≤ 2147483647 := fun x => by have := Int32.toInt_lt x; omega
  obtain ⟨b1, m1, l1, u1⟩ := acv_ok c1 (lo a1) (hi a1)
  obtain ⟨b2, m2, l2, u2⟩ := acv_ok c2 (lo a2) (hi a2)
  obtain ⟨b3, m3, l3, u3⟩ := acv_ok c3 (lo a3) (hi a3)
  obtain ⟨b4, m4, l4, u4⟩ := acv_ok c4 (lo a4) (hi a4)
  obtain ⟨b5, m5, l5, u5⟩ := acv_ok c5 (lo a5) (hi a5)
  have hr := List.all_eq_true.mp (List.all_eq_true.mp (List.all_eq_true.mp (List.all_eq_true.mp (List.all_eq_true.mp hall b1 m1) b2 m2) b3 m3) b4 m4) b5 m5
  unfold abr1 at hr
  split at hr
  next a ha hax =>
    split at hr
    next x hx =>
      have hx1 : x = 1 := of_decide_eq_true hr
      subst hx1
      have hro : aGr [aT :: [b1, b2, b3, b4, b5].map abv] [[a0, a1, a2, a3, a4, a5]] := by
        intro j as hj
        match j, hj with
        | 0, hj =>
          cases hj
          exact ⟨_, rfl, aT_ok a0, abv_ok l1 u1, abv_ok l2 u2, abv_ok l3 u3, abv_ok l4 u4, abv_ok l5 u5, trivial⟩
        | j + 1, hj => simp at hj
      obtain ⟨r, h2, e1, e2, e3⟩ := ax_ok hro 4000 hax (ls := lwL) (st := [.int (Int32.ofNat k)]) (h := xhA) ⟨⟨rfl, rfl⟩, ⟨rfl, rfl⟩, ⟨rfl, rfl⟩, ⟨rfl, rfl⟩, trivial⟩ ⟨rfl, trivial⟩ (aGH_up xhA)
      cases r with
      | none => exact absurd e2 (by simp [aGo])
      | some v =>
        cases aex_ok hx e2
        have hlen : h2.map (fun c => c.2.length) = xhA.map (fun c => c.2.length) := (aGH_len e3).trans ((ax_same 4000 hax).trans (aGH_len (aGH_up xhA)).symm)
        refine ⟨h2, e1, ?_, ?_⟩
        · have := congrArg List.length hlen
          rw [List.length_map] at this
          rw [this]
          exact xhA_len.1
        · unfold xsl
          rw [hlen]
          exact xhA_len.2
    next => cases hr
  next => cases hr
