/-! intervals: a whole run; more fuel changes nothing -/
def aGo : Option aV → Option Value → Prop
  | none, none => True
  | some a, some v => aG a v
  | _, _ => False
theorem art_ok {ret : Nat} {i : Instr} {ast : List aV} {ra : Option aV} {st : List Value} (e : art ret i ast = some ra) (hs : aGl ast st) :
    (∀ own nL ls, xs1 own nL i ls st = none) ∧ (∀ pc, xbr i pc st = none) ∧ (∀ ro own kind h, xho ro own kind i st h = none) ∧ ∃ r, xrt ret i st = some r ∧ aGo ra r := by
  unfold art at e
  split at e
  next =>
    obtain ⟨h0, e⟩ := xbif e
    cases e
    cases aGl_nil hs
    exact ⟨fun _ _ _ => rfl, fun _ => rfl, fun _ _ _ _ => rfl, none, by simp only [xrt, h0, cond_true], trivial⟩
  next a =>
    obtain ⟨w1, vs1, rfl, g1, g2⟩ := aGl_cons hs
    cases aGl_nil g2
    cases h1 : (Nat.beq ret 1 && (ai a).isSome) with
    | true =>
      rw [h1] at e
      cases e
      simp only [Bool.and_eq_true] at h1
      obtain ⟨x, rfl⟩ := aSome h1.2 g1
      exact ⟨fun _ _ _ => rfl, fun _ => rfl, fun _ _ _ _ => rfl, some (.int x), by simp only [xrt, h1.1, cond_true], g1⟩
    | false =>
      rw [h1, cond_false] at e
      obtain ⟨h2, e⟩ := xbif e
      cases e
      simp only [Bool.and_eq_true] at h2
      obtain ⟨x, rfl, h01⟩ := a01_ok h2.2 g1
      have hr : ret = 2 := Nat.eq_of_beq_eq_true h2.1
      subst hr
      refine ⟨fun _ _ _ => rfl, fun _ => rfl, fun _ _ _ _ => rfl, some (.int x), ?_, g1⟩
      show (bif Nat.beq 2 1 then some (some (Value.int x)) else bif Nat.beq 2 2 && (x == 0 || x == 1) then some (some (.int x)) else none) = _
      rw [h01]
      rfl
  next a =>
    obtain ⟨w1, vs1, rfl, g1, g2⟩ := aGl_cons hs
    cases aGl_nil g2
    obtain ⟨h0, e⟩ := xbif e
    cases e
    simp only [Bool.and_eq_true] at h0
    obtain ⟨x, rfl⟩ := aSomeL h0.2 g1
    exact ⟨fun _ _ _ => rfl, fun _ => rfl, fun _ _ _ _ => rfl, some (.long x), by simp only [xrt, h0.1, cond_true], g1⟩
  next => cases e
theorem atk_ok : ∀ (n : Nat) {acc as rest ast : List aV} {cacc st : List Value}, atk n acc ast = some (as, rest) → aGl acc cacc → aGl ast st → ∃ cas crest, xtk n cacc st = some (cas, crest) ∧ aGl as cas ∧ aGl rest crest
  | 0, acc, as, rest, ast, cacc, st, h, h1, h2 => by
    simp only [atk, Option.some.injEq, Prod.mk.injEq] at h
    obtain ⟨rfl, rfl⟩ := h
    exact ⟨cacc, st, rfl, h1, h2⟩
  | n + 1, acc, as, rest, [], cacc, st, h, h1, h2 => by simp [atk] at h
  | n + 1, acc, as, rest, a :: ast, cacc, st, h, h1, h2 => by
    obtain ⟨w, vs, rfl, g1, g2⟩ := aGl_cons h2
    rw [atk] at h
    exact atk_ok n h (cacc := w :: cacc) ⟨g1, h1⟩ g2
theorem acs_ok : ∀ {as : List aV} {vs : List Value}, aGl as vs → xcs vs = acs as
  | [], [], _ => rfl
  | [], _ :: _, h => absurd h (by simp [aGl])
  | _ :: _, [], h => absurd h (by simp [aGl])
  | a :: as, v :: vs, h => by
    have := acs_ok h.2
    unfold xcs acs at this ⊢
    rw [List.map_cons, List.sum_cons, List.map_cons, List.sum_cons, this, acat_ok h.1]
theorem alv_ok : ∀ {as : List aV} {vs : List Value} (k : Nat), aGl as vs → aGL (alv k as) (lv_args k vs)
  | [], [], k, _ => by simp [alv, lv_args, aGL]
  | [], _ :: _, _, h => absurd h (by simp [aGl])
  | _ :: _, [], _, h => absurd h (by simp [aGl])
  | a :: as, v :: vs, k, h => by
    simp only [alv, lv_args, acat_ok h.1]
    exact ⟨⟨rfl, h.1⟩, alv_ok _ h.2⟩
set_option maxRecDepth 100000 in
theorem xCY_ok : xall (fun own idx _ => (xtb xY own idx).isNone) 0 xC = true := by decide +kernel
theorem xay_none {own idx : Nat} {a : Nat × Nat × Nat × Nat} (h : xtb xC own idx = some a) (st : List Value) (hp : xH) : xay own (.invokestatic idx) st hp = none := by
  have h1 : (xtb xY own idx).isNone = true := xtb_ok xCY_ok h
  have h2 := Option.isNone_iff_eq_none.mp h1
  unfold xay
  split
  next idx' n dp rd sp rs rest heq =>
    cases heq
    rw [h2]
  next => rfl
theorem aca_ok {own : Nat} {i : Instr} {ast : List aV} {ah : aH} {yk : Nat} {as rest : List aV} {st : List Value} {h : xH} (e : aca own i ast ah = some (yk, as, rest)) (hs : aGl ast st) (hh : aGH ah h) :
    (∀ own nL ls, xs1 own nL i ls st = none) ∧ (∀ pc, xbr i pc st = none) ∧ (∀ ro own kind, xho ro own kind i st h = none) ∧ (∀ ret, xrt ret i st = none) ∧ xob own i st = none ∧ xmm own i st = none ∧ xay own i st h = none ∧
    ∃ cas crest, xca own i st h = some (yk, cas, crest) ∧ aGl as cas ∧ aGl rest crest := by
  have hw : xOw ≤ xMx ∧ xOw ≤ xMn := by decide
  unfold aca at e
  split at e
  next idx =>
    split at e
    next y n pl nest hf =>
      split at e
      next o w1 kind w2 as0 r rest0 hm htk =>
        split at e
        next t fs hc =>
          obtain ⟨hz, e⟩ := xbif e
          cases e
          obtain ⟨cas, crest, c1, c2, c3⟩ := atk_ok n htk (cacc := []) (by simp [aGl]) hs
          obtain ⟨w, vs, rfl, g1, g2⟩ := aGl_cons c3
          cases g1
          obtain ⟨vs', d1, d2⟩ := aGH_get hh hc
          exact ⟨fun _ _ _ => rfl, fun _ => rfl, fun _ _ _ => rfl, fun _ => rfl, rfl, rfl, rfl, .ref r :: cas, vs, by simp only [xca, hf, hm, c1, d1, hz, cond_true], ⟨rfl, c2⟩, g2⟩
        next => cases e
      next => cases e
    next => cases e
  next idx =>
    split at e
    next y n pl nest hf =>
      split at e
      next o w1 kind w2 as0 rest0 hm htk =>
        obtain ⟨hz, e⟩ := xbif e
        cases e
        obtain ⟨cas, crest, c1, c2, c3⟩ := atk_ok n htk (cacc := []) (by simp [aGl]) hs
        refine ⟨fun _ _ _ => rfl, fun _ => rfl, fun _ _ _ => rfl, fun _ => rfl, rfl, ?_, xay_none hf _ _, cas, crest, by simp only [xca, hf, hm, c1, hz, cond_true], c2, c3⟩
        simp only [Bool.and_eq_true] at hz
        have hlt := Nat.blt_eq.mp hz.1.1
        have e1 : Nat.beq yk xMx = false := by
          cases hb : Nat.beq yk xMx with
          | false => rfl
          | true => have := Nat.eq_of_beq_eq_true hb; omega
        have e2 : Nat.beq yk xMn = false := by
          cases hb : Nat.beq yk xMn with
          | false => rfl
          | true => have := Nat.eq_of_beq_eq_true hb; omega
        unfold xmm
        split
        next idx' y' x' rest' heq =>
          cases heq
          rw [hf]
          dsimp only
          rw [e1, e2, cond_false, cond_false]
          cases Nat.beq nest 0 <;> rfl
        next => rfl
      next => cases e
    next => cases e
  next => cases e
theorem amm_ok {own : Nat} {i : Instr} {ast rest : List aV} {st : List Value} (e : amm own i ast = some rest) (hs : aGl ast st) :
    (∀ own nL ls, xs1 own nL i ls st = none) ∧ (∀ pc, xbr i pc st = none) ∧ (∀ ro own kind h, xho ro own kind i st h = none) ∧ (∀ ret, xrt ret i st = none) ∧ xob own i st = none ∧ ∃ crest, xmm own i st = some crest ∧ aGl rest crest := by
  unfold amm at e
  split at e
  next idx b a rest0 =>
    obtain ⟨w1, vs1, rfl, g1, g2⟩ := aGl_cons hs
    obtain ⟨w2, vs2, rfl, g3, g4⟩ := aGl_cons g2
    split at e
    next m n9 p9 nest hf =>
      split at e
      next y x hy hx =>
        cases aex_ok hy g1
        cases aex_ok hx g3
        obtain ⟨h0, e⟩ := xbif e
        refine ⟨fun _ _ _ => rfl, fun _ => rfl, fun _ _ _ _ => rfl, fun _ => rfl, rfl, ?_⟩
        simp only [xmm, hf, h0, cond_true]
        cases hz : Nat.beq m xMx with
        | true => rw [hz] at e; cases e; exact ⟨_, rfl, rfl, g4⟩
        | false =>
          rw [hz, cond_false] at e
          obtain ⟨h2, e⟩ := xbif e
          cases e
          rw [cond_false, h2]
          exact ⟨_, rfl, rfl, g4⟩
      next => cases e
    next => cases e
  next => cases e
theorem ax_ok {aro : List (List aV)} {ro : List (List Int32)} (hro : aGr aro ro) : ∀ (n : Nat) {d : Nat} {q : xQ} {pc : Nat} {als : aL} {ast : List aV} {ah : aH} {ra : Option aV} {ha : aH}, ax aro n d q pc als ast ah = some (ra, ha) →
    ∀ {ls : xL} {st : List Value} {h : xH}, aGL als ls → aGl ast st → aGH ah h → ∃ r h2, ev ro n d q pc ls st h = some (r, h2) ∧ aGo ra r ∧ aGH ha h2 := by
  intro n
  induction n with
  | zero => intro d q pc als ast ah ra ha e; simp [ax] at e
  | succ n ih =>
    intro d q pc als ast ah ra ha e ls st h hl hs hh
    rw [ax] at e
    rw [ev]
    split at e
    next => cases e
    next i hi =>
      rw [hi]
      dsimp only
      split at e
      next als' ast' h1 =>
        obtain ⟨ls', st', e1, e2, e3⟩ := as1_ok h1 hl hs
        rw [e1]
        exact ih e e2 e3 hh
      next =>
        split at e
        next pc' ast' h1 =>
          obtain ⟨n1, st', e1, e2⟩ := abr_ok h1 hs
          rw [n1, e1]
          exact ih e hl e2 hh
        next =>
          split at e
          next ast' ah' h1 =>
            obtain ⟨n1, n2, st', h', e1, e2, e3⟩ := aho_ok hro h1 hs hh
            rw [n1, n2, e1]
            exact ih e hl e2 e3
          next =>
            split at e
            next r1 h1 =>
              cases e
              obtain ⟨n1, n2, n3, r, e1, e2⟩ := art_ok h1 hs
              rw [n1, n2, n3, e1]
              exact ⟨r, h, rfl, e2, hh⟩
            next =>
              split at e
              next => cases e
              next d' =>
               split at e
               next rest hmm =>
                 obtain ⟨hz, e⟩ := xbif e
                 obtain ⟨n1, n2, n3, n4, n5, crest, e1, e2⟩ := amm_ok hmm hs
                 rw [n1, n2, n3, n4]
                 dsimp only
                 rw [n5, e1]
                 dsimp only
                 rw [acs_ok e2, hz]
                 exact ih e hl e2 hh
               next =>
                split at e
                next => cases e
                next yk as rest hca =>
                  split at e
                  next => cases e
                  next q' hq' =>
                    obtain ⟨hz, e⟩ := xbif e
                    simp only [Bool.and_eq_true] at hz
                    obtain ⟨n1, n2, n3, n4, n5, n6, n7, cas, crest, e1, e2, e3⟩ := aca_ok hca hs hh
                    rw [n1, n2, n3, n4]
                    dsimp only
                    rw [n5, n6, n7, e1]
                    dsimp only
                    rw [hq']
                    dsimp only
                    rw [acs_ok e3, acs_ok e2, hz.1, hz.2]
                    split at e
                    next => cases e
                    next r1 ah1 he1 =>
                      obtain ⟨r2, h3, f1, f2, f3⟩ := ih he1 (alv_ok 0 e2) (st := []) (by simp [aGl]) hh
                      rw [f1]
                      refine ih e hl ?_ f3
                      cases r1 with
                      | none =>
                        cases r2 with
                        | none => exact e3
                        | some v => exact absurd f2 (by simp [aGo])
                      | some a =>
                        cases r2 with
                        | none => exact absurd f2 (by simp [aGo])
                        | some v => exact ⟨f2, e3⟩
theorem ev_more {ro : List (List Int32)} : ∀ (n : Nat) {d : Nat} {q : xQ} {pc : Nat} {ls : xL} {st : List Value} {h : xH} {x : Option Value × xH}, ev ro n d q pc ls st h = some x → ev ro (n + 1) d q pc ls st h = some x := by
  intro n
  induction n with
  | zero => intro d q pc ls st h x e; simp [ev] at e
  | succ n ih =>
    intro d q pc ls st h x e
    rw [ev] at e
    rw [ev]
    split at e
    next => cases e
    next i hi =>
      try rw [hi]
      try dsimp only
      split at e
      next ls' st' h1 => (try rw [h1]); exact ih e
      next h1 =>
        try rw [h1]
        try dsimp only
        split at e
        next pc' st' h2 => (try rw [h2]); exact ih e
        next h2 =>
          try rw [h2]
          try dsimp only
          split at e
          next st' h' h3 => (try rw [h3]); exact ih e
          next h3 =>
            try rw [h3]
            try dsimp only
            split at e
            next r h4 => (try rw [h4]); exact e
            next h4 =>
              try rw [h4]
              try dsimp only
              split at e
              next => cases e
              next d' =>
                split at e
                next rest h5 =>
                  obtain ⟨hz, e⟩ := xbif e
                  try rw [h5]
                  try dsimp only
                  rw [hz, cond_true]
                  exact ih e
                next h5 =>
                  try rw [h5]
                  try dsimp only
                  split at e
                  next rest h6 =>
                    obtain ⟨hz, e⟩ := xbif e
                    try rw [h6]
                    try dsimp only
                    rw [hz, cond_true]
                    exact ih e
                  next h6 =>
                   try rw [h6]
                   try dsimp only
                   split at e
                   next rest h' h7 =>
                     obtain ⟨hz, e⟩ := xbif e
                     try rw [h7]
                     try dsimp only
                     rw [hz, cond_true]
                     exact ih e
                   next h7 =>
                    try rw [h7]
                    try dsimp only
                    split at e
                    next => cases e
                    next yk as rest hca =>
                      try rw [hca]
                      try dsimp only
                      split at e
                      next => cases e
                      next q' hq' =>
                        obtain ⟨hz, e⟩ := xbif e
                        try rw [hq']
                        try dsimp only
                        rw [hz, cond_true]
                        split at e
                        next => cases e
                        next r1 h' he1 =>
                          rw [ih he1]
                          exact ih e
theorem ev_mores {ro : List (List Int32)} {n : Nat} (k : Nat) {d : Nat} {q : xQ} {pc : Nat} {ls : xL} {st : List Value} {h : xH} {x : Option Value × xH} (e : ev ro n d q pc ls st h = some x) : ev ro (n + k) d q pc ls st h = some x := by
  induction k with
  | zero => exact e
  | succ k ih => exact ev_more _ ih
