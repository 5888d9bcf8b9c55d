noncomputable section
/-! the bounded machine is sound: copies, distances, fields, outcomes, open loops -/
theorem jcpy_len (vs ws : List Value) (a b n : Nat) : (xcpy vs ws a b n).length = ws.length := by simp [xcpy]
theorem xcpy_in {vs ws : List Value} {a b n : Nat} {P : Value → Prop} (h1 : ∀ v ∈ vs, P v) (h2 : ∀ v ∈ ws, P v) (h3 : a + n ≤ vs.length) : ∀ v ∈ xcpy vs ws a b n, P v := by
  intro v hv
  unfold xcpy at hv
  obtain ⟨k, hk, e⟩ := List.mem_map.mp hv
  have hk := List.mem_range.mp hk
  split at e
  next hc =>
    rw [List.getD_eq_getElem?_getD, List.getElem?_eq_getElem (by omega : a + (k - b) < vs.length)] at e
    exact e ▸ h1 _ (List.getElem_mem _)
  next hc =>
    rw [List.getD_eq_getElem?_getD, List.getElem?_eq_getElem hk] at e
    exact e ▸ h2 _ (List.getElem_mem _)
theorem jclamp {x : Int32} (h : 0 ≤ x.toInt) : (x.toNatClampNeg : Int) = x.toInt := by
  have h9 : (x.toNatClampNeg : Int) = ((x.toInt.toNat : Nat) : Int) := rfl
  omega
theorem jnneg {x : Int32} (h : 0 ≤ x.toInt) : ¬ x < 0 := fun z => by
  have := Int32.lt_iff_toInt_lt.mp z
  have h3 : (0 : Int32).toInt = 0 := by decide
  omega
theorem jay_ok {G : jGt} {W : List (Nat × Nat)} {own : Nat} {i : Instr} {ast rest : List jV} {w : jP} {g g' : jS} {st : List Value} {p : xH} (h : jSt G w g p) (e : jay G W own i ast g = some (rest, g')) (hs : jSl w ast st) :
    (∀ own nL ls, xs1 own nL i ls st = none) ∧ (∀ pc, xbr i pc st = none) ∧ (∀ ro own kind h, xho ro own kind i st h = none) ∧ (∀ ret, xrt ret i st = none) ∧ xob own i st = none ∧ xmm own i st = none ∧ ∃ crest p', xay own i st p = some (crest, p') ∧ jSt G w g' p' ∧ jSl w rest crest ∧ (∀ p0, jWf W p0 p → jWf W p0 p') := by
  unfold jay at e
  split at e
  next idx n dp rd sp rs rest0 =>
    obtain ⟨v1, vs1, rfl, g1, g2⟩ := hs.cons
    obtain ⟨v2, vs2, rfl, g3, g4⟩ := g2.cons
    obtain ⟨v3, vs3, rfl, g5, g6⟩ := g4.cons
    obtain ⟨v4, vs4, rfl, g7, g8⟩ := g6.cons
    obtain ⟨v5, vs5, rfl, g9, g10⟩ := g8.cons
    cases g5
    cases g9
    split at e
    next yp b0 b1 q hY h0 h1 hq =>
      obtain ⟨hz, e⟩ := xbif e
      cases e
      simp only [Bool.and_eq_true, decide_eq_true_eq] at hz
      obtain ⟨⟨⟨⟨⟨z1, z2⟩, z3⟩, z4⟩, z5⟩, z6⟩ := hz
      obtain ⟨n, rfl, n0, n1⟩ := (jin_ok h.2.1 z1 g1).int
      obtain ⟨sp, rfl, s0, s1⟩ := (jin_ok h.2.1 z2 g7).int
      obtain ⟨dp, rfl, d0, d1⟩ := (jin_ok h.2.1 z3 g3).int
      have hn := (jbd_ok h.2.1 hq g1).2.2
      have hn : n.toInt ≤ q.2.2 := hn
      obtain ⟨⟨c0, vs⟩, e0, k0, k1⟩ := h.2.2.2.2 _ _ h0
      obtain ⟨⟨c1, ws⟩, e1, l0, l1⟩ := h.2.2.2.2 _ _ h1
      have k0 : c0 = 102 := k0
      have l0 : c1 = 102 := l0
      subst k0 l0
      have k1 : vs.length = b0.1 ∧ ∀ v ∈ vs, jI 1 b0.2.1 b0.2.2 v := k1
      have l1 : ws.length = b1.1 ∧ ∀ v ∈ ws, jI 1 b1.2.1 b1.2.2 v := l1
      have cn := jclamp n0
      have cs := jclamp s0
      have cd := jclamp d0
      have t1 : sp.toNatClampNeg + n.toNatClampNeg ≤ vs.length := by rw [k1.1]; omega
      have t2 : dp.toNatClampNeg + n.toNatClampNeg ≤ ws.length := by rw [l1.1]; omega
      have hxa : xay own (.invokestatic idx) (.int n :: .int dp :: .ref rd :: .int sp :: .ref rs :: vs5) p = some (vs5, p.set rd (102, xcpy vs ws sp.toNatClampNeg dp.toNatClampNeg n.toNatClampNeg)) := by
        simp only [xay, hY, e0, e1]
        have hneg : ¬ (sp < 0 ∨ dp < 0 ∨ n < 0) := by
          rintro (z | z | z)
          · exact jnneg s0 z
          · exact jnneg d0 z
          · exact jnneg n0 z
        rw [show (Nat.beq 102 102 && Nat.beq 102 102 && Nat.ble (sp.toNatClampNeg + n.toNatClampNeg) vs.length && Nat.ble (dp.toNatClampNeg + n.toNatClampNeg) ws.length) = true from by rw [Nat.ble_eq.mpr t1, Nat.ble_eq.mpr t2]; rfl, cond_true, if_neg hneg]
      have hxc : xtb xC own idx = none := by
        cases hc : xtb xC own idx with
        | none => rfl
        | some a =>
          have := xay_none hc (.int n :: .int dp :: .ref rd :: .int sp :: .ref rs :: vs5) p
          rw [hxa] at this
          cases this
      have hok : gOk (102, .inr b1) (102, xcpy vs ws sp.toNatClampNeg dp.toNatClampNeg n.toNatClampNeg) := by
        refine ⟨rfl, ?_⟩
        show (xcpy vs ws _ _ _).length = b1.1 ∧ ∀ v ∈ xcpy vs ws _ _ _, jI 1 b1.2.1 b1.2.2 v
        refine ⟨by rw [jcpy_len]; exact l1.1, xcpy_in (fun v hv => ?_) l1.2 t1⟩
        obtain ⟨i1, i2, i3⟩ := k1.2 v hv
        exact ⟨i1, by omega, by omega⟩
      refine ⟨fun _ _ _ => rfl, fun _ => rfl, fun _ _ _ _ => rfl, fun _ => rfl, ?_, ?_, vs5, _, hxa, ⟨h.1, h.2.1, fun q hq => ?_, fun q hq => ?_, GH_set h.2.2.2.2 h1 hok⟩, g10, fun p0 hp => hp.set e1 rfl (jcpy_len _ _ _ _ _) (fun k hk => by rw [jwa_w z4 k] at hk; cases hk)⟩
      · unfold xob; split <;> first | rfl | (cases ‹Instr.invokestatic _ = _›)
      · simp only [xmm, hxc]
      · obtain ⟨m1, m2⟩ := List.mem_filter.mp hq
        exact (h.2.2.1 q m1).other (jnb1 m2)
      · obtain ⟨m1, m2⟩ := List.mem_filter.mp hq
        exact (h.2.2.2.1 q m1).other (jnb1 m2)
    next => cases e
  next => cases e
/-! distances -/
theorem jad_ok {w : jP} {g : jS} (h : jT w g.2.1) {a b : jV} {k : Int} {v : Value} (e : jad g a = some (b, k)) (hv : jR w a v) : ∃ u, jR w b u ∧ jz v = jz u + k := by
  unfold jad at e
  split at e
  next s =>
    split at e
    next q hq =>
      obtain ⟨u, u1, u2, u3⟩ := jrow_of h hq
      cases hv.one (show jR w (.inr s) u from u1)
      split at e
      next b1 c hd =>
        rw [hd] at u3
        obtain ⟨x, y, d1, d2, -, d4⟩ := u3
        obtain ⟨d5, d6, d7⟩ := d4 (fun z => by cases z)
        have d2 : y = .int c := d2
        subst d2
        split at e
        next p hp =>
          obtain ⟨hz, e⟩ := xbif e
          cases e
          simp only [Bool.and_eq_true, decide_eq_true_eq] at hz
          have i1 := jbd_ok h hp d1
          obtain ⟨x, rfl, -⟩ := (show jI 0 (jz x) (jz x) x from ⟨d6, Int.le_refl _, Int.le_refl _⟩).int
          have d5 : some (Value.int (x + c)) = some v := d5
          cases d5
          have x1 : p.2.1 ≤ x.toInt := i1.2.1
          have x2 : x.toInt ≤ p.2.2 := i1.2.2
          refine ⟨.int x, d1, ?_⟩
          show (x + c).toInt = x.toInt + c.toInt
          rw [Int32.toInt_add]
          exact Int.bmod_eq_of_le (by omega) (by omega)
        next => cases e
      next b1 c hd =>
        rw [hd] at u3
        obtain ⟨x, y, d1, d2, -, d4⟩ := u3
        obtain ⟨d5, d6, d7⟩ := d4 (fun z => by cases z)
        have d2 : y = .int c := d2
        subst d2
        split at e
        next p hp =>
          obtain ⟨hz, e⟩ := xbif e
          cases e
          simp only [Bool.and_eq_true, decide_eq_true_eq] at hz
          have i1 := jbd_ok h hp d1
          obtain ⟨x, rfl, -⟩ := (show jI 0 (jz x) (jz x) x from ⟨d6, Int.le_refl _, Int.le_refl _⟩).int
          have d5 : some (Value.int (x - c)) = some v := d5
          cases d5
          have x1 : p.2.1 ≤ x.toInt := i1.2.1
          have x2 : x.toInt ≤ p.2.2 := i1.2.2
          refine ⟨.int x, d1, ?_⟩
          show (x - c).toInt = x.toInt + -c.toInt
          rw [Int32.toInt_sub, ← Int.sub_eq_add_neg]
          exact Int.bmod_eq_of_le (by omega) (by omega)
        next => cases e
      next => cases e
    next => cases e
  next => cases e
theorem jof_ok {w : jP} {g : jS} (h : jT w g.2.1) {a : jV} {d : jD} {v : Value} (e : jof g a = some d) (hv : jR w a v) : jDf w (some d) v := by
  unfold jof at e
  split at e
  next s =>
    split at e
    next q hq =>
      obtain ⟨u, u1, u2, u3⟩ := jrow_of h hq
      cases hv.one (show jR w (.inr s) u from u1)
      rw [e] at u3
      exact u3
    next => cases e
  next => cases e
theorem jor2 {a b : Bool} (h : (a || b) = true) : a = true ∨ b = true := Bool.or_eq_true_iff.mp h
theorem jdl_b {w : jP} {g : jS} (h : jT w g.2.1) {v b : jV} {x y : Value} {t : Int} (hx : jR w v x) (hy : jR w b y) (e : (match jbd g v, jbd g b with | some p, some q => decide (t ≤ p.2.1 - q.2.2) | _, _ => false) = true) : t ≤ jz x - jz y := by
  split at e
  next p q h1 h2 =>
    have := (jbd_ok h h1 hx).2.1
    have := (jbd_ok h h2 hy).2.2
    have := of_decide_eq_true e
    omega
  next => cases e
theorem jdl_c {w : jP} {g : jS} (h : jT w g.2.1) {v b : jV} {x y : Value} {t : Int} (e : (match v, b with
      | .inr _, .inr _ => decide (t ≤ 1) && (match jvn g.2.1 (some (23, b, v)) with
        | some z => (match jbd g (.inr z) with
          | some p => decide (p.2.2 ≤ -1)
          | none => false)
        | none => false)
      | _, _ => false) = true) (hx : jR w v x) (hy : jR w b y) : t ≤ jz x - jz y := by
  split at e
  next s u =>
    rw [Bool.and_eq_true] at e
    have ht := of_decide_eq_true e.1
    have e := e.2
    split at e
    next z hz =>
      split at e
      next pp hp =>
        obtain ⟨q, m1, m2⟩ := jvn_ok hz
        obtain ⟨c, u1, u2, u3⟩ := h _ m1
        rw [m2] at u3
        obtain ⟨x', y', d1, d2, -, d4⟩ := u3
        obtain ⟨d5, -, -⟩ := d4 (fun z => by cases z)
        cases hy.one d1
        cases hx.one d2
        have hb := (jbd_ok h hp (show jR w (.inr z) c from u1)).2.2
        have hd := of_decide_eq_true e
        obtain ⟨a1, a2, rfl, rfl⟩ := jop23i d5
        by_cases hlt : a1.toInt < a2.toInt
        · show t ≤ a2.toInt - a1.toInt
          omega
        · have := ((jop23 d5).2 (by omega)).1
          omega
      next => cases e
    next => cases e
  next => cases e
theorem jdl_e {v b : jV} {t : Int} {w : jP} {x y : Value} (hx : jR w v x) (hy : jR w b y) (e : (jve v b && decide (t ≤ 0)) = true) : t ≤ jz x - jz y := by
  rw [Bool.and_eq_true] at e
  have := jve_ok e.1
  subst this
  cases hx.one hy
  have := of_decide_eq_true e.2
  omega
theorem jdl_ok {w : jP} {g : jS} (h : jT w g.2.1) : ∀ (n : Nat) {v b : jV} {t : Int} {x y : Value}, jR w v x → jR w b y → jdl n g v b t = true → t ≤ jz x - jz y := by
  intro n
  induction n with
  | zero =>
    intro v b t x y hx hy e
    unfold jdl at e
    dsimp only at e
    rcases jor2 e with e | e
    · exact jdl_e hx hy e
    · rcases jor2 e with e | e
      · cases e
      · rcases jor2 e with e | e
        · exact jdl_b h hx hy e
        · rcases jor2 e with e | e
          · cases e
          · exact jdl_c h e hx hy
  | succ n ih =>
    intro v b t x y hx hy e
    unfold jdl at e
    dsimp only at e
    rcases jor2 e with e | e
    · exact jdl_e hx hy e
    · rcases jor2 e with e | e
      · split at e
        next a c hd =>
          obtain ⟨x', y', d1, d2, d3, -⟩ := jof_ok h hd hx
          have d3 := (d3 rfl).2
          have := ih d1 hy e
          omega
        next =>
          split at e
          next z hz =>
            obtain ⟨u, u1, u2⟩ := jad_ok (b := z.1) (k := z.2) h hz hx
            have := ih u1 hy e
            omega
          next => cases e
      · rcases jor2 e with e | e
        · exact jdl_b h hx hy e
        · rcases jor2 e with e | e
          · split at e
            next z hz =>
              obtain ⟨u, u1, u2⟩ := jad_ok (b := z.1) (k := z.2) h hz hy
              have := ih hx u1 e
              omega
            next => cases e
          · exact jdl_c h e hx hy
theorem jdu_ok {w : jP} {g : jS} (h : jT w g.2.1) : ∀ (n : Nat) {v b : jV} {t : Int} {x y : Value}, jR w v x → jR w b y → jdu n g v b t = true → jz x - jz y ≤ t := by
  have he : ∀ {v b : jV} {t : Int} {x y : Value}, jR w v x → jR w b y → (jve v b && decide (0 ≤ t)) = true → jz x - jz y ≤ t := fun {v b t x y} hx hy e => by
    rw [Bool.and_eq_true] at e
    have := jve_ok e.1
    subst this
    cases hx.one hy
    have := of_decide_eq_true e.2
    omega
  have hb : ∀ {v b : jV} {t : Int} {x y : Value}, jR w v x → jR w b y → (match jbd g v, jbd g b with | some p, some q => decide (p.2.2 - q.2.1 ≤ t) | _, _ => false) = true → jz x - jz y ≤ t := fun {v b t x y} hx hy e => by
    split at e
    next p q h1 h2 =>
      have := (jbd_ok h h1 hx).2.2
      have := (jbd_ok h h2 hy).2.1
      have := of_decide_eq_true e
      omega
    next => cases e
  intro n
  induction n with
  | zero =>
    intro v b t x y hx hy e
    unfold jdu at e
    dsimp only at e
    rcases jor2 e with e | e
    · exact he hx hy e
    · rcases jor2 e with e | e
      · exact hb hx hy e
      · cases e
  | succ n ih =>
    intro v b t x y hx hy e
    unfold jdu at e
    dsimp only at e
    rcases jor2 e with e | e
    · exact he hx hy e
    · rcases jor2 e with e | e
      · exact hb hx hy e
      · split at e
        next x0 y0 hd =>
          obtain ⟨x', y', d1, d2, -, d4⟩ := jof_ok h hd hx
          obtain ⟨d5, d6, d7⟩ := d4 (fun z => by cases z)
          obtain ⟨a1, rfl, -⟩ := (show jI 0 (jz x') (jz x') x' from ⟨d6, Int.le_refl _, Int.le_refl _⟩).int
          obtain ⟨a2, rfl, -⟩ := (show jI 0 (jz y') (jz y') y' from ⟨d7, Int.le_refl _, Int.le_refl _⟩).int
          have d5 : some (Value.int (a1 &&& a2)) = some x := d5
          cases d5
          rcases jor2 e with e | e
          · split at e
            next pp hp =>
              rw [Bool.and_eq_true] at e
              have hz := of_decide_eq_true e.1
              have i1 : pp.2.1 ≤ a1.toInt := (jbd_ok h hp d1).2.1
              have := ih d1 hy e.2
              have h2 := (jand_1 (x := a1) (y := a2) (by omega)).2
              have h3 : jz (.int a1) = a1.toInt := rfl
              show (a1 &&& a2).toInt - jz y ≤ t
              omega
            next => cases e
          · split at e
            next pp hp =>
              rw [Bool.and_eq_true] at e
              have hz := of_decide_eq_true e.1
              have i1 : pp.2.1 ≤ a2.toInt := (jbd_ok h hp d2).2.1
              have := ih d2 hy e.2
              have h2 := (jand_2 (x := a1) (y := a2) (by omega)).2
              have h3 : jz (.int a2) = a2.toInt := rfl
              show (a1 &&& a2).toInt - jz y ≤ t
              omega
            next => cases e
        next =>
          split at e
          next z hz =>
            obtain ⟨u, u1, u2⟩ := jad_ok (b := z.1) (k := z.2) h hz hx
            have := ih u1 hy e
            omega
          next => cases e
/-! fields that are to be there; new numbers for fields -/
def jFv (w : jP) (p : xH) : List jFd → List jV → Prop
  | [], [] => True
  | f :: fs, e :: es => (∃ c v, p[f.1.1]? = some c ∧ c.2[f.1.2]? = some v ∧ jR w e v) ∧ jFv w p fs es
  | _, _ => False
theorem jFv.mono {w w' : jP} (h : jLe w w') {p : xH} : ∀ {fs : List jFd} {es : List jV}, jFv w p fs es → jFv w' p fs es
  | [], [], _ => trivial
  | [], _ :: _, k => absurd k (by simp [jFv])
  | _ :: _, [], k => absurd k (by simp [jFv])
  | f :: fs, e :: es, k => by
    obtain ⟨⟨c, v, h1, h2, h3⟩, k2⟩ := k
    exact ⟨⟨c, v, h1, h2, h3.mono h⟩, k2.mono h⟩
theorem jfs_ok {G : jGt} {p : xH} : ∀ {fs : List jFd} {w : jP} {g g' : jS} {es : List jV}, jSt G w g p → jfs G g fs = some (es, g') → ∃ w', jLe w w' ∧ jSt G w' g' p ∧ jFv w' p fs es
  | [], w, g, g', es, h, e => by cases e; exact ⟨w, jLe.refl w, h, trivial⟩
  | f :: fs, w, g, g', es, h, e => by
    unfold jfs at e
    split at e
    next z hz =>
      obtain ⟨u, hu, e⟩ := xmap e
      cases e
      obtain ⟨c, v, w1, c1, c2, l1, l2, l3⟩ := jfl_ok h hz
      obtain ⟨w2, m1, m2, m3⟩ := jfs_ok l2 hu
      exact ⟨w2, l1.trans m1, m2, ⟨c, v, c1, c2, l3.mono m1⟩, m3⟩
    next => cases e
def jFn (w : jP) (p : xH) : List jFd → List jV → List Value → Prop
  | [], [], [] => True
  | f :: fs, e :: es, v :: vs => (∃ c, p[f.1.1]? = some c ∧ c.2[f.1.2]? = some v) ∧ jI 0 f.2.1 f.2.2.1 v ∧ (f.2.2.2 = true → ∃ u, jR w e u ∧ jk u = jk v ∧ jz u ≤ jz v) ∧ jFn w p fs es vs
  | _, _, _ => False
theorem jFn.mono {w w' : jP} (h : jLe w w') {p : xH} : ∀ {fs : List jFd} {es : List jV} {vs : List Value}, jFn w p fs es vs → jFn w' p fs es vs
  | [], [], [], _ => trivial
  | f :: fs, e :: es, v :: vs, k => by
    obtain ⟨k1, k2, k3, k4⟩ := k
    exact ⟨k1, k2, fun z => by obtain ⟨u, u1, u2⟩ := k3 z; exact ⟨u, u1.mono h, u2⟩, k4.mono h⟩
  | [], [], _ :: _, k => absurd k (by simp [jFn])
  | [], _ :: _, [], k => absurd k (by simp [jFn])
  | [], _ :: _, _ :: _, k => absurd k (by simp [jFn])
  | _ :: _, [], [], k => absurd k (by simp [jFn])
  | _ :: _, [], _ :: _, k => absurd k (by simp [jFn])
  | _ :: _, _ :: _, [], k => absurd k (by simp [jFn])
theorem jnf_ok {G : jGt} {p : xH} : ∀ {fs : List jFd} {es : List jV} {vs : List Value} {w : jP} {g : jS}, jSt G w g p → jFn w p fs es vs → jSt G (w ++ vs.map Sum.inl) (jnf g fs es) p
  | [], [], [], w, g, h, _ => by simpa [jnf] using h
  | f :: fs, e :: es, v :: vs, w, g, h, k => by
    obtain ⟨⟨c, c1, c2⟩, k2, k3, k4⟩ := k
    have hd : jDf w (bif f.2.2.2 then some ((0, e, .inl (.int 0)) : jD) else none) v := by
      cases hb : f.2.2.2 with
      | false => trivial
      | true =>
        obtain ⟨u, u1, u2, u3⟩ := k3 hb
        exact ⟨u, .int 0, u1, rfl, fun _ => ⟨u2, u3⟩, fun z => absurd rfl z⟩
    obtain ⟨l1, l2, l3⟩ := h.put1 (r := f.1.1) (k := f.1.2) c1 c2 (q := (0, f.2.1, f.2.2.1, bif f.2.2.2 then some (0, e, .inl (.int 0)) else none)) k2 hd
    have := jnf_ok l2 (k4.mono l1)
    rw [List.map_cons, show w ++ Sum.inl v :: vs.map Sum.inl = (w ++ [Sum.inl v]) ++ vs.map Sum.inl by simp]
    exact this
  | [], [], _ :: _, _, _, _, k => absurd k (by simp [jFn])
  | [], _ :: _, [], _, _, _, k => absurd k (by simp [jFn])
  | [], _ :: _, _ :: _, _, _, _, k => absurd k (by simp [jFn])
  | _ :: _, [], [], _, _, _, k => absurd k (by simp [jFn])
  | _ :: _, [], _ :: _, _, _, _, k => absurd k (by simp [jFn])
  | _ :: _, _ :: _, [], _, _, _, k => absurd k (by simp [jFn])
/-- what is forgotten behind a call -/
theorem jwr_w {W : List (Nat × Nat)} {r : Nat} (h : jwr W r = false) (k : Nat) : jw W r k = false := by
  unfold jwr at h
  unfold jw
  rw [List.any_eq_false] at h ⊢
  intro x hx
  have := h x hx
  cases hb : Nat.beq x.1 r with
  | true => exact absurd hb this
  | false => simp
theorem jdr_ok {G : jGt} {W : List (Nat × Nat)} {w : jP} {g : jS} {p p' : xH} (h : jSt G w g p) (hG : GH G p') (hW : jWf W p p') : jSt G w (jdr W g) p' := by
  have cell : ∀ {r : Nat} {c : xE}, p[r]? = some c → ∃ c', p'[r]? = some c' := fun {r c} hc => by
    have h1 : (p'.map fun c => (c.1, c.2.length))[r]? = (p.map fun c => (c.1, c.2.length))[r]? := by rw [hW.1]
    rw [List.getElem?_map, List.getElem?_map, hc] at h1
    cases h2 : p'[r]? with
    | none => rw [h2] at h1; cases h1
    | some c' => exact ⟨c', rfl⟩
  refine ⟨h.1, h.2.1, fun e he => ?_, fun e he => ?_, hG⟩
  · obtain ⟨m1, m2⟩ := List.mem_filter.mp he
    obtain ⟨c, v, h1, h2, h3⟩ := h.2.2.1 e m1
    obtain ⟨c', hc'⟩ := cell h1
    have m2 : jw W e.1.1 e.1.2 = false := by simpa using m2
    exact ⟨c', v, hc', by rw [hW.2 _ _ _ _ h1 hc' m2]; exact h2, h3⟩
  · obtain ⟨m1, m2⟩ := List.mem_filter.mp he
    obtain ⟨c, j, v, h1, h2, h3, h4, h5⟩ := h.2.2.2.1 e m1
    obtain ⟨c', hc'⟩ := cell h1
    have m2 : jwr W e.1.1 = false := by simpa using m2
    exact ⟨c', j, v, hc', h2, h3, by rw [hW.2 _ _ _ _ h1 hc' (jwr_w m2 _)]; exact h4, h5⟩
end
