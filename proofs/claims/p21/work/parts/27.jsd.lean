noncomputable section
/-! the bounded machine is sound: cells -/
def jWf (W : List (Nat × Nat)) (p0 p : xH) : Prop := (p.map fun c => (c.1, c.2.length)) = (p0.map fun c => (c.1, c.2.length)) ∧ ∀ (r k : Nat) (c0 c : xE), p0[r]? = some c0 → p[r]? = some c → jw W r k = false → c.2[k]? = c0.2[k]?
theorem jWf.refl (W : List (Nat × Nat)) (p : xH) : jWf W p p := ⟨rfl, fun r k c0 c h1 h2 _ => by rw [h1] at h2; cases h2; rfl⟩
theorem jset_map {α β : Type} (f : α → β) : ∀ (l : List α) (k : Nat) (c c' : α), l[k]? = some c → f c' = f c → (l.set k c').map f = l.map f
  | [], k, c, c', h, _ => by simp at h
  | a :: l, 0, c, c', h, e => by
    simp only [List.getElem?_cons_zero, Option.some.injEq] at h
    subst h
    simp [e]
  | a :: l, k + 1, c, c', h, e => by
    simp only [List.getElem?_cons_succ] at h
    simp [jset_map f l k c c' h e]
theorem jWf.set {W : List (Nat × Nat)} {p0 p : xH} (h : jWf W p0 p) {r : Nat} {c c' : xE} (hc : p[r]? = some c) (h1 : c'.1 = c.1) (h2 : c'.2.length = c.2.length) (h3 : ∀ k, jw W r k = false → c'.2[k]? = c.2[k]?) : jWf W p0 (p.set r c') := by
  refine ⟨(jset_map _ p r c c' hc (by rw [h1, h2])).trans h.1, fun r' k c0 c1 e0 e1 ew => ?_⟩
  by_cases hr : r = r'
  · subst hr
    rw [List.getElem?_set_self (List.getElem?_eq_some_iff.mp hc).1] at e1
    cases e1
    rw [h3 k ew]
    exact h.2 r k c0 c e0 hc ew
  · rw [List.getElem?_set_ne hr] at e1
    exact h.2 r' k c0 c1 e0 e1 ew
theorem jWf.get {W : List (Nat × Nat)} {p0 p : xH} (h : jWf W p0 p) {r : Nat} {c : xE} (hc : p[r]? = some c) : ∃ c0, p0[r]? = some c0 ∧ c0.1 = c.1 ∧ c0.2.length = c.2.length := by
  have h1 : (p.map fun c => (c.1, c.2.length))[r]? = (p0.map fun c => (c.1, c.2.length))[r]? := by rw [h.1]
  rw [List.getElem?_map, List.getElem?_map, hc] at h1
  cases h0 : p0[r]? with
  | none => rw [h0] at h1; cases h1
  | some c0 =>
    rw [h0] at h1
    have h1 : (c.1, c.2.length) = (c0.1, c0.2.length) := Option.some.inj h1
    cases c; cases c0
    simp only [Prod.mk.injEq] at h1
    exact ⟨_, rfl, h1.1.symm, h1.2.symm⟩
theorem jWf.trans {W V : List (Nat × Nat)} {p0 p p1 : xH} (h : jWf W p0 p) (k : jWf V p p1) (hV : ∀ r j, jw V r j = true → jw W r j = true) : jWf W p0 p1 := by
  refine ⟨k.1.trans h.1, fun r j c0 c1 e0 e1 ew => ?_⟩
  obtain ⟨c, e2, -, -⟩ := k.get e1
  have hv : jw V r j = false := by
    cases hq : jw V r j with
    | false => rfl
    | true => rw [hV r j hq] at ew; cases ew
  rw [k.2 r j c c1 e2 e1 hv]
  exact h.2 r j c0 c e0 e2 ew
theorem jmg_ok : ∀ {m : jM} {r k : Nat} {a : jV}, jmg m r k = some a → ((r, k), a) ∈ m
  | [], _, _, _, h => by cases h
  | q :: t, r, k, a, h => by
    rw [jmg_cons] at h
    cases hb : (Nat.beq q.1.1 r && Nat.beq q.1.2 k) with
    | true =>
      rw [hb] at h
      cases h
      simp only [Bool.and_eq_true] at hb
      have h1 := Nat.eq_of_beq_eq_true hb.1
      have h2 := Nat.eq_of_beq_eq_true hb.2
      subst h1 h2
      exact List.mem_cons_self
    | false => rw [hb] at h; exact List.mem_cons_of_mem _ (jmg_ok h)
/-- a number for what stands in a cell, kept by place -/
theorem jSt.put1 {G : jGt} {w : jP} {g : jS} {p : xH} (h : jSt G w g p) {r k : Nat} {c : xE} {v : Value} (hc : p[r]? = some c) (hv : c.2[k]? = some v) {q : jRow} (h1 : jI q.1 q.2.1 q.2.2.1 v) (h2 : jDf w q.2.2.2 v) :
    jLe w (w ++ [.inl v]) ∧ jSt G (w ++ [.inl v]) (g.1 + 1, (g.1, q) :: g.2.1, ((r, k), .inr g.1) :: g.2.2.1, g.2.2.2) p ∧ jR (w ++ [.inl v]) (.inr g.1) v := by
  obtain ⟨l1, ⟨a1, a2, a3, a4, a5⟩, l3⟩ := jfr_ok h h1 h2
  refine ⟨l1, ⟨a1, a2, fun e he => ?_, a4, a5⟩, l3⟩
  rcases List.mem_cons.mp he with rfl | he
  · exact ⟨c, v, hc, hv, l3⟩
  · exact a3 e he
theorem jSt.put2 {G : jGt} {w : jP} {g : jS} {p : xH} (h : jSt G w g p) {r s : Nat} {j : Int32} {c : xE} {v : Value} (hc : p[r]? = some c) (hj : w[s]? = some (.inl (.int j))) (hj0 : 0 ≤ j.toInt) (hv : c.2[j.toNatClampNeg]? = some v) {q : jRow} (h1 : jI q.1 q.2.1 q.2.2.1 v) (h2 : jDf w q.2.2.2 v) :
    jLe w (w ++ [.inl v]) ∧ jSt G (w ++ [.inl v]) (g.1 + 1, (g.1, q) :: g.2.1, g.2.2.1, ((r, s), .inr g.1) :: g.2.2.2) p ∧ jR (w ++ [.inl v]) (.inr g.1) v := by
  obtain ⟨l1, ⟨a1, a2, a3, a4, a5⟩, l3⟩ := jfr_ok h h1 h2
  refine ⟨l1, ⟨a1, a2, a3, fun e he => ?_, a5⟩, l3⟩
  rcases List.mem_cons.mp he with rfl | he
  · exact ⟨c, j, v, hc, l1.get hj, hj0, hv, l3⟩
  · exact a4 e he
theorem jfl_ok {G : jGt} {w : jP} {g g' : jS} {p : xH} {r k : Nat} {a : jV} (h : jSt G w g p) (e : jfl G g r k = some (a, g')) :
    ∃ c v w', p[r]? = some c ∧ c.2[k]? = some v ∧ jLe w w' ∧ jSt G w' g' p ∧ jR w' a v := by
  unfold jfl at e
  split at e
  next t fs hg =>
    obtain ⟨c, hc, hc1, hc2⟩ := h.2.2.2.2 _ _ hg
    have hc2 : c.2.length = fs.length ∧ ∀ (k : Nat) (b : Value ⊕ (Int × Int)), fs[k]? = some b → ∃ v, c.2[k]? = some v ∧ gFd b v := hc2
    split at e
    next v hf =>
      cases e
      obtain ⟨v', hv', e2⟩ := hc2.2 _ _ hf
      have e2 : v' = v := e2
      subst e2
      exact ⟨c, v', w, hc, hv', jLe.refl w, h, rfl⟩
    next b hf =>
      obtain ⟨v, hv, hi⟩ := hc2.2 _ _ hf
      split at e
      next a0 hm =>
        cases e
        obtain ⟨c', v', m1, m2, m3⟩ := h.2.2.1 _ (jmg_ok hm)
        exact ⟨c', v', w, m1, m2, jLe.refl w, h, jnm_ok h.2.1 m3⟩
      next hm =>
        cases e
        obtain ⟨l1, l2, l3⟩ := h.put1 hc hv (q := (0, b.1, b.2, none)) hi trivial
        exact ⟨c, v, _, hc, hv, l1, l2, l3⟩
    next => cases e
  next => cases e
theorem gOk_set {g : jG1} {c : xE} {fs : List (Value ⊕ (Int × Int))} {k : Nat} {b : Int × Int} {v : Value} (h : gOk g c) (hg : g.2 = .inl fs) (hf : fs[k]? = some (.inr b)) (hv : jI 0 b.1 b.2 v) : gOk g (c.1, c.2.set k v) := by
  obtain ⟨h1, h2⟩ := h
  refine ⟨h1, ?_⟩
  rw [hg] at h2 ⊢
  have h2 : c.2.length = fs.length ∧ ∀ (k : Nat) (b : Value ⊕ (Int × Int)), fs[k]? = some b → ∃ v, c.2[k]? = some v ∧ gFd b v := h2
  refine ⟨by rw [List.length_set]; exact h2.1, fun j b' hj => ?_⟩
  by_cases hk : k = j
  · subst hk
    rw [hf] at hj
    cases hj
    exact ⟨v, List.getElem?_set_self (by rw [h2.1]; exact (List.getElem?_eq_some_iff.mp hf).1), hv⟩
  · rw [List.getElem?_set_ne hk]
    exact h2.2 j b' hj
theorem gOk_seta {g : jG1} {c : xE} {n : Nat} {lo hi : Int} {k : Nat} {v : Value} (h : gOk g c) (hg : g.2 = .inr (n, lo, hi)) (hv : jI (if g.1 = 102 then 1 else 0) lo hi v) : gOk g (c.1, c.2.set k v) := by
  obtain ⟨h1, h2⟩ := h
  refine ⟨h1, ?_⟩
  rw [hg] at h2 ⊢
  have h2 : c.2.length = n ∧ ∀ v ∈ c.2, jI (if g.1 = 102 then 1 else 0) lo hi v := h2
  refine ⟨by rw [List.length_set]; exact h2.1, fun u hu => ?_⟩
  rcases List.mem_or_eq_of_mem_set hu with z | z
  · exact h2.2 u z
  · subst z; exact hv
theorem GH_set {G : jGt} {p : xH} (h : GH G p) {r : Nat} {g : jG1} {c' : xE} (hg : jgc G r = some g) (hk : gOk g c') : GH G (p.set r c') := by
  intro r' g' hg'
  obtain ⟨c, hc, hok⟩ := h r' g' hg'
  by_cases hr : r = r'
  · subst hr
    rw [hg] at hg'
    cases hg'
    exact ⟨c', List.getElem?_set_self (List.getElem?_eq_some_iff.mp hc).1, hk⟩
  · exact ⟨c, by rw [List.getElem?_set_ne hr]; exact hc, hok⟩
theorem jC1.other {w : jP} {p : xH} {r : Nat} {c' : xE} {e : (Nat × Nat) × jV} (h : jC1 w p e) (hr : e.1.1 ≠ r) : jC1 w (p.set r c') e := by
  obtain ⟨c, v, h1, h2, h3⟩ := h
  exact ⟨c, v, by rw [List.getElem?_set_ne (Ne.symm hr)]; exact h1, h2, h3⟩
theorem jC2.other {w : jP} {p : xH} {r : Nat} {c' : xE} {e : (Nat × Nat) × jV} (h : jC2 w p e) (hr : e.1.1 ≠ r) : jC2 w (p.set r c') e := by
  obtain ⟨c, j, v, h1, h2, h3, h4, h5⟩ := h
  exact ⟨c, j, v, by rw [List.getElem?_set_ne (Ne.symm hr)]; exact h1, h2, h3, h4, h5⟩
theorem jC1.same {w : jP} {p : xH} {r k : Nat} {c : xE} {u : Value} (hc : p[r]? = some c) {e : (Nat × Nat) × jV} (h : jC1 w p e) (hr : ¬ (e.1.1 = r ∧ e.1.2 = k)) : jC1 w (p.set r (c.1, c.2.set k u)) e := by
  by_cases h0 : e.1.1 = r
  · obtain ⟨c1, v, h1, h2, h3⟩ := h
    rw [h0, hc] at h1
    cases h1
    refine ⟨(c.1, c.2.set k u), v, ?_, ?_, h3⟩
    · rw [h0]; exact List.getElem?_set_self (List.getElem?_eq_some_iff.mp hc).1
    · rw [List.getElem?_set_ne (fun z => hr ⟨h0, z.symm⟩)]; exact h2
  · exact h.other h0
theorem jwb {b c : Bool} (h : (!(b && c)) = true) : ¬ (b = true ∧ c = true) := fun z => by rw [z.1, z.2] at h; cases h
theorem jnb1 {a b : Nat} (h : (!Nat.beq a b) = true) : a ≠ b := fun z => by subst z; rw [Nat.beq_refl] at h; cases h
theorem jpt_ok {G : jGt} {W : List (Nat × Nat)} {w : jP} {g g' : jS} {p : xH} {r k : Nat} {a : jV} {v : Value} (h : jSt G w g p) (e : jpt G W g r k a = some g') (hv : jR w a v) :
    ∃ (c : xE) (b : Int × Int), p[r]? = some c ∧ jI 0 b.1 b.2 v ∧ k < c.2.length ∧ jSt G w g' (p.set r (c.1, c.2.set k v)) ∧ (∀ p0, jWf W p0 p → jWf W p0 (p.set r (c.1, c.2.set k v))) := by
  unfold jpt at e
  split at e
  next t fs hg =>
    obtain ⟨c, hc, hok⟩ := h.2.2.2.2 _ _ hg
    have hc2 : c.2.length = fs.length ∧ ∀ (k : Nat) (b : Value ⊕ (Int × Int)), fs[k]? = some b → ∃ v, c.2[k]? = some v ∧ gFd b v := hok.2
    split at e
    next b hf =>
      obtain ⟨hz, e⟩ := xbif e
      cases e
      simp only [Bool.and_eq_true] at hz
      have hi := jin_ok h.2.1 hz.1 hv
      have hk : k < c.2.length := by rw [hc2.1]; exact (List.getElem?_eq_some_iff.mp hf).1
      refine ⟨c, b, hc, hi, hk, ⟨h.1, h.2.1, fun q hq => ?_, fun q hq => ?_, GH_set h.2.2.2.2 hg (gOk_set hok rfl hf hi)⟩, fun p0 hp => hp.set hc rfl (by simp) (fun j hj => ?_)⟩
      · rcases List.mem_cons.mp hq with rfl | hq
        · exact ⟨_, v, List.getElem?_set_self (List.getElem?_eq_some_iff.mp hc).1, List.getElem?_set_self hk, jnm_ok h.2.1 hv⟩
        · obtain ⟨m1, m2⟩ := List.mem_filter.mp hq
          exact (h.2.2.1 q m1).same hc (fun z => jwb m2 ⟨by rw [z.1]; exact Nat.beq_refl _, by rw [z.2]; exact Nat.beq_refl _⟩)
      · obtain ⟨m1, m2⟩ := List.mem_filter.mp hq
        exact (h.2.2.2.1 q m1).other (jnb1 m2)
      · have : k ≠ j := fun z => by subst z; rw [hz.2] at hj; cases hj
        show (c.2.set k v)[j]? = _
        rw [List.getElem?_set_ne this]
    next => cases e
  next => cases e
theorem jwa_w {W : List (Nat × Nat)} {r : Nat} (h : jwa W r = true) (k : Nat) : jw W r k = true := by
  unfold jwa at h
  unfold jw
  rw [List.any_eq_true] at h ⊢
  obtain ⟨x, h1, h2⟩ := h
  rw [Bool.and_eq_true] at h2
  exact ⟨x, h1, by rw [h2.1, h2.2]; rfl⟩
theorem jidx {x : Int32} {n : Nat} (h0 : 0 ≤ x.toInt) (h1 : x.toInt ≤ (n : Int) - 1) : ¬ x < 0 ∧ x.toNatClampNeg < n := by
  refine ⟨fun z => ?_, ?_⟩
  · have := Int32.lt_iff_toInt_lt.mp z
    have h3 : (0 : Int32).toInt = 0 := by decide
    omega
  · have h9 : (x.toNatClampNeg : Int) = ((x.toInt.toNat : Nat) : Int) := rfl
    omega
theorem jal_ok {G : jGt} {w : jP} {g g' : jS} {p : xH} {t r : Nat} {j a : jV} {u : Value} (h : jSt G w g p) (e : jal G g t r j = some (a, g')) (hu : jR w j u) :
    ∃ x c v w' lo hi, u = .int x ∧ ¬ x < 0 ∧ p[r]? = some c ∧ c.1 = t ∧ c.2[x.toNatClampNeg]? = some v ∧ jI (if t = 102 then 1 else 0) lo hi v ∧ jLe w w' ∧ jSt G w' g' p ∧ jR w' a v := by
  unfold jal at e
  split at e
  next t' b hg =>
    obtain ⟨hz, e9⟩ := xbif e
    clear e
    rw [Bool.and_eq_true] at hz
    have ht := Nat.eq_of_beq_eq_true hz.1
    subst ht
    obtain ⟨x, rfl, x0, x1⟩ := (jin_ok h.2.1 hz.2 hu).int
    obtain ⟨y0, y1⟩ := jidx x0 x1
    obtain ⟨c, hc, hok⟩ := h.2.2.2.2 _ _ hg
    have hc2 : c.2.length = b.1 ∧ ∀ v ∈ c.2, jI (if t = 102 then 1 else 0) b.2.1 b.2.2 v := hok.2
    have hlt : x.toNatClampNeg < c.2.length := by rw [hc2.1]; exact y1
    have hget := List.getElem?_eq_getElem hlt
    have hI := hc2.2 _ (List.getElem_mem hlt)
    have hI2 : jI (bif Nat.beq t 102 then 1 else 0) b.2.1 b.2.2 (c.2[x.toNatClampNeg]) := by
      cases hb : Nat.beq t 102 with
      | true => have := Nat.eq_of_beq_eq_true hb; subst this; exact hI
      | false => rw [if_neg (fun z => by subst z; cases hb)] at hI; exact hI
    split at e9
    next x' hx' =>
      have hq := jnm_ok h.2.1 hu
      rw [hx'] at hq
      cases hq
      split at e9
      next a0 hm =>
        cases e9
        obtain ⟨c', v', m1, m2, m3⟩ := h.2.2.1 _ (jmg_ok hm)
        rw [hc] at m1
        cases m1
        refine ⟨x, c, v', w, b.2.1, b.2.2, rfl, y0, hc, hok.1, m2, ?_, jLe.refl w, h, jnm_ok h.2.1 m3⟩
        exact hc2.2 _ (List.mem_of_getElem? m2)
      next hm =>
        cases e9
        obtain ⟨l1, l2, l3⟩ := h.put1 hc hget (q := (bif Nat.beq t 102 then 1 else 0, b.2.1, b.2.2, none)) hI2 trivial
        exact ⟨x, c, _, _, b.2.1, b.2.2, rfl, y0, hc, hok.1, hget, hI, l1, l2, l3⟩
    next s hs =>
      have hq := jnm_ok h.2.1 hu
      rw [hs] at hq
      have hq : w[s]? = some (.inl (.int x)) := hq
      split at e9
      next a0 hm =>
        cases e9
        obtain ⟨c', j', v', m1, m2, m3, m4, m5⟩ := h.2.2.2.1 _ (jmg_ok hm)
        rw [hc] at m1
        cases m1
        have m2 : w[s]? = some (.inl (.int j')) := m2
        rw [hq] at m2
        cases m2
        exact ⟨x, c, v', w, b.2.1, b.2.2, rfl, y0, hc, hok.1, m4, hc2.2 _ (List.mem_of_getElem? m4), jLe.refl w, h, jnm_ok h.2.1 m5⟩
      next hm =>
        cases e9
        obtain ⟨l1, l2, l3⟩ := h.put2 hc hq x0 hget (q := (bif Nat.beq t 102 then 1 else 0, b.2.1, b.2.2, none)) hI2 trivial
        exact ⟨x, c, _, _, b.2.1, b.2.2, rfl, y0, hc, hok.1, hget, hI, l1, l2, l3⟩
    next => cases e9
  next => cases e
theorem jas_ok {G : jGt} {W : List (Nat × Nat)} {w : jP} {g g' : jS} {p : xH} {t r : Nat} {j a : jV} {u v : Value} (h : jSt G w g p) (e : jas G W g t r j a = some g') (hu : jR w j u) (hv : jR w a v) :
    ∃ x c lo hi, u = .int x ∧ ¬ x < 0 ∧ p[r]? = some c ∧ c.1 = t ∧ x.toNatClampNeg < c.2.length ∧ jI (if t = 102 then 1 else 0) lo hi v ∧ jSt G w g' (p.set r (c.1, c.2.set x.toNatClampNeg v)) ∧ (∀ p0, jWf W p0 p → jWf W p0 (p.set r (c.1, c.2.set x.toNatClampNeg v))) := by
  unfold jas at e
  split at e
  next t' b hg =>
    obtain ⟨hz, e9⟩ := xbif e
    clear e
    simp only [Bool.and_eq_true] at hz
    have ht := Nat.eq_of_beq_eq_true hz.1.1.1
    subst ht
    obtain ⟨x, rfl, x0, x1⟩ := (jin_ok h.2.1 hz.1.1.2 hu).int
    obtain ⟨y0, y1⟩ := jidx x0 x1
    obtain ⟨c, hc, hok⟩ := h.2.2.2.2 _ _ hg
    have hc2 : c.2.length = b.1 ∧ ∀ v ∈ c.2, jI (if t = 102 then 1 else 0) b.2.1 b.2.2 v := hok.2
    have hlt : x.toNatClampNeg < c.2.length := by rw [hc2.1]; exact y1
    have hI0 := jin_ok h.2.1 hz.1.2 hv
    have hI : jI (if t = 102 then 1 else 0) b.2.1 b.2.2 v := by
      cases hb : Nat.beq t 102 with
      | true => have := Nat.eq_of_beq_eq_true hb; subst this; exact hI0
      | false => rw [if_neg (fun z => by subst z; cases hb)]; rw [hb] at hI0; exact hI0
    have hG := GH_set h.2.2.2.2 hg (gOk_seta (k := x.toNatClampNeg) hok rfl hI)
    have hF : ∀ p0, jWf W p0 p → jWf W p0 (p.set r (c.1, c.2.set x.toNatClampNeg v)) := fun p0 hp => hp.set hc rfl (by simp) (fun i hi => by rw [jwa_w hz.2 i] at hi; cases hi)
    split at e9
    next x' hx' =>
      have hq := jnm_ok h.2.1 hu
      rw [hx'] at hq
      cases hq
      cases e9
      refine ⟨x, c, b.2.1, b.2.2, rfl, y0, hc, hok.1, hlt, hI, ⟨h.1, h.2.1, fun q hq => ?_, fun q hq => ?_, hG⟩, hF⟩
      · rcases List.mem_cons.mp hq with rfl | hq
        · exact ⟨_, v, List.getElem?_set_self (List.getElem?_eq_some_iff.mp hc).1, List.getElem?_set_self hlt, jnm_ok h.2.1 hv⟩
        · obtain ⟨m1, m2⟩ := List.mem_filter.mp hq
          exact (h.2.2.1 q m1).same hc (fun z => jwb m2 ⟨by rw [z.1]; exact Nat.beq_refl _, by rw [z.2]; exact Nat.beq_refl _⟩)
      · obtain ⟨m1, m2⟩ := List.mem_filter.mp hq
        exact (h.2.2.2.1 q m1).other (jnb1 m2)
    next s hs =>
      have hq0 := jnm_ok h.2.1 hu
      rw [hs] at hq0
      have hq0 : w[s]? = some (.inl (.int x)) := hq0
      cases e9
      refine ⟨x, c, b.2.1, b.2.2, rfl, y0, hc, hok.1, hlt, hI, ⟨h.1, h.2.1, fun q hq => ?_, fun q hq => ?_, hG⟩, hF⟩
      · obtain ⟨m1, m2⟩ := List.mem_filter.mp hq
        exact (h.2.2.1 q m1).other (jnb1 m2)
      · rcases List.mem_cons.mp hq with rfl | hq
        · exact ⟨_, x, v, List.getElem?_set_self (List.getElem?_eq_some_iff.mp hc).1, hq0, x0, List.getElem?_set_self hlt, jnm_ok h.2.1 hv⟩
        · obtain ⟨m1, m2⟩ := List.mem_filter.mp hq
          exact (h.2.2.2.1 q m1).other (jnb1 m2)
    next => cases e9
  next => cases e
def jro (ro : List (List Int32)) : Prop := ro[1]? = some xsv1 ∧ ro[2]? = some xsv2
theorem jsv_ok : (xsv1.all fun x => decide (0 ≤ x.toInt) && decide (x.toInt ≤ 81)) = true ∧ (xsv2.all fun x => decide (0 ≤ x.toInt) && decide (x.toInt ≤ 81)) = true := ⟨by decide +kernel, by decide +kernel⟩
theorem jst_ok {G : jGt} {ro : List (List Int32)} (hro : jro ro) {w : jP} {g g' : jS} {p : xH} {q : Nat} {j a : jV} {u : Value} (h : jSt G w g p) (e : jst g q j = some (a, g')) (hu : jR w j u) :
    ∃ x xs v w', u = .int x ∧ ¬ x < 0 ∧ ro[q]? = some xs ∧ xs[x.toNatClampNeg]? = some v ∧ jLe w w' ∧ jSt G w' g' p ∧ jR w' a (.int v) := by
  unfold jst at e
  split at e
  next vs hvs =>
    have hvs2 : ro[q]? = some vs ∧ (vs.all fun x => decide (0 ≤ x.toInt) && decide (x.toInt ≤ 81)) = true := by
      cases h1 : Nat.beq q 1 with
      | true => rw [h1] at hvs; cases hvs; have := Nat.eq_of_beq_eq_true h1; subst this; exact ⟨hro.1, jsv_ok.1⟩
      | false =>
        rw [h1, cond_false] at hvs
        cases h2 : Nat.beq q 2 with
        | true => rw [h2] at hvs; cases hvs; have := Nat.eq_of_beq_eq_true h2; subst this; exact ⟨hro.2, jsv_ok.2⟩
        | false => rw [h2] at hvs; cases hvs
    obtain ⟨hz, e⟩ := xbif e
    obtain ⟨x, rfl, x0, x1⟩ := (jin_ok h.2.1 hz hu).int
    obtain ⟨y0, y1⟩ := jidx x0 x1
    have hget := List.getElem?_eq_getElem y1
    split at e
    next x' hx' =>
      have hq := jnm_ok h.2.1 hu
      rw [hx'] at hq
      cases hq
      obtain ⟨v, hv, e2⟩ := xmap e
      cases e2
      exact ⟨x, vs, v, w, rfl, y0, hvs2.1, hv, jLe.refl w, h, rfl⟩
    next =>
      cases e
      have hI := List.all_eq_true.mp hvs2.2 _ (List.getElem_mem y1)
      simp only [Bool.and_eq_true, decide_eq_true_eq] at hI
      obtain ⟨l1, l2, l3⟩ := jfr_ok h (q := (0, 0, 81, none)) (v := .int vs[x.toNatClampNeg]) ⟨rfl, hI.1, hI.2⟩ trivial
      exact ⟨x, vs, _, _, rfl, y0, hvs2.1, hget, l1, l2, l3⟩
  next => cases e
theorem j01 {v : Value} (h : jI 0 0 1 v) : ∃ x : Int32, v = .int x ∧ (x == 0 || x == 1) = true := by
  obtain ⟨x, rfl, h1, h2⟩ := h.int
  refine ⟨x, rfl, ?_⟩
  have h0 : (0 : Int32).toInt = 0 := by decide
  have h3 : (1 : Int32).toInt = 1 := by decide
  rcases (show x.toInt = 0 ∨ x.toInt = 1 by omega) with z | z
  · have : x = 0 := Int32.toInt_inj.mp (by omega)
    subst this; rfl
  · have : x = 1 := Int32.toInt_inj.mp (by omega)
    subst this; rfl
set_option maxHeartbeats 4000000 in
theorem jho_ok {G : jGt} {W : List (Nat × Nat)} {ro : List (List Int32)} (hro : jro ro) {own : Nat} {i : Instr} {ast ast' : List jV} {w : jP} {g g' : jS} {st : List Value} {p : xH} (h : jSt G w g p) (e : jho G W own i ast g = some (ast', g')) (hs : jSl w ast st) :
    (∀ own nL ls, xs1 own nL i ls st = none) ∧ (∀ pc, xbr i pc st = none) ∧ ∃ st' p' w', (∀ kind, xho ro own kind i st p = some (st', p')) ∧ jLe w w' ∧ jSt G w' g' p' ∧ jSl w' ast' st' ∧ (∀ p0, jWf W p0 p → jWf W p0 p') := by
  unfold jho at e
  split at e
  next idx r st0 =>
    obtain ⟨w1, vs1, rfl, g1, g2⟩ := hs.cons
    cases g1
    split at e
    next ci k pl t fs hf hg =>
      obtain ⟨ht, e⟩ := xbif e
      obtain ⟨z, hz, e⟩ := xmap e
      cases e
      obtain ⟨c, v, w', c1, c2, l1, l2, l3⟩ := jfl_ok h hz
      obtain ⟨c', c3, c4, -⟩ := h.2.2.2.2 _ _ hg
      rw [c1] at c3
      cases c3
      have ht2 : Nat.beq c.1 ci = true := by rw [show c.1 = t from c4]; exact ht
      obtain ⟨ct, cv⟩ := c
      exact ⟨fun _ _ _ => rfl, fun _ => rfl, v :: vs1, p, w', fun _ => by simp only [xho, hf, c1, ht2, cond_true, c2, Option.map_some], l1, l2, ⟨l3, g2.mono l1⟩, fun _ z => z⟩
    next => cases e
  next idx a r st0 =>
    obtain ⟨w1, vs1, rfl, g1, g2⟩ := hs.cons
    obtain ⟨w2, vs2, rfl, g3, g4⟩ := g2.cons
    cases g3
    split at e
    next ci k pl t fs hf hg =>
      obtain ⟨ht, e⟩ := xbif e
      split at e
      next cs hcs =>
        split at e
        next c0 hc0 =>
          obtain ⟨hfit, e⟩ := xbif e
          obtain ⟨g9, hz, e⟩ := xmap e
          cases e
          simp only [Bool.and_eq_true, Bool.or_eq_true] at hfit
          obtain ⟨c, b, c1, c2, c3, l2, l4⟩ := jpt_ok h hz g1
          obtain ⟨c', c5, c6, -⟩ := h.2.2.2.2 _ _ hg
          rw [c1] at c5
          cases c5
          have ht2 : Nat.beq c.1 ci = true := by rw [show c.1 = t from c6]; exact ht
          obtain ⟨x, rfl, -⟩ := c2.int
          have hc0lt := Nat.blt_eq.mp hfit.1
          have hx : xfit c0 (.int x) = true := by
            rcases hfit.2 with q | q
            · rw [Nat.eq_of_beq_eq_true q]; rfl
            · obtain ⟨x', e1, e2⟩ := j01 (jin_ok h.2.1 q g1)
              cases e1
              match c0, hc0lt with
              | 0, _ => rfl
              | 1, _ => exact e2
              | n + 2, z => exact absurd z (by omega)
          have hcond : ∀ kind, (xfit c0 (.int x) && (Nat.blt c0 10 || (Nat.beq kind 2 && Nat.beq ci own))) = true := fun kind => by rw [hx, Nat.blt_eq.mpr (show c0 < 10 by omega)]; rfl
          obtain ⟨ct, cv⟩ := c
          refine ⟨fun _ _ _ => rfl, fun _ => rfl, vs2, p.set r (ct, cv.set k (.int x)), w, fun kind => ?_, jLe.refl w, l2, g4, l4⟩
          have c3 : Nat.blt k cv.length = true := Nat.blt_eq.mpr c3
          have ht2 : Nat.beq ct ci = true := ht2
          simp only [xho, hf, c1, ht2, c3, Bool.and_true, cond_true, hcs, hc0]
          rw [hcond kind]
          rfl
        next => cases e
      next => cases e
    next => cases e
  next j r st0 =>
    obtain ⟨w1, vs1, rfl, g1, g2⟩ := hs.cons
    obtain ⟨w2, vs2, rfl, g3, g4⟩ := g2.cons
    cases g3
    obtain ⟨z, hz, e⟩ := xmap e
    cases e
    obtain ⟨x, c, v, w', lo, hi, rfl, y0, c1, c2, c3, c4, l1, l2, l3⟩ := jal_ok h hz g1
    obtain ⟨y, rfl, -⟩ := c4.int
    obtain ⟨ct, cv⟩ := c
    have c2 : ct = 100 := c2
    subst c2
    exact ⟨fun _ _ _ => rfl, fun _ => rfl, .int y :: vs2, p, w', fun _ => by simp only [xho, c1, c3]; rw [if_neg y0]; rfl, l1, l2, ⟨l3, g4.mono l1⟩, fun _ z => z⟩
  next j r st0 =>
    obtain ⟨w1, vs1, rfl, g1, g2⟩ := hs.cons
    obtain ⟨w2, vs2, rfl, g3, g4⟩ := g2.cons
    cases g3
    obtain ⟨z, hz, e⟩ := xmap e
    cases e
    obtain ⟨x, c, v, w', lo, hi, rfl, y0, c1, c2, c3, c4, l1, l2, l3⟩ := jal_ok h hz g1
    obtain ⟨y, rfl, -⟩ := c4.int
    obtain ⟨ct, cv⟩ := c
    have c2 : ct = 101 := c2
    subst c2
    exact ⟨fun _ _ _ => rfl, fun _ => rfl, .int y :: vs2, p, w', fun _ => by simp only [xho, c1, c3]; rw [if_neg y0]; rfl, l1, l2, ⟨l3, g4.mono l1⟩, fun _ z => z⟩
  next j r st0 =>
    obtain ⟨w1, vs1, rfl, g1, g2⟩ := hs.cons
    obtain ⟨w2, vs2, rfl, g3, g4⟩ := g2.cons
    cases g3
    obtain ⟨z, hz, e⟩ := xmap e
    cases e
    obtain ⟨x, c, v, w', lo, hi, rfl, y0, c1, c2, c3, c4, l1, l2, l3⟩ := jal_ok h hz g1
    obtain ⟨y, rfl, -⟩ := c4.long
    obtain ⟨ct, cv⟩ := c
    have c2 : ct = 102 := c2
    subst c2
    exact ⟨fun _ _ _ => rfl, fun _ => rfl, .long y :: vs2, p, w', fun _ => by simp only [xho, c1, c3]; rw [if_neg y0]; rfl, l1, l2, ⟨l3, g4.mono l1⟩, fun _ z => z⟩
  next j q st0 =>
    obtain ⟨w1, vs1, rfl, g1, g2⟩ := hs.cons
    obtain ⟨w2, vs2, rfl, g3, g4⟩ := g2.cons
    cases g3
    obtain ⟨z, hz, e⟩ := xmap e
    cases e
    obtain ⟨x, xs, v, w', rfl, y0, c1, c2, l1, l2, l3⟩ := jst_ok hro h hz g1
    exact ⟨fun _ _ _ => rfl, fun _ => rfl, .int v :: vs2, p, w', fun _ => by simp only [xho, c1, c2, Option.map_some]; rw [if_neg y0], l1, l2, ⟨l3, g4.mono l1⟩, fun _ z => z⟩
  next a j r st0 =>
    obtain ⟨w0, vs0, rfl, g0, g9⟩ := hs.cons
    obtain ⟨w1, vs1, rfl, g1, g2⟩ := g9.cons
    obtain ⟨w2, vs2, rfl, g3, g4⟩ := g2.cons
    cases g3
    obtain ⟨z, hz, e⟩ := xmap e
    cases e
    obtain ⟨x, c, lo, hi, rfl, y0, c1, c2, c3, c4, l2, l4⟩ := jas_ok h hz g1 g0
    obtain ⟨y, rfl, -⟩ := c4.int
    obtain ⟨ct, cv⟩ := c
    have c2 : ct = 100 := c2
    subst c2
    have c3 : Nat.blt x.toNatClampNeg cv.length = true := Nat.blt_eq.mpr c3
    exact ⟨fun _ _ _ => rfl, fun _ => rfl, vs2, _, w, fun _ => by simp only [xho, c1, c3]; rw [if_neg y0]; rfl, jLe.refl w, l2, g4, l4⟩
  next a j r st0 =>
    obtain ⟨hb, e⟩ := xbif e
    obtain ⟨w0, vs0, rfl, g0, g9⟩ := hs.cons
    obtain ⟨w1, vs1, rfl, g1, g2⟩ := g9.cons
    obtain ⟨w2, vs2, rfl, g3, g4⟩ := g2.cons
    cases g3
    obtain ⟨z, hz, e⟩ := xmap e
    cases e
    obtain ⟨y, rfl, hy⟩ := j01 (jin_ok h.2.1 hb g0)
    obtain ⟨x, c, lo, hi, rfl, y0, c1, c2, c3, c4, l2, l4⟩ := jas_ok h hz g1 g0
    obtain ⟨ct, cv⟩ := c
    have c2 : ct = 101 := c2
    subst c2
    have c3 : Nat.blt x.toNatClampNeg cv.length = true := Nat.blt_eq.mpr c3
    exact ⟨fun _ _ _ => rfl, fun _ => rfl, vs2, _, w, fun _ => by simp only [xho, c1, c3, hy]; rw [if_neg y0]; rfl, jLe.refl w, l2, g4, l4⟩
  next a j r st0 =>
    obtain ⟨w0, vs0, rfl, g0, g9⟩ := hs.cons
    obtain ⟨w1, vs1, rfl, g1, g2⟩ := g9.cons
    obtain ⟨w2, vs2, rfl, g3, g4⟩ := g2.cons
    cases g3
    obtain ⟨z, hz, e⟩ := xmap e
    cases e
    obtain ⟨x, c, lo, hi, rfl, y0, c1, c2, c3, c4, l2, l4⟩ := jas_ok h hz g1 g0
    obtain ⟨y, rfl, -⟩ := c4.long
    obtain ⟨ct, cv⟩ := c
    have c2 : ct = 102 := c2
    subst c2
    have c3 : Nat.blt x.toNatClampNeg cv.length = true := Nat.blt_eq.mpr c3
    exact ⟨fun _ _ _ => rfl, fun _ => rfl, vs2, _, w, fun _ => by simp only [xho, c1, c3]; rw [if_neg y0]; rfl, jLe.refl w, l2, g4, l4⟩
  next r st0 =>
    obtain ⟨w1, vs1, rfl, g1, g2⟩ := hs.cons
    cases g1
    split at e
    next b hg =>
      cases e
      obtain ⟨c, c1, c2, c3⟩ := h.2.2.2.2 _ _ hg
      obtain ⟨ct, cv⟩ := c
      have c2 : ct = 100 := c2
      subst c2
      have c3 : cv.length = b.1 := c3.1
      exact ⟨fun _ _ _ => rfl, fun _ => rfl, .int (Int32.ofNat cv.length) :: vs1, p, w, fun _ => by simp only [xho, c1]; rfl, jLe.refl w, h, ⟨by rw [c3]; rfl, g2⟩, fun _ z => z⟩
    next => cases e
  next idx st0 =>
    obtain ⟨kp, hkp, e⟩ := xmap e
    cases e
    exact ⟨fun _ _ _ => rfl, fun _ => rfl, .retAddr kp.1 :: st, p, w, fun _ => by simp only [xho, hkp, Option.map_some], jLe.refl w, h, ⟨rfl, hs⟩, fun _ z => z⟩
  next => cases e
end
