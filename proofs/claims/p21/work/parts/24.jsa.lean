noncomputable section
/-! the bounded machine is sound: values, bounds, numbers -/
def jI (k : Nat) (lo hi : Int) (v : Value) : Prop := jk v = k ∧ lo ≤ jz v ∧ jz v ≤ hi
def jDf (r : jP) (d : Option jD) (v : Value) : Prop := match d with
  | none => True
  | some d => ∃ x y, jR r d.2.1 x ∧ jR r d.2.2 y ∧ ((d.1 = 0 → jk x = jk v ∧ jz x ≤ jz v) ∧ (d.1 ≠ 0 → jop d.1 x y = some v ∧ jk x = (jkd d.1).1 ∧ jk y = (jkd d.1).2.1))
def jRw (r : jP) (s : Nat) (q : jRow) : Prop := ∃ v, r[s]? = some (.inl v) ∧ jI q.1 q.2.1 q.2.2.1 v ∧ jDf r q.2.2.2 v
def jT (r : jP) (tb : jTb) : Prop := ∀ q ∈ tb, jRw r q.1 q.2
def jC1 (r : jP) (h : xH) (e : (Nat × Nat) × jV) : Prop := ∃ c v, h[e.1.1]? = some c ∧ c.2[e.1.2]? = some v ∧ jR r e.2 v
def jC2 (r : jP) (h : xH) (e : (Nat × Nat) × jV) : Prop := ∃ (c : xE) (j : Int32) (v : Value), h[e.1.1]? = some c ∧ r[e.1.2]? = some (.inl (.int j)) ∧ 0 ≤ j.toInt ∧ c.2[j.toNatClampNeg]? = some v ∧ jR r e.2 v
def gFd (b : Value ⊕ (Int × Int)) (v : Value) : Prop := match b with
  | .inl w => v = w
  | .inr p => jI 0 p.1 p.2 v
def gOk (g : jG1) (c : xE) : Prop := c.1 = g.1 ∧ match g.2 with
  | .inl fs => c.2.length = fs.length ∧ ∀ (k : Nat) (b : Value ⊕ (Int × Int)), fs[k]? = some b → ∃ v, c.2[k]? = some v ∧ gFd b v
  | .inr p => c.2.length = p.1 ∧ ∀ v ∈ c.2, jI (if g.1 = 102 then 1 else 0) p.2.1 p.2.2 v
def GH (G : jGt) (h : xH) : Prop := ∀ r g, jgc G r = some g → ∃ c, h[r]? = some c ∧ gOk g c
def jSt (G : jGt) (r : jP) (g : jS) (h : xH) : Prop := g.1 = r.length ∧ jT r g.2.1 ∧ (∀ e ∈ g.2.2.1, jC1 r h e) ∧ (∀ e ∈ g.2.2.2, jC2 r h e) ∧ GH G h
def jLe (r r' : jP) : Prop := ∃ t, r' = r ++ t
theorem jLe.refl (r : jP) : jLe r r := ⟨[], by simp⟩
theorem jLe.trans {a b c : jP} (h : jLe a b) (k : jLe b c) : jLe a c := by
  obtain ⟨t, rfl⟩ := h
  obtain ⟨u, rfl⟩ := k
  exact ⟨t ++ u, by simp⟩
theorem jLe.get {r r' : jP} (h : jLe r r') {s : Nat} {x : Value ⊕ List Value} (e : r[s]? = some x) : r'[s]? = some x := by
  obtain ⟨t, rfl⟩ := h
  rw [List.getElem?_append_left (List.getElem?_eq_some_iff.mp e).1]
  exact e
theorem jLe.back {r r' : jP} (h : jLe r r') {s : Nat} (hs : s < r.length) : r'[s]? = r[s]? := by
  obtain ⟨t, rfl⟩ := h
  rw [List.getElem?_append_left hs]
theorem jR.mono {r r' : jP} (h : jLe r r') {a : jV} {v : Value} (e : jR r a v) : jR r' a v := by
  cases a with
  | inl w => exact e
  | inr s => exact h.get e
theorem jR.one {r : jP} {a : jV} {v w : Value} (h : jR r a v) (k : jR r a w) : v = w := by
  cases a with
  | inl u => exact Eq.trans h (Eq.symm k)
  | inr s =>
    have h : r[s]? = some (.inl v) := h
    have k : r[s]? = some (.inl w) := k
    rw [h] at k
    cases k
    rfl
theorem jDf.mono {r r' : jP} (h : jLe r r') {d : Option jD} {v : Value} (e : jDf r d v) : jDf r' d v := by
  cases d with
  | none => trivial
  | some d =>
    obtain ⟨x, y, h1, h2, h3⟩ := e
    exact ⟨x, y, h1.mono h, h2.mono h, h3⟩
theorem jRw.mono {r r' : jP} (h : jLe r r') {s : Nat} {q : jRow} (e : jRw r s q) : jRw r' s q := by
  obtain ⟨v, h1, h2, h3⟩ := e
  exact ⟨v, h.get h1, h2, h3.mono h⟩
theorem jT.mono {r r' : jP} (h : jLe r r') {tb : jTb} (e : jT r tb) : jT r' tb := fun q hq => (e q hq).mono h
theorem jC1.mono {r r' : jP} (h : jLe r r') {p : xH} {e : (Nat × Nat) × jV} (k : jC1 r p e) : jC1 r' p e := by
  obtain ⟨c, v, h1, h2, h3⟩ := k
  exact ⟨c, v, h1, h2, h3.mono h⟩
theorem jC2.mono {r r' : jP} (h : jLe r r') {p : xH} {e : (Nat × Nat) × jV} (k : jC2 r p e) : jC2 r' p e := by
  obtain ⟨c, j, v, h1, h2, h3, h4, h5⟩ := k
  exact ⟨c, j, v, h1, h.get h2, h3, h4, h5.mono h⟩
theorem xfd_in {α : Type} : ∀ {l : List (Nat × α)} {k : Nat} {v : α}, xfd l k = some v → (k, v) ∈ l
  | [], k, v, h => by cases h
  | q :: l, k, v, h => by
    rw [xfd_cons] at h
    cases hb : Nat.beq q.1 k with
    | true =>
      rw [hb] at h
      cases h
      have := Nat.eq_of_beq_eq_true hb
      subst this
      exact List.mem_cons_self
    | false => rw [hb] at h; exact List.mem_cons_of_mem _ (xfd_in h)
theorem jrow_of {r : jP} {g : jS} (h : jT r g.2.1) {s : Nat} {q : jRow} (e : xfd g.2.1 s = some q) : jRw r s q := h _ (xfd_in e)
theorem jI.int {lo hi : Int} {v : Value} (h : jI 0 lo hi v) : ∃ x : Int32, v = .int x ∧ lo ≤ x.toInt ∧ x.toInt ≤ hi := by
  obtain ⟨h1, h2, h3⟩ := h
  cases v <;> simp only [jk] at h1 <;> first | (exact ⟨_, rfl, h2, h3⟩) | (cases h1; done)
theorem jI.long {lo hi : Int} {v : Value} (h : jI 1 lo hi v) : ∃ x : Int64, v = .long x ∧ lo ≤ x.toInt ∧ x.toInt ≤ hi := by
  obtain ⟨h1, h2, h3⟩ := h
  cases v <;> simp only [jk] at h1 <;> first | (exact ⟨_, rfl, h2, h3⟩) | (cases h1; done)
theorem j32 (x : Int32) : -2147483648 ≤ x.toInt ∧ x.toInt ≤ 2147483647 := ⟨Int32.le_toInt x, by have := Int32.toInt_lt x; omega⟩
theorem j64 (x : Int64) : -9223372036854775808 ≤ x.toInt ∧ x.toInt ≤ 9223372036854775807 := ⟨Int64.le_toInt x, by have := Int64.toInt_lt x; omega⟩
theorem jbd_ok {r : jP} {g : jS} (h : jT r g.2.1) {a : jV} {p : Nat × Int × Int} {v : Value} (e : jbd g a = some p) (k : jR r a v) : jI p.1 p.2.1 p.2.2 v := by
  unfold jbd at e
  split at e
  next x => cases e; cases k; exact ⟨rfl, Int.le_refl _, Int.le_refl _⟩
  next x => cases e; cases k; exact ⟨rfl, Int.le_refl _, Int.le_refl _⟩
  next => cases e
  next s =>
    obtain ⟨q, e1, e2⟩ := xmap e
    subst e2
    obtain ⟨w, h1, h2, h3⟩ := jrow_of h e1
    cases jR.one k (show jR r (.inr s) w from h1)
    exact h2
theorem jnm_ok {r : jP} {g : jS} (h : jT r g.2.1) {a : jV} {v : Value} (k : jR r a v) : jR r (jnm g a) v := by
  cases a with
  | inl w => exact k
  | inr s =>
    unfold jnm
    dsimp only
    split
    next q e =>
      cases hb : (Nat.beq q.1 0 && decide (q.2.1 = q.2.2.1)) with
      | false => exact k
      | true =>
        simp only [Bool.and_eq_true, decide_eq_true_eq] at hb
        obtain ⟨w, h1, h2, h3⟩ := jrow_of h e
        cases jR.one k (show jR r (.inr s) w from h1)
        rw [Nat.eq_of_beq_eq_true hb.1] at h2
        obtain ⟨x, rfl, x1, x2⟩ := h2.int
        show Value.int x = Value.int (Int32.ofInt q.2.1)
        rw [show q.2.1 = x.toInt by omega, Int32.ofInt_toInt]
    next => exact k
theorem jin_ok {r : jP} {g : jS} (h : jT r g.2.1) {a : jV} {k : Nat} {lo hi : Int} {v : Value} (e : jin g a k lo hi = true) (c : jR r a v) : jI k lo hi v := by
  unfold jin at e
  split at e
  next p hp =>
    simp only [Bool.and_eq_true, decide_eq_true_eq] at e
    obtain ⟨h1, h2, h3⟩ := jbd_ok h hp c
    exact ⟨h1.trans (Nat.eq_of_beq_eq_true e.1.1), by omega, by omega⟩
  next => cases e
theorem jve_ok {a b : jV} (h : jve a b = true) : a = b := by
  unfold jve at h
  split at h
  next => rw [Nat.eq_of_beq_eq_true h]
  next => rw [eq_of_beq h]
  next => rw [eq_of_beq h]
  next => rw [show (_ : Nat) = _ from Nat.eq_of_beq_eq_true h]
  next => rw [Nat.eq_of_beq_eq_true h]
  next => cases h
theorem jcat_le {r : jP} {g : jS} (h : jT r g.2.1) {a : jV} {v : Value} (k : jR r a v) : v.category ≤ jcat g a := by
  cases a with
  | inl w => cases k; exact Nat.le_refl _
  | inr s =>
    have h2 : ∀ v : Value, v.category ≤ 2 := fun v => by cases v <;> exact Nat.le_of_ble_eq_true rfl
    unfold jcat
    dsimp only
    split
    next q e =>
      cases hb : Nat.beq q.1 0 with
      | false => exact h2 v
      | true =>
        obtain ⟨w, h1, h3, -⟩ := jrow_of h e
        cases jR.one k (show jR r (.inr s) w from h1)
        rw [Nat.eq_of_beq_eq_true hb] at h3
        obtain ⟨x, rfl, -⟩ := h3.int
        exact Nat.le_refl _
    next => exact h2 v
theorem jcat_1 {r : jP} {g : jS} (h : jT r g.2.1) {a : jV} {v : Value} (k : jR r a v) (e : Nat.beq (jcat g a) 1 = true) : v.category = 1 := by
  have h1 := jcat_le h k
  rw [Nat.eq_of_beq_eq_true e] at h1
  cases v <;> first | rfl | (exact absurd h1 (fun h => by cases h with | step h => cases h))
theorem jfr_ok {G : jGt} {r : jP} {g : jS} {p : xH} (h : jSt G r g p) {q : jRow} {v : Value} (h1 : jI q.1 q.2.1 q.2.2.1 v) (h2 : jDf r q.2.2.2 v) :
    jLe r (r ++ [.inl v]) ∧ jSt G (r ++ [.inl v]) (jfr g q).2 p ∧ jR (r ++ [.inl v]) (jfr g q).1 v := by
  have hl : jLe r (r ++ [.inl v]) := ⟨_, rfl⟩
  have hv : (r ++ [.inl v])[r.length]? = some (.inl v) := by simp
  obtain ⟨a1, a2, a3, a4, a5⟩ := h
  refine ⟨hl, ⟨?_, ?_, fun e he => (a3 e he).mono hl, fun e he => (a4 e he).mono hl, a5⟩, ?_⟩
  · show g.1 + 1 = _
    rw [a1]; simp
  · intro e he
    rcases List.mem_cons.mp he with rfl | he
    · refine ⟨v, ?_, h1, h2.mono hl⟩
      show (r ++ [Sum.inl v])[g.1]? = _
      rw [a1]; exact hv
    · exact (a2 e he).mono hl
  · show (r ++ [Sum.inl v])[g.1]? = _
    rw [a1]; exact hv
/-! what an operation gives lies within -/
theorem jmi_le (a b x : Int) (h1 : x ≤ a) (h2 : x ≤ b) : x ≤ jmi a b := by
  unfold jmi
  cases h : decide (a ≤ b) with
  | true => exact h1
  | false => exact h2
theorem jmi_1 (a b : Int) : jmi a b ≤ a := by
  unfold jmi
  cases h : decide (a ≤ b) with
  | true => exact Int.le_refl _
  | false => have := of_decide_eq_false h; show b ≤ a; omega
theorem jmi_2 (a b : Int) : jmi a b ≤ b := by
  unfold jmi
  cases h : decide (a ≤ b) with
  | true => exact of_decide_eq_true h
  | false => exact Int.le_refl _
theorem jma_le (a b x : Int) (h1 : a ≤ x) (h2 : b ≤ x) : jma a b ≤ x := by
  unfold jma
  cases h : decide (a ≤ b) with
  | true => exact h2
  | false => exact h1
theorem jma_1 (a b : Int) : a ≤ jma a b := by
  unfold jma
  cases h : decide (a ≤ b) with
  | true => exact of_decide_eq_true h
  | false => exact Int.le_refl _
theorem jma_2 (a b : Int) : b ≤ jma a b := by
  unfold jma
  cases h : decide (a ≤ b) with
  | true => exact Int.le_refl _
  | false => have := of_decide_eq_false h; show b ≤ a; omega
theorem jF_ok (x : Int32) : jI 0 jF.1 jF.2 (.int x) := ⟨rfl, (j32 x).1, (j32 x).2⟩
theorem jft_ok {l h e : Int} {x : Int32} (hx : x.toInt = e.bmod (2 ^ 32)) (h1 : l ≤ e) (h2 : e ≤ h) : jI 0 (jft l h).1 (jft l h).2 (.int x) := by
  unfold jft
  cases hb : (decide (-2147483648 ≤ l) && decide (h ≤ 2147483647)) with
  | false => exact jF_ok x
  | true =>
    simp only [Bool.and_eq_true, decide_eq_true_eq] at hb
    have : e.bmod (2 ^ 32) = e := Int.bmod_eq_of_le (by omega) (by omega)
    rw [this] at hx
    exact ⟨rfl, by show l ≤ x.toInt; omega, by show x.toInt ≤ h; omega⟩
theorem jnn {x : Int32} (h : 0 ≤ x.toInt) : x.toInt = (x.toBitVec.toNat : Int) ∧ x.toBitVec.toNat < 2147483648 := by
  have h1 : x.toInt = x.toBitVec.toInt := rfl
  rw [h1] at h ⊢
  rw [BitVec.toInt_eq_toNat_cond] at h ⊢
  have h2 := x.toBitVec.isLt
  split at h
  next hc => rw [if_pos hc]; exact ⟨rfl, by omega⟩
  next hc => omega
theorem jnb {x : Int32} (h : x.toBitVec.toNat < 2147483648) : x.toInt = (x.toBitVec.toNat : Int) := by
  have h1 : x.toInt = x.toBitVec.toInt := rfl
  rw [h1, BitVec.toInt_eq_toNat_cond, if_pos (by omega)]
theorem jand_1 {x y : Int32} (h : 0 ≤ x.toInt) : 0 ≤ (x &&& y).toInt ∧ (x &&& y).toInt ≤ x.toInt := by
  obtain ⟨h1, h2⟩ := jnn h
  have h3 : (x &&& y).toBitVec.toNat ≤ x.toBitVec.toNat := by
    rw [Int32.toBitVec_and, BitVec.toNat_and]
    exact Nat.and_le_left
  have h4 := jnb (x := x &&& y) (by omega)
  omega
theorem jand_2 {x y : Int32} (h : 0 ≤ y.toInt) : 0 ≤ (x &&& y).toInt ∧ (x &&& y).toInt ≤ y.toInt := by
  obtain ⟨h1, h2⟩ := jnn h
  have h3 : (x &&& y).toBitVec.toNat ≤ y.toBitVec.toNat := by
    rw [Int32.toBitVec_and, BitVec.toNat_and]
    exact Nat.and_le_right
  have h4 := jnb (x := x &&& y) (by omega)
  omega
theorem jpw_ok {h m : Int} (e : jpw h = some m) : h ≤ m ∧ ∃ k : Nat, k ≤ 10 ∧ m = 2 ^ k - 1 := by
  unfold jpw at e
  cases h0 : decide (h ≤ 1) with
  | true => rw [h0] at e; cases e; exact ⟨of_decide_eq_true h0, 1, by decide, by decide⟩
  | false =>
  rw [h0, cond_false] at e
  cases h1 : decide (h ≤ 3) with
  | true => rw [h1] at e; cases e; exact ⟨of_decide_eq_true h1, 2, by decide, by decide⟩
  | false =>
  rw [h1, cond_false] at e
  cases h2 : decide (h ≤ 7) with
  | true => rw [h2] at e; cases e; exact ⟨of_decide_eq_true h2, 3, by decide, by decide⟩
  | false =>
  rw [h2, cond_false] at e
  cases h3 : decide (h ≤ 15) with
  | true => rw [h3] at e; cases e; exact ⟨of_decide_eq_true h3, 4, by decide, by decide⟩
  | false =>
  rw [h3, cond_false] at e
  cases h4 : decide (h ≤ 31) with
  | true => rw [h4] at e; cases e; exact ⟨of_decide_eq_true h4, 5, by decide, by decide⟩
  | false =>
  rw [h4, cond_false] at e
  cases h5 : decide (h ≤ 63) with
  | true => rw [h5] at e; cases e; exact ⟨of_decide_eq_true h5, 6, by decide, by decide⟩
  | false =>
  rw [h5, cond_false] at e
  cases h6 : decide (h ≤ 127) with
  | true => rw [h6] at e; cases e; exact ⟨of_decide_eq_true h6, 7, by decide, by decide⟩
  | false =>
  rw [h6, cond_false] at e
  cases h7 : decide (h ≤ 255) with
  | true => rw [h7] at e; cases e; exact ⟨of_decide_eq_true h7, 8, by decide, by decide⟩
  | false =>
  rw [h7, cond_false] at e
  cases h8 : decide (h ≤ 511) with
  | true => rw [h8] at e; cases e; exact ⟨of_decide_eq_true h8, 9, by decide, by decide⟩
  | false =>
  rw [h8, cond_false] at e
  cases h9 : decide (h ≤ 1023) with
  | true => rw [h9] at e; cases e; exact ⟨of_decide_eq_true h9, 10, by decide, by decide⟩
  | false => rw [h9] at e; cases e
theorem jpw_nat {x : Int32} {m : Int} {k : Nat} (hk : k ≤ 10) (hm : m = 2 ^ k - 1) (h0 : 0 ≤ x.toInt) (h1 : x.toInt ≤ m) : x.toBitVec.toNat < 2 ^ k := by
  have h2 := (jnn h0).1
  have h3 : ((2 ^ k : Nat) : Int) = (2 : Int) ^ k := by simp
  omega
theorem jpw_nat2 {x : Int32} {m : Int} {k : Nat} (hk : k ≤ 10) (hm : m = 2 ^ k - 1) (h : x.toBitVec.toNat < 2 ^ k) : 0 ≤ x.toInt ∧ x.toInt ≤ m := by
  have h4 : 2 ^ k ≤ 2 ^ 10 := Nat.pow_le_pow_right (by decide) hk
  have h2 := jnb (x := x) (by have : (2 : Nat) ^ 10 = 1024 := by decide
                              omega)
  have h3 : ((2 ^ k : Nat) : Int) = (2 : Int) ^ k := by simp
  omega
theorem jor_ok {x y : Int32} {m : Int} {k : Nat} (hk : k ≤ 10) (hm : m = 2 ^ k - 1) (h0 : 0 ≤ x.toInt) (h1 : x.toInt ≤ m) (h2 : 0 ≤ y.toInt) (h3 : y.toInt ≤ m) : 0 ≤ (x ||| y).toInt ∧ (x ||| y).toInt ≤ m := by
  refine jpw_nat2 hk hm ?_
  rw [Int32.toBitVec_or, BitVec.toNat_or]
  exact Nat.or_lt_two_pow (jpw_nat hk hm h0 h1) (jpw_nat hk hm h2 h3)
theorem jxor_ok {x y : Int32} {m : Int} {k : Nat} (hk : k ≤ 10) (hm : m = 2 ^ k - 1) (h0 : 0 ≤ x.toInt) (h1 : x.toInt ≤ m) (h2 : 0 ≤ y.toInt) (h3 : y.toInt ≤ m) : 0 ≤ (x ^^^ y).toInt ∧ (x ^^^ y).toInt ≤ m := by
  refine jpw_nat2 hk hm ?_
  rw [Int32.toBitVec_xor, BitVec.toNat_xor]
  exact Nat.xor_lt_two_pow (jpw_nat hk hm h0 h1) (jpw_nat hk hm h2 h3)
theorem jshl_k (x : Int32) : ∀ k : Nat, k < 31 → (x <<< (Int32.ofNat k &&& 31)).toBitVec = x.toBitVec <<< k := by
  intro k hk
  match k, hk with
  | 0, _ => rfl
  | 1, _ => rfl
  | 2, _ => rfl
  | 3, _ => rfl
  | 4, _ => rfl
  | 5, _ => rfl
  | 6, _ => rfl
  | 7, _ => rfl
  | 8, _ => rfl
  | 9, _ => rfl
  | 10, _ => rfl
  | 11, _ => rfl
  | 12, _ => rfl
  | 13, _ => rfl
  | 14, _ => rfl
  | 15, _ => rfl
  | 16, _ => rfl
  | 17, _ => rfl
  | 18, _ => rfl
  | 19, _ => rfl
  | 20, _ => rfl
  | 21, _ => rfl
  | 22, _ => rfl
  | 23, _ => rfl
  | 24, _ => rfl
  | 25, _ => rfl
  | 26, _ => rfl
  | 27, _ => rfl
  | 28, _ => rfl
  | 29, _ => rfl
  | 30, _ => rfl
  | n + 31, h => exact absurd h (by omega)
theorem jshl_ok {x y : Int32} {al ah bl bh : Int} (h1 : 0 ≤ al) (h2 : 0 ≤ bl) (h3 : bh ≤ 30) (h4 : ah * 2 ^ bh.toNat ≤ 2147483647) (x1 : al ≤ x.toInt) (x2 : x.toInt ≤ ah) (y1 : bl ≤ y.toInt) (y2 : y.toInt ≤ bh) :
    al * 2 ^ bl.toNat ≤ (x <<< (y &&& 31)).toInt ∧ (x <<< (y &&& 31)).toInt ≤ ah * 2 ^ bh.toNat := by
  obtain ⟨k, hk⟩ : ∃ k : Nat, y.toInt = (k : Int) := ⟨y.toInt.toNat, by omega⟩
  have hk31 : k < 31 := by omega
  have hy : y = Int32.ofNat k := by
    apply Int32.toInt_inj.mp
    rw [hk, Int32.toInt_ofNat_of_lt (by omega)]
  obtain ⟨n1, n2⟩ := jnn (x := x) (by omega)
  have p1 : (2 : Int) ^ bl.toNat ≤ 2 ^ k := by exact_mod_cast Nat.pow_le_pow_right (by decide) (show bl.toNat ≤ k by omega)
  have p2 : (2 : Int) ^ k ≤ 2 ^ bh.toNat := by exact_mod_cast Nat.pow_le_pow_right (by decide) (show k ≤ bh.toNat by omega)
  have p0 : (0 : Int) ≤ 2 ^ bl.toNat := by exact_mod_cast Nat.zero_le _
  have p3 : (0 : Int) ≤ 2 ^ k := by exact_mod_cast Nat.zero_le _
  have q1 : al * 2 ^ bl.toNat ≤ x.toInt * 2 ^ k := Int.mul_le_mul x1 p1 p0 (by omega)
  have q2 : x.toInt * 2 ^ k ≤ ah * 2 ^ bh.toNat := Int.mul_le_mul x2 p2 p3 (by omega)
  have e0 : ((x.toBitVec.toNat * 2 ^ k : Nat) : Int) = x.toInt * 2 ^ k := by rw [n1]; push_cast; rfl
  have e1 : (x <<< (y &&& 31)).toBitVec.toNat = x.toBitVec.toNat * 2 ^ k := by
    rw [hy, jshl_k x k hk31, BitVec.toNat_shiftLeft, Nat.shiftLeft_eq, Nat.mod_eq_of_lt (by omega)]
  have e2 := jnb (x := x <<< (y &&& 31)) (by omega)
  rw [e2, e1, e0]
  exact ⟨q1, q2⟩
end
