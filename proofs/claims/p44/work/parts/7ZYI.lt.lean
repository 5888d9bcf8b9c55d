/-! at least: set by set -/
abbrev tB (n : Nat) : Nat → Prop := fun i => n.testBit i = true
abbrev sOne (B : Nat → Nat → Prop) (Q : Nat) : Prop := ∀ i j, tB Q i → tB Q j → i ≠ j → ¬ B i j
def lsT (B : Nat → Nat → Prop) (L : Nat → Int) (X : Nat) : Prop := ∀ s, s < X → ∃ r : Nat, nsF B (tB s) r ∧ L s = (r : Int)
def lsI (B : Nat → Nat → Prop) (L : Nat → Int) (X m P : Nat) : Prop := lsT B L X ∧ ∃ c : Nat, L X = (c : Int) ∧ c ≤ 11 ∧ (c = 11 ∨ nsP B (tB X) c) ∧ ∀ Q, Q &&& X = Q → P < Q → tB Q m → sOne B Q → ∀ r, nsF B (fun i => tB X i ∧ ¬ tB Q i) r → c ≤ r + 1
theorem lsT_e {B : Nat → Nat → Prop} {L L' : Nat → Int} {X : Nat} (h : lsT B L X) (e : ∀ s, s < X → L' s = L s) : lsT B L' X := fun s hs => by
  rw [e s hs]
  exact h s hs
theorem lsI_0 {B : Nat → Nat → Prop} {L L' : Nat → Int} {X m : Nat} (h : lsT B L X) (e : ∀ s, s < X → L' s = L s) (h2 : L' X = 11) : lsI B L' X m X := ⟨lsT_e h e, 11, h2, Nat.le_refl _, Or.inl rfl, fun Q h3 h4 => by
  have q : Q &&& X ≤ X := Nat.and_le_right
  rw [h3] at q
  omega⟩
theorem lsI_k {B : Nat → Nat → Prop} {L L' : Nat → Int} {X m P P2 : Nat} (h : lsI B L X m P) (e : ∀ s, s ≤ X → L' s = L s) (hP : P &&& X = P) (hP2 : P2 = (P - 1) &&& X) (hb : tB P m → sOne B P → ∀ r : Nat, nsF B (fun i => tB X i ∧ ¬ tB P i) r → L X ≤ (r : Int) + 1) : lsI B L' X m P2 := by
  obtain ⟨h1, c, h2, h3, h4, h5⟩ := h
  refine ⟨lsT_e h1 (fun s hs => e s (by omega)), c, by rw [e X (Nat.le_refl _)]; exact h2, h3, h4, fun Q q1 q2 q3 q4 r hr => ?_⟩
  rcases Nat.lt_trichotomy P Q with g | g | g
  · exact h5 Q q1 g q3 q4 r hr
  · rw [← g] at q3 q4 hr
    have := hb q3 q4 r hr
    omega
  · have z := sub_next P (S := X) (P := P) (s := Q) Nat.lt_two_pow_self hP q1 g
    omega
theorem lsI_n {B : Nat → Nat → Prop} {L L' : Nat → Int} {X m P P2 r : Nat} (h : lsI B L X m P) (e : ∀ s, s < X → L' s = L s) (hP : P &&& X = P) (hP2 : P2 = (P - 1) &&& X) (hr : nsF B (fun i => tB X i ∧ ¬ tB P i) r) (ho : sOne B P) (hv : L' X = (r : Int) + 1) (hlt : (r : Int) + 1 < L X) : lsI B L' X m P2 := by
  obtain ⟨h1, c, h2, h3, h4, h5⟩ := h
  refine ⟨lsT_e h1 e, r + 1, by rw [hv]; push_cast; rfl, by omega, Or.inr (nsP_add (Q := tB P) (fun i => Iff.rfl) ho hr.1), fun Q q1 q2 q3 q4 s hs => ?_⟩
  rcases Nat.lt_trichotomy P Q with g | g | g
  · have := h5 Q q1 g q3 q4 s hs
    omega
  · rw [← g] at hs
    have := nsF_1 hr hs
    omega
  · have z := sub_next P (S := X) (P := P) (s := Q) Nat.lt_two_pow_self hP q1 g
    omega
/-- a part less a part -/
theorem less_lt {X P T : Nat} (hT : ∀ k, T.testBit k = (X.testBit k && !P.testBit k)) (hP : P &&& X = P) (h0 : P ≠ 0) : T < X := by
  have a : T &&& X = T := Nat.eq_of_testBit_eq (fun i => by
    rw [Nat.testBit_and, hT]
    cases X.testBit i <;> cases P.testBit i <;> rfl)
  have b : T &&& X ≤ X := Nat.and_le_right
  rw [a] at b
  rcases Nat.lt_or_ge T X with g | g
  · exact g
  · have e : T = X := by omega
    obtain ⟨i, hi⟩ := Nat.exists_testBit_of_ne_zero h0
    have hX : X.testBit i = true := by
      rw [← hP, Nat.testBit_and] at hi
      exact (Bool.and_eq_true_iff.mp hi).2
    have z := hT i
    rw [e, hX, hi] at z
    cases z
theorem less_iff {X P T : Nat} (hT : ∀ k, T.testBit k = (X.testBit k && !P.testBit k)) (i : Nat) : tB T i ↔ tB X i ∧ ¬ tB P i := by
  show T.testBit i = true ↔ X.testBit i = true ∧ ¬ P.testBit i = true
  rw [hT]
  cases X.testBit i <;> cases P.testBit i <;> simp
theorem lsI_e {B : Nat → Nat → Prop} {L : Nat → Int} {X X2 m : Nat} (hX : X < 1024) (hm : X.testBit m = true) (hX2 : X2 = X + 1) (h : lsI B L X m 0) : lsT B L X2 := by
  obtain ⟨h1, c, h2, h3, h4, h5⟩ := h
  have lt10 : ∀ i, tB X i → i < 10 := fun i hi => by
    rcases Nat.lt_or_ge i 10 with g | g
    · exact g
    · have : X.testBit i = false := Nat.testBit_lt_two_pow (Nat.lt_of_lt_of_le (m := 2 ^ 10) hX (Nat.pow_le_pow_right (by decide) g))
      rw [show X.testBit i = true from hi] at this
      cases this
  have all : ∀ k, nsP B (tB X) k → c ≤ k := fun k hk => by
    obtain ⟨P, p1, p2, p3, p4, p5⟩ := nsP_cut hk (m := m) hm
    obtain ⟨Q, q1, q2⟩ := mk_bits P 10
    have qP : ∀ i, tB Q i ↔ P i := fun i => by
      rw [show tB Q i ↔ i < 10 ∧ P i from q2 i]
      exact ⟨fun z => z.2, fun z => ⟨lt10 i (p2 i z), z⟩⟩
    have qX : Q &&& X = Q := Nat.eq_of_testBit_eq (fun i => by
      rw [Nat.testBit_and]
      cases hq : Q.testBit i with
      | false => rfl
      | true => rw [show X.testBit i = true from p2 i ((qP i).mp hq)]; rfl)
    have q0 : 0 < Q := by
      rcases Nat.eq_zero_or_pos Q with g | g
      · have z := (qP m).mpr p1
        rw [g] at z
        have z : (0 : Nat).testBit m = true := z
        rw [Nat.zero_testBit] at z
        cases z
      · exact g
    obtain ⟨T, t1, t2⟩ := mk_bits (fun i => tB X i ∧ ¬ tB Q i) 10
    have tT : ∀ k, T.testBit k = (X.testBit k && !Q.testBit k) := fun i => by
      have e : tB T i ↔ tB X i ∧ ¬ tB Q i := (t2 i).trans ⟨fun z => z.2, fun z => ⟨lt10 i z.1, z⟩⟩
      cases ht : T.testBit i with
      | true =>
        obtain ⟨a, b⟩ := e.mp ht
        rw [show X.testBit i = true from a]
        cases hq : Q.testBit i with
        | true => exact absurd hq b
        | false => rfl
      | false =>
        cases hx : X.testBit i with
        | false => rfl
        | true =>
          cases hq : Q.testBit i with
          | true => rfl
          | false =>
            have z : T.testBit i = true := e.mpr ⟨hx, fun w => by rw [show Q.testBit i = true from w] at hq; cases hq⟩
            rw [ht] at z
            cases z
    obtain ⟨r, r1, r2⟩ := h1 T (less_lt tT qX (by omega))
    have r3 : nsF B (fun i => tB X i ∧ ¬ tB Q i) r := nsF_e (less_iff tT) (fun _ _ _ _ => Iff.rfl) r1
    have a := h5 Q qX q0 ((qP m).mpr p1) (fun i j hi hj => p3 i j ((qP i).mp hi) ((qP j).mp hj)) r r3
    have b := r3.2 (k - 1) (nsP_e (fun i => by
      show tB X i ∧ ¬ P i ↔ tB X i ∧ ¬ tB Q i
      rw [qP]) (fun _ _ _ _ => Iff.rfl) p5)
    omega
  have hc : nsP B (tB X) c := by
    rcases h4 with h4 | h4
    · have := all 10 (nsP_id lt10)
      omega
    · exact h4
  rw [hX2]
  intro s hs
  by_cases g : s = X
  · rw [g]
    exact ⟨c, ⟨hc, all⟩, h2⟩
  · exact h1 s (by omega)
theorem lsT_0 {B : Nat → Nat → Prop} {L : Nat → Int} (h : L 0 = 0) : lsT B L 1 := fun s hs => by
  rw [show s = 0 by omega]
  refine ⟨0, ⟨⟨fun i => i, fun i hi => ?_, fun i j hi => ?_⟩, fun k _ => Nat.zero_le k⟩, h⟩
  · have hi : (0 : Nat).testBit i = true := hi
    rw [Nat.zero_testBit] at hi; cases hi
  · have hi : (0 : Nat).testBit i = true := hi
    rw [Nat.zero_testBit] at hi; cases hi
theorem pw_10 : ∀ n : Nat, n ≤ 10 → ((1 : Int32) <<< (Int32.ofNat n &&& 31)).toInt = ((2 ^ n : Nat) : Int) := by decide +kernel
theorem pw_le : ∀ n : Nat, n ≤ 10 → 2 ^ n ≤ 1024 := by decide
