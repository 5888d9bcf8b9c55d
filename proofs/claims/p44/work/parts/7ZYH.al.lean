/-! at least: how few sets, none of whose sights bar each other -/
def sBar (m s k : Nat → Int32) (h : Int) (i j : Nat) : Prop := h < (bcn (k i ^^^ k j)).toInt ∨ (m i = m j ∧ (k i ≠ k j ∨ s i ≠ s j))
theorem sBar_c {m s k : Nat → Int32} {h : Int} {i j : Nat} (g : sBar m s k h i j) : sBar m s k h j i := by
  unfold sBar at g ⊢
  rw [Int32.xor_comm (k j) (k i)]
  rcases g with g | ⟨g1, g2⟩
  · exact Or.inl g
  · exact Or.inr ⟨g1.symm, g2.elim (fun z => Or.inl (Ne.symm z)) (fun z => Or.inr (Ne.symm z))⟩
theorem bcn_z0 : (bcn 0).toInt = 0 := by decide +kernel
theorem sBar_0 {m s k : Nat → Int32} {h : Int} (h0 : 0 ≤ h) {i : Nat} : ¬ sBar m s k h i i := by
  unfold sBar
  rw [Int32.xor_self, bcn_z0]
  rintro (g | ⟨-, g | g⟩)
  · omega
  · exact g rfl
  · exact g rfl
/-- so many are enough for those of I -/
def nsP (B : Nat → Nat → Prop) (I : Nat → Prop) (k : Nat) : Prop := ∃ g : Nat → Nat, (∀ i, I i → g i < k) ∧ ∀ i j, I i → I j → i ≠ j → g i = g j → ¬ B i j
def nsF (B : Nat → Nat → Prop) (I : Nat → Prop) (r : Nat) : Prop := nsP B I r ∧ ∀ k, nsP B I k → r ≤ k
theorem nsP_e {B B' : Nat → Nat → Prop} {I I' : Nat → Prop} (hI : ∀ i, I i ↔ I' i) (hB : ∀ i j, I i → I j → (B i j ↔ B' i j)) {k : Nat} (h : nsP B I k) : nsP B' I' k := by
  obtain ⟨g, h1, h2⟩ := h
  exact ⟨g, fun i hi => h1 i ((hI i).mpr hi), fun i j hi hj a b c => h2 i j ((hI i).mpr hi) ((hI j).mpr hj) a b ((hB i j ((hI i).mpr hi) ((hI j).mpr hj)).mpr c)⟩
theorem nsF_1 {B : Nat → Nat → Prop} {I : Nat → Prop} {r s : Nat} (h : nsF B I r) (g : nsF B I s) : r = s := Nat.le_antisymm (h.2 s g.1) (g.2 r h.1)
theorem nsF_e {B B' : Nat → Nat → Prop} {I I' : Nat → Prop} (hI : ∀ i, I i ↔ I' i) (hB : ∀ i j, I i → I j → (B i j ↔ B' i j)) {r : Nat} (h : nsF B I r) : nsF B' I' r := ⟨nsP_e hI hB h.1, fun k hk => h.2 k (nsP_e (fun i => (hI i).symm) (fun i j hi hj => (hB i j ((hI i).mpr hi) ((hI j).mpr hj)).symm) hk)⟩
theorem nsP_id {B : Nat → Nat → Prop} {I : Nat → Prop} {n : Nat} (h : ∀ i, I i → i < n) : nsP B I n := ⟨fun i => i, h, fun i j _ _ a b => absurd b a⟩
theorem nsP_add {B : Nat → Nat → Prop} {I Q J : Nat → Prop} {r : Nat} (hJ : ∀ i, J i ↔ I i ∧ ¬ Q i) (hQ : ∀ i j, Q i → Q j → i ≠ j → ¬ B i j) (h : nsP B J r) : nsP B I (r + 1) := by
  obtain ⟨g, h1, h2⟩ := h
  refine ⟨fun i => iP (Q i) r (g i), fun i hi => ?_, fun i j hi hj hne he => ?_⟩
  · show iP (Q i) r (g i) < r + 1
    rcases Classical.em (Q i) with q | q
    · rw [iP_y q]; omega
    · rw [iP_n q]; have := h1 i ((hJ i).mpr ⟨hi, q⟩); omega
  · have he : iP (Q i) r (g i) = iP (Q j) r (g j) := he
    rcases Classical.em (Q i) with q | q <;> rcases Classical.em (Q j) with q2 | q2
    · exact hQ i j q q2 hne
    · rw [iP_y q, iP_n q2] at he
      have := h1 j ((hJ j).mpr ⟨hj, q2⟩)
      omega
    · rw [iP_n q, iP_y q2] at he
      have := h1 i ((hJ i).mpr ⟨hi, q⟩)
      omega
    · rw [iP_n q, iP_n q2] at he
      exact h2 i j ((hJ i).mpr ⟨hi, q⟩) ((hJ j).mpr ⟨hj, q2⟩) hne he
theorem nsP_cut {B : Nat → Nat → Prop} {I : Nat → Prop} {k m : Nat} (h : nsP B I k) (hm : I m) : ∃ P : Nat → Prop, P m ∧ (∀ i, P i → I i) ∧ (∀ i j, P i → P j → i ≠ j → ¬ B i j) ∧ 0 < k ∧ nsP B (fun i => I i ∧ ¬ P i) (k - 1) := by
  obtain ⟨g, h1, h2⟩ := h
  have hk := h1 m hm
  refine ⟨fun i => I i ∧ g i = g m, ⟨hm, rfl⟩, fun i hi => hi.1, fun i j hi hj hne => h2 i j hi.1 hj.1 hne (hi.2.trans hj.2.symm), by omega, ?_⟩
  refine ⟨fun i => if g i = k - 1 then g m else g i, fun i hi => ?_, fun i j hi hj hne he => ?_⟩
  · have q := h1 i hi.1
    have q2 : g i ≠ g m := fun e => hi.2 ⟨hi.1, e⟩
    show (if g i = k - 1 then g m else g i) < k - 1
    by_cases e : g i = k - 1
    · rw [if_pos e]; omega
    · rw [if_neg e]; omega
  · have q1 : g i ≠ g m := fun e => hi.2 ⟨hi.1, e⟩
    have q2 : g j ≠ g m := fun e => hj.2 ⟨hj.1, e⟩
    have he : (if g i = k - 1 then g m else g i) = if g j = k - 1 then g m else g j := he
    refine h2 i j hi.1 hj.1 hne ?_
    by_cases e : g i = k - 1 <;> by_cases e2 : g j = k - 1
    · omega
    · rw [if_pos e, if_neg e2] at he; exact absurd he.symm q2
    · rw [if_neg e, if_pos e2] at he; exact absurd he q1
    · rw [if_neg e, if_neg e2] at he; exact he
/-- a number with these bits -/
theorem mk_bits (P : Nat → Prop) : ∀ n : Nat, ∃ Q, Q < 2 ^ n ∧ ∀ i, Q.testBit i = true ↔ i < n ∧ P i
  | 0 => ⟨0, by decide, fun i => by rw [Nat.zero_testBit]; exact ⟨fun h => (by cases h), fun h => absurd h.1 (Nat.not_lt_zero _)⟩⟩
  | n + 1 => by
    obtain ⟨Q, h1, h2⟩ := mk_bits P n
    have hp : (2 : Nat) ^ n < 2 ^ (n + 1) := Nat.pow_lt_pow_right (by decide) (by omega)
    rcases Classical.em (P n) with g | g
    · refine ⟨Q ||| 2 ^ n, Nat.or_lt_two_pow (by omega) hp, fun i => ?_⟩
      rw [Nat.testBit_or, Bool.or_eq_true, h2, Nat.testBit_two_pow, decide_eq_true_iff]
      constructor
      · rintro (⟨a, b⟩ | a)
        · exact ⟨by omega, b⟩
        · rw [← a]; exact ⟨by omega, g⟩
      · rintro ⟨a, b⟩
        by_cases e : n = i
        · exact Or.inr e
        · exact Or.inl ⟨by omega, b⟩
    · refine ⟨Q, by omega, fun i => ?_⟩
      rw [h2]
      constructor
      · rintro ⟨a, b⟩; exact ⟨by omega, b⟩
      · rintro ⟨a, b⟩
        by_cases e : n = i
        · rw [← e] at b; exact absurd b g
        · exact ⟨by omega, b⟩
/-- the parts of a set, downwards -/
theorem sub_next : ∀ (n : Nat) {S P s : Nat}, P < 2 ^ n → P &&& S = P → s &&& S = s → s < P → s ≤ (P - 1) &&& S
  | 0, S, P, s, h, _, _, hs => by
    have h : P < 1 := h
    omega
  | n + 1, S, P, s, h, hP, hs, hsP => by
    have h2 : P < 2 ^ n * 2 := by rw [← Nat.pow_succ]; exact h
    have e1 : P / 2 &&& S / 2 = P / 2 := by rw [← Nat.and_div_two, hP]
    have e2 : s / 2 &&& S / 2 = s / 2 := by rw [← Nat.and_div_two, hs]
    have d : ((P - 1) &&& S) / 2 = (P - 1) / 2 &&& S / 2 := Nat.and_div_two
    by_cases g : P % 2 = 1
    · rw [show (P - 1) / 2 = P / 2 by omega, e1] at d
      omega
    · rw [show (P - 1) / 2 = P / 2 - 1 by omega] at d
      have ih := sub_next n (P := P / 2) (S := S / 2) (s := s / 2) (by omega) e1 e2 (by omega)
      rw [← d] at ih
      by_cases q : s % 2 = 1
      · have q2 : S % 2 = 1 := by
          rw [← hs] at q
          exact (Nat.and_mod_two_eq_one.mp q).2
        have q3 : ((P - 1) &&& S) % 2 = 1 := Nat.and_mod_two_eq_one.mpr ⟨by omega, q2⟩
        omega
      · omega
theorem bI_tb {x : Int32} {X k : Nat} (h : x.toInt = (X : Int)) (hk : k < 32) : bI x k = X.testBit k := by rw [i_k h]; exact bI_nat hk
theorem iN_and {x y : Int32} {X Y : Nat} (hx : x.toInt = (X : Int)) (hy : y.toInt = (Y : Int)) : (x &&& y).toInt = ((X &&& Y : Nat) : Int) := by
  have l : X &&& Y ≤ X := Nat.and_le_left
  have b := j32 x
  have e : x &&& y = Int32.ofNat (X &&& Y) := bI_ext (fun k hk => by rw [bI_and, bI_tb hx hk, bI_tb hy hk, bI_nat hk, Nat.testBit_and])
  rw [e, Int32.toInt_ofNat_of_lt (by omega)]
/-- what is left of a set -/
theorem iN_less {x y z : Int32} {X Y : Nat} (hx : x.toInt = (X : Int)) (hy : y.toInt = (Y : Int)) (hz : z = x &&& (y ^^^ (-1))) : 0 ≤ z.toInt ∧ (∀ k, z.toInt.toNat.testBit k = (X.testBit k && !Y.testBit k)) ∧ z.toInt.toNat ≤ X := by
  have b := j32 x
  obtain ⟨Q, q1, q2⟩ := mk_bits (fun i => X.testBit i = true ∧ Y.testBit i = false) 31
  have hQ : ∀ k, Q.testBit k = (X.testBit k && !Y.testBit k) := fun k => by
    have e := q2 k
    cases hb : Q.testBit k with
    | true =>
      rw [hb] at e
      obtain ⟨-, e1, e2⟩ := e.mp rfl
      rw [e1, e2]; rfl
    | false =>
      rw [hb] at e
      by_cases hk : k < 31
      · cases h1 : X.testBit k with
        | false => rfl
        | true =>
          cases h2 : Y.testBit k with
          | true => rfl
          | false => exact absurd (e.mpr ⟨hk, h1, h2⟩) (by decide)
      · have : X.testBit k = false := Nat.testBit_lt_two_pow (Nat.lt_of_lt_of_le (m := 2 ^ 31) (by omega) (Nat.pow_le_pow_right (by decide) (by omega)))
        rw [this]; rfl
  have e : z = Int32.ofNat Q := bI_ext (fun k hk => by rw [hz, bI_and, bI_no _ hk, bI_tb hx hk, bI_tb hy hk, bI_nat hk, hQ])
  have et : z.toInt = (Q : Int) := by rw [e, Int32.toInt_ofNat_of_lt (by omega)]
  have en : z.toInt.toNat = Q := by omega
  refine ⟨by omega, fun k => by rw [en]; exact hQ k, ?_⟩
  rw [en]
  have : Q &&& X = Q := Nat.eq_of_testBit_eq (fun i => by
    rw [Nat.testBit_and, hQ]
    cases X.testBit i <;> cases Y.testBit i <;> rfl)
  rw [← this]
  exact Nat.and_le_right
theorem lw_ne : ∀ v : Nat, v < 1024 → v ≠ 0 → Int32.ofNat v &&& -Int32.ofNat v ≠ 0 := by decide +kernel
/-- who must be in -/
theorem lw_m {x : Int32} {X : Nat} (hx : x.toInt = (X : Int)) (h0 : X ≠ 0) (h1 : X < 1024) : ∃ m, m < 32 ∧ X.testBit m = true ∧ bI (-x) m = true := by
  have h := lw_ne X h1 h0
  rw [← i_k hx] at h
  rcases Classical.em (∃ m, m < 32 ∧ X.testBit m = true ∧ bI (-x) m = true) with g | g
  · exact g
  · refine absurd (bI_zero.mpr (fun k hk => ?_)) h
    rw [bI_and, bI_tb hx hk]
    cases h2 : X.testBit k with
    | false => rfl
    | true =>
      cases h3 : bI (-x) k with
      | false => rfl
      | true => exact absurd ⟨k, hk, h2, h3⟩ g
/-- what lies in sets, one behind the other, each new one the next -/
def sOk (B : Nat → Nat → Prop) (l : List Nat) (c : Nat) : Prop := ∀ i, i < l.length → ix l i = c → ¬ B i l.length
def sX (B : Nat → Nat → Prop) : Nat → List Nat → Nat → Nat → Prop
  | 0, _, u, v => v = u
  | k + 1, l, u, v => ∃ c, c ≤ u ∧ sOk B l c ∧ sX B k (c :: l) (if c = u then u + 1 else u) v
theorem sX_le {B : Nat → Nat → Prop} : ∀ {k : Nat} {l : List Nat} {u v : Nat}, sX B k l u v → u ≤ v
  | 0, l, u, v, h => by
    have h : v = u := h
    omega
  | k + 1, l, u, v, ⟨c, _, _, h⟩ => by
    have q := sX_le h
    by_cases e : c = u
    · rw [if_pos e] at q; omega
    · rw [if_neg e] at q; exact q
/-- it is a colouring -/
theorem sX_nsP {B : Nat → Nat → Prop} (hB : ∀ i j, B i j → B j i) : ∀ {k : Nat} {l : List Nat} {u v : Nat}, (∀ i, i < l.length → ix l i < u) → (∀ i j, i < j → j < l.length → ix l i = ix l j → ¬ B i j) → sX B k l u v → nsP B (fun i => i < l.length + k) v
  | 0, l, u, v, h1, h2, h => by
    have h : v = u := h
    rw [h]
    refine ⟨ix l, fun i hi => h1 i hi, fun i j hi hj hne he => ?_⟩
    rcases Nat.lt_or_ge i j with g | g
    · exact h2 i j g hj he
    · exact fun z => h2 j i (by omega) hi he.symm (hB _ _ z)
  | k + 1, l, u, v, h1, h2, ⟨c, hc, ho, h⟩ => by
    have r := sX_nsP hB (k := k) (l := c :: l) (u := if c = u then u + 1 else u) (fun i hi => by
      rw [List.length_cons] at hi
      by_cases e : i = l.length
      · rw [e, ix_h]
        by_cases e2 : c = u
        · rw [if_pos e2]; omega
        · rw [if_neg e2]; omega
      · have q := h1 i (by omega)
        rw [ix_t (by omega)]
        by_cases e2 : c = u
        · rw [if_pos e2]; omega
        · rw [if_neg e2]; exact q) (fun i j hij hj he => by
      rw [List.length_cons] at hj
      by_cases e : j = l.length
      · rw [e, ix_h, ix_t (by omega)] at he
        rw [e]
        exact ho i (by omega) he
      · rw [ix_t (by omega), ix_t (by omega)] at he
        exact h2 i j hij (by omega) he) h
    rw [List.length_cons] at r
    exact nsP_e (fun i => by show i < l.length + 1 + k ↔ i < l.length + (k + 1); omega) (fun _ _ _ _ => Iff.rfl) r
theorem pig : ∀ {k v : Nat} {f : Nat → Nat}, (∀ c, c < v → f c < k) → (∀ c d, c < v → d < v → f c = f d → c = d) → v ≤ k
  | 0, v, f, h, _ => by
    rcases Nat.eq_zero_or_pos v with g | g
    · omega
    · exact absurd (h 0 g) (Nat.not_lt_zero _)
  | k + 1, v, f, h, hi => by
    rcases Classical.em (∃ c, c < v ∧ f c = k) with ⟨c0, h0, e0⟩ | g
    · have q := pig (k := k) (v := v - 1) (f := fun c => f (if c < c0 then c else c + 1)) (fun c hc => by
        show f (if c < c0 then c else c + 1) < k
        by_cases e : c < c0
        · rw [if_pos e]
          have a := h c (by omega)
          have b : f c ≠ k := fun z => by have := hi c c0 (by omega) h0 (z.trans e0.symm); omega
          omega
        · rw [if_neg e]
          have a := h (c + 1) (by omega)
          have b : f (c + 1) ≠ k := fun z => by have := hi (c + 1) c0 (by omega) h0 (z.trans e0.symm); omega
          omega) (fun c d hc hd he => by
        have he : f (if c < c0 then c else c + 1) = f (if d < c0 then d else d + 1) := he
        by_cases e : c < c0 <;> by_cases e2 : d < c0
        · rw [if_pos e, if_pos e2] at he; exact hi c d (by omega) (by omega) he
        · rw [if_pos e, if_neg e2] at he; have := hi c (d + 1) (by omega) (by omega) he; omega
        · rw [if_neg e, if_pos e2] at he; have := hi (c + 1) d (by omega) (by omega) he; omega
        · rw [if_neg e, if_neg e2] at he; have := hi (c + 1) (d + 1) (by omega) (by omega) he; omega)
      omega
    · have q := pig (k := k) (v := v) (f := f) (fun c hc => by
        have a := h c hc
        have b : f c ≠ k := fun z => g ⟨c, hc, z⟩
        omega) hi
      omega
/-- every colouring has one that goes so, with no more -/
theorem nsP_sX {B : Nat → Nat → Prop} {N : Nat} {g : Nat → Nat} {k : Nat} (h1 : ∀ i, i < N → g i < k) (h2 : ∀ i j, i < N → j < N → i ≠ j → g i = g j → ¬ B i j) : ∀ {n : Nat} {l : List Nat} {u : Nat} {f : Nat → Nat}, l.length + n = N → (∀ i, i < l.length → ix l i < u ∧ g i = f (ix l i)) → (∀ c, c < u → f c < k) → (∀ c d, c < u → d < u → f c = f d → c = d) → ∃ v, v ≤ k ∧ sX B n l u v
  | 0, l, u, f, _, _, h5, h6 => ⟨u, pig h5 h6, rfl⟩
  | n + 1, l, u, f, h3, h4, h5, h6 => by
    rcases Classical.em (∃ c, c < u ∧ f c = g l.length) with ⟨c, c1, c2⟩ | q
    · obtain ⟨v, v1, v2⟩ := nsP_sX h1 h2 (n := n) (l := c :: l) (u := u) (f := f) (by rw [List.length_cons]; omega) (fun i hi => by
        rw [List.length_cons] at hi
        by_cases e : i = l.length
        · rw [e, ix_h]; exact ⟨c1, c2.symm⟩
        · rw [ix_t (by omega)]; exact h4 i (by omega)) h5 h6
      refine ⟨v, v1, c, by omega, fun i hi e => h2 i l.length (by omega) (by omega) (by omega) ?_, ?_⟩
      · rw [(h4 i hi).2, e, c2]
      · rw [if_neg (by omega)]; exact v2
    · obtain ⟨v, v1, v2⟩ := nsP_sX h1 h2 (n := n) (l := u :: l) (u := u + 1) (f := fun c => if c = u then g l.length else f c) (by rw [List.length_cons]; omega) (fun i hi => by
        rw [List.length_cons] at hi
        show _ ∧ g i = if ix (u :: l) i = u then g l.length else f (ix (u :: l) i)
        by_cases e : i = l.length
        · rw [e, ix_h, if_pos rfl]; exact ⟨by omega, rfl⟩
        · have z := h4 i (by omega)
          rw [ix_t (by omega), if_neg (by omega)]; exact ⟨by omega, z.2⟩) (fun c hc => by
        show (if c = u then g l.length else f c) < k
        by_cases e : c = u
        · rw [if_pos e]; exact h1 _ (by omega)
        · rw [if_neg e]; exact h5 c (by omega)) (fun c d hc hd he => by
        have he : (if c = u then g l.length else f c) = if d = u then g l.length else f d := he
        by_cases e : c = u <;> by_cases e2 : d = u
        · omega
        · rw [if_pos e, if_neg e2] at he; exact absurd ⟨d, by omega, he.symm⟩ q
        · rw [if_neg e, if_pos e2] at he; exact absurd ⟨c, by omega, he⟩ q
        · rw [if_neg e, if_neg e2] at he; exact h6 c d (by omega) (by omega) he)
      refine ⟨v, v1, u, Nat.le_refl _, fun i hi e => ?_, ?_⟩
      · have z := (h4 i hi).1
        omega
      · rw [if_pos rfl]; exact v2
/-- the least of those that go so is the fewest -/
theorem sX_nsF {B : Nat → Nat → Prop} (hB : ∀ i j, B i j → B j i) {N r : Nat} (hN : N ≤ 10) (h : r = 11 ∨ sX B N [] 0 r) (h2 : ∀ v, sX B N [] 0 v → r ≤ v) : nsF B (fun i => i < N) r := by
  have all : ∀ k, nsP B (fun i => i < N) k → r ≤ k := fun k ⟨g, g1, g2⟩ => by
    obtain ⟨v, v1, v2⟩ := nsP_sX (N := N) (B := B) (g := g) (k := k) g1 g2 (n := N) (l := []) (u := 0) (f := fun c => c) (Nat.zero_add N) (fun i hi => absurd hi (Nat.not_lt_zero _)) (fun c hc => absurd hc (Nat.not_lt_zero _)) (fun c d hc => absurd hc (Nat.not_lt_zero _))
    exact Nat.le_trans (h2 v v2) v1
  refine ⟨?_, all⟩
  rcases h with h | h
  · have q := all N (nsP_id (fun i hi => hi))
    omega
  · have q := sX_nsP hB (k := N) (l := []) (u := 0) (fun i hi => absurd hi (Nat.not_lt_zero _)) (fun i j _ hj => absurd hj (Nat.not_lt_zero _)) h
    exact nsP_e (fun i => by show i < 0 + N ↔ i < N; rw [Nat.zero_add]) (fun _ _ _ _ => Iff.rfl) q
