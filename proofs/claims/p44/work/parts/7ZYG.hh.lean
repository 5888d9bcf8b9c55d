/-! hats, of both -/
theorem hFr_e {M M' : Nat → Nat → Prop} {C C' : Nat → Nat → Nat → Nat → Prop} {S : Nat} (hM : ∀ q, q < S → ∀ c, c < 7 → (M q c ↔ M' q c)) (hC : ∀ i j, i < S → j < S → ∀ a b, (C i a j b ↔ C' i a j b)) {l : List Nat} {q c : Nat} (hl : l.length ≤ S) (hq : q < S) (hc : c < 7) : hFr M C l q c ↔ hFr M' C' l q c := by
  unfold hFr
  rw [hM q hq c hc]
  constructor
  · rintro ⟨h1, h2⟩
    exact ⟨h1, fun i hi g => h2 i hi ((hC i q (by omega) hq _ _).mpr g)⟩
  · rintro ⟨h1, h2⟩
    exact ⟨h1, fun i hi g => h2 i hi ((hC i q (by omega) hq _ _).mp g)⟩
theorem wA_e {f g : Nat → List (List Nat)} : ∀ {n : Nat}, (∀ a, a < n → f a = g a) → wA f n = wA g n
  | 0, _ => rfl
  | n + 1, h => by
    show wA f n ++ f n = wA g n ++ g n
    rw [wA_e (fun a ha => h a (by omega)), h n (by omega)]
theorem wY_e {M M' : Nat → Nat → Prop} {C C' : Nat → Nat → Nat → Nat → Prop} {S : Nat} (hM : ∀ q, q < S → ∀ c, c < 7 → (M q c ↔ M' q c)) (hC : ∀ i j, i < S → j < S → ∀ a b, (C i a j b ↔ C' i a j b)) : ∀ {k : Nat} {l : List Nat}, l.length + k ≤ S → wY M C k l = wY M' C' k l
  | 0, l, _ => rfl
  | k + 1, l, h => by
    rw [wY_s rfl, wY_s rfl]
    refine wA_e (fun a ha => ?_)
    unfold wZ
    rw [wY_e hM hC (k := k) (l := a :: l) (by rw [List.length_cons]; omega)]
    exact iP_e (hFr_e hM hC (by omega) (by omega) ha)
theorem find_mem {P : List Nat → Bool} {L : List (List Nat)} {x : List Nat} (h : L.find? P = some x) : x ∈ L := List.mem_of_find?_eq_some h
theorem hs_N {S : Nat} {M : Nat → Nat → Prop} {C : Nat → Nat → Nat → Nat → Prop} (hS : S ≤ 7) (h : (hsB S M C).1 = 8) {r : Nat × List Nat} (g : hmY S M C r) : False := by
  obtain ⟨g1, -, g3⟩ := g
  rcases hB_find (wY M C S []) (8, []) with ⟨h1, h2⟩ | ⟨h1, -, -⟩
  · have q := find_no2 (n := r.1) (r := 8) h2 (by omega)
    rw [q] at g3
    cases g3
  · have h : ((wY M C S []).foldl hBb (8, [])).1 = 8 := h
    have h1 : ((wY M C S []).foldl hBb (8, [])).1 < 8 := h1
    omega
theorem hs_Y {S : Nat} {M : Nat → Nat → Prop} {C : Nat → Nat → Nat → Nat → Prop} (h : (hsB S M C).1 ≤ 7) : hmY S M C (hsB S M C) := by
  rcases hB_find (wY M C S []) (8, []) with ⟨h1, h2⟩ | ⟨h1, h2, h3⟩
  · have h : ((wY M C S []).foldl hBb (8, [])).1 ≤ 7 := h
    rw [h1] at h
    exact absurd h (by decide)
  · have e0 := List.find?_some h2
    have e := of_decide_eq_true e0
    have q := wY_len (find_mem h2)
    have n1 := hn_len (hsB S M C).2
    refine ⟨?_, fun m hm => find_no2 h3 hm, h2⟩
    have e : hn (hsB S M C).2 = (hsB S M C).1 := e
    have q : (hsB S M C).2.length = ([] : List Nat).length + S := q
    have z : ([] : List Nat).length = 0 := rfl
    omega
theorem hmY_1 {S : Nat} {M : Nat → Nat → Prop} {C : Nat → Nat → Nat → Nat → Prop} {r s : Nat × List Nat} (h : hmY S M C r) (g : hmY S M C s) : r = s := by
  obtain ⟨h1, h2, h3⟩ := h
  obtain ⟨g1, g2, g3⟩ := g
  have e : r.1 = s.1 := by
    rcases Nat.lt_trichotomy r.1 s.1 with z | z | z
    · rw [g2 _ z] at h3; cases h3
    · exact z
    · rw [h2 _ z] at g3; cases g3
  rw [e] at h3
  rw [h3] at g3
  exact Prod.ext e (Option.some.inj g3)
theorem hm_NY {S : Nat} {M : Nat → Nat → Prop} {C : Nat → Nat → Nat → Nat → Prop} {r : Nat × List Nat} (h : hmN S M C) (g : hmY S M C r) : False := by
  obtain ⟨g1, -, g3⟩ := g
  rw [h _ g1] at g3
  cases g3
theorem gh_15 {p : xH} (h : GH jGG p) (k : Nat) : 0 ≤ (rI p 15 k).toInt ∧ (rI p 15 k).toInt < 64 := by
  have q : 0 ≤ (rI p 15 k).toInt ∧ (rI p 15 k).toInt ≤ 63 := gh_any h (r := 15) rfl (by decide) (by decide) k
  exact ⟨q.1, by omega⟩
abbrev T_hats : List (Nat × Nat) := [(20, 4), (23, 9999), (24, 9999), (66, 15), (66, 16), (66, 17), (66, 18), (66, 19), (77, 9999), (45, 9999), (46, 9999), (47, 9999), (48, 9999), (44, 6), (86, 9999), (87, 9999)]
theorem t_hats {ro : List (List Int32)} {p : xH} (hG : GH jGG p) (hZ : C_sz p) (hcr : C_cr p) (hl : C_lw p) (a0 : Int32) {n m d d' : Nat} :
    hP ro n d (11, 2, 1, 1, k145) 0 (lv_args 0 [.ref 0, .int a0]) [] p (fun v1 p1 => hP ro m d' (12, 3, 1, 1, k231) 0 (lv_args 0 [.ref 66, .int a0]) [] p1 (fun v2 p2 => v1 = v2 ∧ hNt T_hats p p2)) := by
  have hb := gh_sz hG
  obtain ⟨lo, hx, hm2⟩ := hl
  have eM : ∀ q, q < (rI p 13 7).toInt.toNat → ∀ c, c < 7 → (hM p 15 0 q c ↔ hM p 67 7 q c) := fun q hq c _ => by
    unfold hM
    rw [Nat.zero_add, rI_same (hcr.2.1 q (by omega))]
  have eC : ∀ i j, i < (rI p 13 7).toInt.toNat → j < (rI p 13 7).toInt.toNat → ∀ a b, (kX p lo i a j b ↔ kM p lo i a j b) := fun i j hi hj a b => by
    unfold kX kM hC
    rw [rI_same (hcr.1 i (by omega)), rI_same (hcr.1 j (by omega)), hcr.2.2.2.2.1, hcr.2.2.2.1]
  have eY : ∀ r, hmY (rI p 13 7).toInt.toNat (hM p 67 7) (kM p lo) r ↔ hmY (rI p 13 7).toInt.toNat (hM p 15 0) (kX p lo) r := fun r => by
    unfold hmY
    rw [wY_e eM eC (l := []) (by show 0 + _ ≤ _; omega)]
  have eN : hmN (rI p 13 7).toInt.toNat (hM p 67 7) (kM p lo) ↔ hmN (rI p 13 7).toInt.toNat (hM p 15 0) (kX p lo) := by
    unfold hmN
    rw [wY_e eM eC (l := []) (by show 0 + _ ≤ _; omega)]
  have hS7 : (rI p 13 7).toInt.toNat ≤ 7 := by omega
  refine X_hats lo (xi := a0.toInt) rfl hx hb.1 hb.2 (gh_15 hG) ?_ ?_ ?_ ?_
  · intro h1 h2
    obtain ⟨q1, q2, q3, q4, q5, q6, -, -⟩ := pre_M hG hZ hm2 (hNt.refl [] p) (by decide +kernel)
    refine M_hats lo (xi := a0.toInt) rfl q1 q2 q3 q4 q5 ?_ ?_ ?_ ?_
    · intros; exact ⟨rfl, hNt.refl _ _⟩
    · intro p2 _ g _; rw [q6] at g; rcases g with g | g; exact absurd g h1; exact absurd g h2
    · intro r z p2 _ g _ _; exact absurd g h1
    · intro r z p2 _ g1 g2 _ _; rw [q6] at g2; exact absurd ⟨g1, g2⟩ h2
  · intro p1 n1 h1 h2
    obtain ⟨q1, q2, q3, q4, q5, q6, -, -⟩ := pre_M hG hZ hm2 n1 (by decide +kernel)
    have e67 : ∀ j, rI p1 67 j = rI p 67 j := fun j => n1.int (r := 67) rfl
    refine M_hats lo (xi := a0.toInt) rfl q1 q2 q3 q4 q5 ?_ ?_ ?_ ?_
    · intro g1 g2; rw [q6] at g2; rcases h1 with h1 | h1; exact absurd h1 g1; exact absurd h1 g2
    · intro p2 n2 _ _; exact ⟨rfl, (n1.up (by decide)).trans (n2.up (by decide))⟩
    · intro r z p2 n2 _ g _
      rw [q6, hM_e e67, kM_e e67, eY] at g
      exact (hs_N hS7 h2 g).elim
    · intro r z p2 n2 _ _ g _
      rw [q6, hM_e e67, kM_e e67, eY] at g
      exact (hs_N hS7 h2 g).elim
  · intro z p1 n1 h1 h2 hz
    obtain ⟨q1, q2, q3, q4, q5, q6, -, -⟩ := pre_M hG hZ hm2 n1 (by decide +kernel)
    have e67 : ∀ j, rI p1 67 j = rI p 67 j := fun j => n1.int (r := 67) rfl
    refine M_hats lo (xi := a0.toInt) rfl q1 q2 q3 q4 q5 ?_ ?_ ?_ ?_
    · intro g1 g2; exact absurd h1 g1
    · intro p2 n2 _ g
      rw [q6, hM_e e67, kM_e e67, eN] at g
      exact (hm_NY g (hs_Y h2)).elim
    · intro r z2 p2 n2 _ g hz2
      rw [q6, hM_e e67, kM_e e67, eY] at g
      rw [hmY_1 g (hs_Y h2)] at hz2
      refine ⟨?_, (n1.up (by decide)).trans (n2.up (by decide))⟩
      rw [Int32.toInt_inj.mp (hz.trans hz2.symm)]
    · intro r z2 p2 n2 g _ _ _; exfalso; omega
  · intro z p1 n1 h1 h2 h3 hz
    obtain ⟨q1, q2, q3, q4, q5, q6, -, -⟩ := pre_M hG hZ hm2 n1 (by decide +kernel)
    have e67 : ∀ j, rI p1 67 j = rI p 67 j := fun j => n1.int (r := 67) rfl
    refine M_hats lo (xi := a0.toInt) rfl q1 q2 q3 q4 q5 ?_ ?_ ?_ ?_
    · intro g1 g2; rw [q6] at g2; exact absurd ⟨h1, h2⟩ g2
    · intro p2 n2 _ g
      rw [q6, hM_e e67, kM_e e67, eN] at g
      exact (hm_NY g (hs_Y h3)).elim
    · intro r z2 p2 n2 g _ _; exfalso; omega
    · intro r z2 p2 n2 _ _ g hz2
      rw [q6, hM_e e67, kM_e e67, eY] at g
      rw [hmY_1 g (hs_Y h3)] at hz2
      refine ⟨?_, (n1.up (by decide)).trans (n2.up (by decide))⟩
      rw [Int32.toInt_inj.mp (hz.trans hz2.symm)]
