/-! plan, led, of both -/
theorem lf_none {w : Int → Int} (h : ∀ m, w m = -1) : ∀ n : Nat, lf w n = (-2, -2)
  | 0 => rfl
  | n + 1 => by rw [lf_n (by rw [h]; decide)]; exact lf_none h n
theorem lf_q {w : Int → Int} {g f : Int} (g0 : 0 ≤ g) (gf : g < f) (wg : 0 ≤ w g) (wf : 0 ≤ w (f - 1)) (hg : ∀ m, m < g → w m = -1) (hf : ∀ m, f ≤ m → w m = -1) : ∀ n : Nat, ((n : Int) ≤ g → lf w n = (-2, -2)) ∧ (g < (n : Int) → (lf w n).1 = g) ∧ (f ≤ (n : Int) → (lf w n).2 = f - 1)
  | 0 => ⟨fun _ => rfl, fun h => absurd h (by omega), fun h => absurd h (by omega)⟩
  | n + 1 => by
    obtain ⟨a, b, c⟩ := lf_q g0 gf wg wf hg hf n
    by_cases h : 0 ≤ w n
    · rw [lf_y h]
      have h1 : g ≤ (n : Int) := by
        rcases Int.lt_or_le (n : Int) g with q | q
        · rw [hg _ q] at h; exact absurd h (by decide)
        · exact q
      have h2 : (n : Int) < f := by
        rcases Int.lt_or_le (n : Int) f with q | q
        · exact q
        · rw [hf _ q] at h; exact absurd h (by decide)
      refine ⟨fun q => absurd q (by push_cast; omega), fun _ => ?_, fun q => ?_⟩
      · show (if (lf w n).1 < 0 then (n : Int) else (lf w n).1) = g
        by_cases e : (n : Int) = g
        · rw [a (by omega), if_pos (by decide)]; exact e
        · rw [b (by omega), if_neg (by omega)]
      · show (n : Int) = f - 1
        push_cast at q
        omega
    · rw [lf_n h]
      refine ⟨fun q => a (by push_cast at q; omega), fun q => b ?_, fun q => c ?_⟩
      · push_cast at q
        rcases Int.lt_or_le g (n : Int) with q2 | q2
        · exact q2
        · exfalso; rw [show (n : Int) = g by omega] at h; exact h wg
      · push_cast at q
        rcases Int.lt_or_le (n : Int) f with q2 | q2
        · exfalso; rw [show (n : Int) = f - 1 by omega] at h; exact h wf
        · exact q2
/-- one's day: nothing, or as dI says -/
def dOk (r : dS) : Prop := r = none ∨ ∃ k q, r = some q ∧ dI k q
theorem lf_ok {r : dS} (h : dOk r) : (dFi r < 0 ∧ lf (dw r) 30 = (-2, -2)) ∨ (0 ≤ dFi r ∧ lf (dw r) 30 = (dFi r, dLa r)) := by
  rcases h with rfl | ⟨k, q, rfl, i1, i2, i3, i4, i5⟩
  · exact Or.inl ⟨by decide, lf_none (fun _ => rfl) 30⟩
  · rcases i5 with ⟨a, b, c, d⟩ | ⟨a, b, c, d, e, f⟩
    · exact Or.inl ⟨by show q.1 < 0; omega, lf_none (fun m => d m) 30⟩
    · refine Or.inr ⟨b, ?_⟩
      obtain ⟨-, u1, u2⟩ := lf_q (w := q.2.2) b c d e f i3 30
      have v1 := u1 (by show q.1 < 30; omega)
      have v2 := u2 (by show q.2.1 ≤ 30; omega)
      show lf q.2.2 30 = (q.1, q.2.1 - 1)
      rw [← v1, ← v2]
theorem plX_I {p : xH} {A : Nat → Nat → Prop} {S : Nat} (h : hEr p) : ∀ {l : List Nat}, (∀ j ∈ l, j < 7) → ∀ j, dOk (plX p A S l j)
  | [], _, j => Or.inl rfl
  | n :: l, hl, j => by
    by_cases g : j = n
    · rw [g]
      show dOk (dL _ _ _ _ _ (n :: l) n)
      rw [dL_h]
      cases hq : dK (dSh A S (dL A S (dre p 17) (drs p 18) (drs p 19) l) l n) (drs p 18 n) (drs p 19 n) (dre p 17 n) with
      | none => exact Or.inl rfl
      | some q => exact Or.inr ⟨_, q, rfl, dK_inv (hEr_s h n) (hEr_t h (hl n List.mem_cons_self)) (Nat.le_refl _) hq⟩
    · show dOk (dL _ _ _ _ _ (n :: l) j)
      rw [dL_t g]
      exact plX_I h (fun j hj => hl j (List.mem_cons_of_mem _ hj)) j
/-- what the latest plan told -/
abbrev F_ld : List (Nat × Nat) := [(13, 7), (34, 12), (42, 9999), (43, 9999), (82, 9999), (83, 9999)]
def C_ld (p : xH) : Prop := (rI p 34 12).toInt ≤ (rI p 13 7).toInt ∧ ∀ j : Nat, j < 7 → ((j : Int) < (rI p 34 12).toInt ∧ (((rI p 42 j).toInt < 0 ∧ (rI p 82 j).toInt = -2 ∧ (rI p 83 j).toInt = -2) ∨ (0 ≤ (rI p 42 j).toInt ∧ rI p 42 j = rI p 82 j ∧ rI p 43 j = rI p 83 j))) ∨ ((rI p 34 12).toInt ≤ (j : Int) ∧ (rI p 82 j).toInt = -5 ∧ (rI p 83 j).toInt = -5)
theorem C_ld_up {p p1 : xH} (h : hSm [(34, 12), (42, 9999), (43, 9999), (82, 9999), (83, 9999)] p p1) (hz : (rI p 13 7).toInt ≤ (rI p1 13 7).toInt) (c : C_ld p) : C_ld p1 := by
  have e12 : rI p1 34 12 = rI p 34 12 := h.int rfl
  refine ⟨by rw [e12]; have := c.1; omega, fun j hj => ?_⟩
  rw [e12, show rI p1 42 j = rI p 42 j from h.int rfl, show rI p1 43 j = rI p 43 j from h.int rfl, show rI p1 82 j = rI p 82 j from h.int rfl, show rI p1 83 j = rI p 83 j from h.int rfl]
  exact c.2 j hj
theorem C_ld_fr {p p1 : xH} (h : hSm F_ld p p1) (c : C_ld p) : C_ld p1 := C_ld_up (fun r k e => h r k (by
  obtain ⟨f, hf, hf2⟩ := List.any_eq_true.mp e
  exact List.any_eq_true.mpr ⟨f, List.mem_cons_of_mem _ hf, hf2⟩)) (by rw [h.int (r := 13) (k := 7) rfl]; exact Int.le_refl _) c
abbrev T_plan : List (Nat × Nat) := [(20, 4), (23, 9999), (24, 9999), (66, 15), (66, 16), (66, 17), (66, 18), (66, 19), (77, 9999), (33, 9999), (78, 9999), (35, 9999), (36, 9999), (37, 9999), (38, 9999), (39, 9999), (79, 9999), (80, 9999), (81, 9999), (66, 25), (42, 9999), (43, 9999), (34, 12), (82, 9999), (83, 9999)]
theorem t_plan {ro : List (List Int32)} {p : xH} (hG : GH jGG p) (hZ : C_sz p) (hcr : C_cr p) (hh : C_ht p) (hE : C_er p) (hem : C_em p) (hmo : C_mo p) (hl : C_lw p) {n m d d' : Nat} :
    hP ro n d (11, 1, 1, 1, k139) 0 (lv_args 0 [.ref 0]) [] p (fun v1 p1 => hP ro m d' (12, 3, 1, 1, k220) 0 (lv_args 0 [.ref 66]) [] p1 (fun v2 p2 => v1 = v2 ∧ hNt T_plan p p2 ∧ (C_ld p → C_ld p2))) := by
  have hb := gh_sz hG
  have hm := gh_mo hG
  have e1 := hEr_of hG hem
  have e2 := hEm_of e1 hE
  have hZ0 : rI p 13 7 = rI p 66 6 := hZ
  obtain ⟨lo, hx, hm2⟩ := hl
  refine X_plan lo hx (fun j => (gh_2 hG j).1) hb.1 hb.2 hm.1 hm.2 e1 ?_
  intro z p1 n1 hz h4 h12
  obtain ⟨q1, q2, q3, q4, q5, q6, q7, -⟩ := pre_M hG hZ hm2 n1 (by decide +kernel)
  have u72 : ∀ j, rI p1 72 j = rI p 72 j := fun j => n1.int (r := 72) rfl
  have u73 : ∀ j, rI p1 73 j = rI p 73 j := fun j => n1.int (r := 73) rfl
  have u74 : ∀ j, rI p1 74 j = rI p 74 j := fun j => n1.int (r := 74) rfl
  refine M_plan lo q1 q2 q3 q4 q5 (hEm_e e2 u72 u73 u74) ?_
  intro z2 p2 n2 hz2 h8 h9
  rw [q7, q6, plM_e u72 u73 u74, ← pl_same hG hcr hh hE hmo (by omega) (fun j hj => dN_mem.mp hj)] at h8
  rw [q7, q6, plM_e u72 u73 u74, ← pl_same hG hcr hh hE hmo (by omega) (fun j hj => dN_mem.mp hj), drt_e u72 u74, ← drt_same hE] at hz2
  rw [q6] at h9
  refine ⟨by rw [hz, hz2], (n1.up (by decide)).trans (n2.up (by decide)), fun c => ?_⟩
  have f12 : rI p2 34 12 = rI p 13 7 := by rw [n2.int (r := 34) (k := 12) rfl, h12]
  have f13 : rI p2 13 7 = rI p 13 7 := by rw [n2.int (r := 13) (k := 7) rfl, n1.int (r := 13) (k := 7) rfl]
  refine ⟨by rw [f12, f13]; exact Int.le_refl _, fun j hj => ?_⟩
  rw [f12, show rI p2 42 j = rI p1 42 j from n2.int rfl, show rI p2 43 j = rI p1 43 j from n2.int rfl]
  by_cases g : (j : Int) < (rI p 13 7).toInt
  · refine Or.inl ⟨g, ?_⟩
    obtain ⟨a1, a2⟩ := h4 j (by omega)
    obtain ⟨b1, b2⟩ := h8 j (by omega)
    rcases lf_ok (plX_I (A := Xal p lo 0) (S := (rI p 13 7).toInt.toNat) e1 (l := dN (rI p 13 7).toInt.toNat) (fun i hi => by have q := dN_mem.mp hi; omega) j) with ⟨c1, c2⟩ | ⟨c1, c2⟩
    · rw [c2] at b1 b2
      exact Or.inl ⟨by rw [a1]; exact c1, b1, b2⟩
    · rw [c2] at b1 b2
      exact Or.inr ⟨by rw [a1]; exact c1, Int32.toInt_inj.mp (a1.trans b1.symm), Int32.toInt_inj.mp (a2.trans b2.symm)⟩
  · refine Or.inr ⟨by omega, ?_⟩
    obtain ⟨b1, b2⟩ := h9 j (by omega)
    rw [b1, b2, n1.int (r := 82) rfl, n1.int (r := 83) rfl]
    rcases c.2 j hj with ⟨c1, -⟩ | ⟨-, c2⟩
    · have := c.1; exfalso; omega
    · exact c2
theorem t_led {ro : List (List Int32)} {p : xH} (hG : GH jGG p) (hZ : C_sz p) (hd : C_ld p) (a0 a1 : Int32) {n m d d' : Nat} :
    hP ro n d (11, 3, 1, 1, k144) 0 (lv_args 0 [.ref 0, .int a0, .int a1]) [] p (fun v1 p1 => hP ro m d' (12, 3, 1, 1, k226) 0 (lv_args 0 [.ref 66, .int a0, .int a1]) [] p1 (fun v2 p2 => v1 = v2 ∧ hNt [] p p2)) := by
  have hb := gh_sz hG
  have hZ0 : rI p 13 7 = rI p 66 6 := hZ
  have z0 : 0 ≤ (rI p 66 6).toInt := by rw [← hZ0]; exact hb.1
  have es : (rI p 13 7).toInt = (rI p 66 6).toInt := by rw [hZ0]
  have key : ∀ v1 : Option Value, (¬ (0 ≤ a0.toInt ∧ a0.toInt < (rI p 66 6).toInt ∧ 0 ≤ a1.toInt ∧ a1.toInt ≤ 1) → v1 = some (.int (-1))) → (0 ≤ a0.toInt → a0.toInt < (rI p 66 6).toInt → a1.toInt = 0 → v1 = some (.int (rI p 82 a0.toInt.toNat))) → (0 ≤ a0.toInt → a0.toInt < (rI p 66 6).toInt → a1.toInt = 1 → v1 = some (.int (rI p 83 a0.toInt.toNat))) → hP ro m d' (12, 3, 1, 1, k226) 0 (lv_args 0 [.ref 66, .int a0, .int a1]) [] p (fun v2 p2 => v1 = v2 ∧ hNt [] p p2) := fun v1 k0 k1 k2 => by
    refine M_led (xi := a0.toInt) (yi := a1.toInt) rfl rfl z0 ?_ ?_ ?_
    · intro h; exact ⟨k0 h, hNt.refl _ _⟩
    · intro h1 h2 h3; exact ⟨k1 h1 h2 h3, hNt.refl _ _⟩
    · intro h1 h2 h3; exact ⟨k2 h1 h2 h3, hNt.refl _ _⟩
  have dd : 0 ≤ a0.toInt → a0.toInt < (rI p 13 7).toInt → _ := fun h1 h2 => hd.2 a0.toInt.toNat (by omega)
  refine X_led (xi := a0.toInt) (yi := a1.toInt) rfl rfl ?_ ?_ ?_ ?_ ?_
  · intro h
    rw [hZ0] at h
    refine key _ (fun _ => rfl) (fun h1 h2 h3 => absurd ⟨h1, h2, by omega, by omega⟩ h) (fun h1 h2 h3 => absurd ⟨h1, h2, by omega, by omega⟩ h)
  · intro h1 h2 h3 h4
    rcases dd h1 h2 with ⟨c1, -⟩ | ⟨c1, c2, c3⟩
    · exfalso; omega
    · refine key _ (fun g => absurd ⟨h1, by omega, h3.1, h3.2⟩ g) (fun _ _ _ => ?_) (fun _ _ _ => ?_)
      · rw [show rI p 82 a0.toInt.toNat = -5 from Int32.toInt_inj.mp (by rw [c2]; decide)]
      · rw [show rI p 83 a0.toInt.toNat = -5 from Int32.toInt_inj.mp (by rw [c3]; decide)]
  · intro h1 h2 h3 h4 h5
    rcases dd h1 h2 with ⟨c1, ⟨c2, c3, c4⟩ | ⟨c2, c3, c4⟩⟩ | ⟨c1, -⟩
    · refine key _ (fun g => absurd ⟨h1, by omega, h3.1, h3.2⟩ g) (fun _ _ _ => ?_) (fun _ _ _ => ?_)
      · rw [show rI p 82 a0.toInt.toNat = -2 from Int32.toInt_inj.mp (by rw [c3]; decide)]
      · rw [show rI p 83 a0.toInt.toNat = -2 from Int32.toInt_inj.mp (by rw [c4]; decide)]
    · exfalso; omega
    · exfalso; omega
  · intro h1 h2 h3 h4 h5
    rcases dd h1 h2 with ⟨c1, ⟨c2, c3, c4⟩ | ⟨c2, c3, c4⟩⟩ | ⟨c1, -⟩
    · exfalso; omega
    · exact key _ (fun g => absurd ⟨h1, by omega, by omega, by omega⟩ g) (fun _ _ _ => by rw [c3]) (fun _ _ _ => absurd h3 (by omega))
    · exfalso; omega
  · intro h1 h2 h3 h4 h5
    rcases dd h1 h2 with ⟨c1, ⟨c2, c3, c4⟩ | ⟨c2, c3, c4⟩⟩ | ⟨c1, -⟩
    · exfalso; omega
    · exact key _ (fun g => absurd ⟨h1, by omega, by omega, by omega⟩ g) (fun _ _ _ => absurd h3 (by omega)) (fun _ _ _ => by rw [c4])
    · exfalso; omega
