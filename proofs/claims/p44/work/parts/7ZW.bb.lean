/-! best, of both -/
theorem cN_e {A A' : Nat → Nat → Prop} {S : Nat} {e : Nat → Nat} {s t : Nat → Nat → Int} (h : ∀ x y, x < S → y < S → (A x y ↔ A' x y)) {l : List Nat} {n : Nat} (hl : ∀ j ∈ l, j < S) (hn : n < S) : cN A S e s t l n = cN A' S e s t l n := by
  have k := congrFun (dL_e (e := e) (s := s) (t := t) h (l := n :: l) (fun j hj => by
    rcases List.mem_cons.mp hj with z | z
    · rw [z]; exact hn
    · exact hl j z)) n
  rw [dL_h, dL_h] at k
  unfold cN
  rw [k]
theorem cL_e {A A' : Nat → Nat → Prop} {S : Nat} {e : Nat → Nat} {s t : Nat → Nat → Int} (h : ∀ x y, x < S → y < S → (A x y ↔ A' x y)) : ∀ {l : List Nat}, (∀ j ∈ l, j < S) → cL A S e s t l = cL A' S e s t l
  | [], _ => rfl
  | n :: l, hl => by
    have hl2 : ∀ j ∈ l, j < S := fun j hj => hl j (List.mem_cons_of_mem _ hj)
    show cL A S e s t l + cN A S e s t l n = cL A' S e s t l + cN A' S e s t l n
    rw [cL_e h hl2, cN_e h hl2 (hl n List.mem_cons_self)]
theorem bR_e {β : Type} {f g : Nat → β → β} {b : β} : ∀ {n : Nat}, (∀ m, m < n → ∀ b, f m b = g m b) → bR f n b = bR g n b
  | 0, _ => rfl
  | n + 1, h => by
    show f n (bR f n b) = g n (bR g n b)
    rw [bR_e (n := n) (fun m hm => h m (by omega)), h n (by omega)]
theorem bS_e {A A' : Nat → Nat → Prop} {S : Nat} {e : Nat → Nat} {s t : Nat → Nat → Int} (h : ∀ x y, x < S → y < S → (A x y ↔ A' x y)) : ∀ {k : Nat} {l : List Nat} {b : Int × List Nat}, (∀ j ∈ l, j < S) → bS A S e s t k l b = bS A' S e s t k l b
  | 0, l, b, hl => by
    show (if cL A S e s t l < b.1 then (cL A S e s t l, l) else b) = if cL A' S e s t l < b.1 then (cL A' S e s t l, l) else b
    rw [cL_e h hl]
  | k + 1, l, b, hl => bR_e (fun m hm b => by
    show (if m ∈ l then b else bS A S e s t k (m :: l) b) = if m ∈ l then b else bS A' S e s t k (m :: l) b
    rw [bS_e (k := k) (l := m :: l) h (fun j hj => by
      rcases List.mem_cons.mp hj with z | z
      · rw [z]; exact hm
      · exact hl j z)])
abbrev T_best : List (Nat × Nat) := [(20, 4), (23, 9999), (24, 9999), (66, 15), (66, 16), (66, 17), (66, 18), (66, 19), (77, 9999), (33, 9999), (78, 9999), (35, 9999), (36, 9999), (37, 9999), (38, 9999), (39, 9999), (79, 9999), (80, 9999), (81, 9999), (66, 25), (40, 9999), (41, 9999), (34, 9), (84, 9999), (85, 9999), (66, 30)]
theorem t_best {ro : List (List Int32)} {p : xH} (hG : GH jGG p) (hZ : C_sz p) (hcr : C_cr p) (hh : C_ht p) (hE : C_er p) (hem : C_em p) (hmo : C_mo p) (hl : C_lw p) (a0 : Int32) {n m d d' : Nat} :
    hP ro n d (11, 2, 1, 1, k142) 0 (lv_args 0 [.ref 0, .int a0]) [] p (fun v1 p1 => hP ro m d' (12, 2, 1, 1, k224) 0 (lv_args 0 [.ref 66, .int a0]) [] p1 (fun v2 p2 => v1 = v2 ∧ hNt T_best p p2)) := by
  have hb := gh_sz hG
  have hm := gh_mo hG
  have e1 := hEr_of hG hem
  have e2 := hEm_of e1 hE
  obtain ⟨lo, hx, hm2⟩ := hl
  have same : bS (Xal p lo 0) (rI p 13 7).toInt.toNat (dre p 17) (drs p 18) (drs p 19) (rI p 13 7).toInt.toNat [] (211, []) = bS (Mal p lo) (rI p 13 7).toInt.toNat (dre p 72) (drs p 73) (drs p 74) (rI p 13 7).toInt.toNat [] (211, []) := by
    rw [dre_same hE, drs_same hE.2.1, drs_same hE.2.2]
    exact bS_e (fun _ _ hx hy => al_same hG hcr hh hmo (by omega) (by omega)) (fun j hj => (by cases hj))
  refine X_best lo (xi := a0.toInt) rfl hx (fun j => (gh_2 hG j).1) hb.1 hb.2 hm.1 hm.2 e1 ?_ ?_ ?_
  · intro h1
    obtain ⟨q1, q2, q3, q4, q5, q6, q7, -⟩ := pre_M hG hZ hm2 (hNt.refl [] p) (by decide +kernel)
    refine M_best lo (xi := a0.toInt) rfl q1 q2 q3 q4 q5 e2 ?_ ?_ ?_
    · intros; exact ⟨rfl, hNt.refl _ _⟩
    · intro z p2 _ g1 _; exact absurd ⟨by omega, by omega⟩ h1
    · intro z p2 _ g1 g2 _; rw [q6] at g2; exact absurd ⟨by omega, g2⟩ h1
  · intro z p1 n1 h1 hz
    obtain ⟨q1, q2, q3, q4, q5, q6, q7, -⟩ := pre_M hG hZ hm2 n1 (by decide +kernel)
    have u72 : ∀ j, rI p1 72 j = rI p 72 j := fun j => n1.int (r := 72) rfl
    have u73 : ∀ j, rI p1 73 j = rI p 73 j := fun j => n1.int (r := 73) rfl
    have u74 : ∀ j, rI p1 74 j = rI p 74 j := fun j => n1.int (r := 74) rfl
    refine M_best lo (xi := a0.toInt) rfl q1 q2 q3 q4 q5 (hEm_e e2 u72 u73 u74) ?_ ?_ ?_
    · intro g; exact absurd ⟨by omega, by omega⟩ g
    · intro z2 p2 n2 _ hz2
      rw [q7, q6, dre_e u72, drs_e u73, drs_e u74, ← same] at hz2
      refine ⟨?_, (n1.up (by decide)).trans (n2.up (by decide))⟩
      rw [Int32.toInt_inj.mp (hz.trans hz2.symm)]
    · intros; exfalso; omega
  · intro z p1 n1 h1 h2 hz
    obtain ⟨q1, q2, q3, q4, q5, q6, q7, -⟩ := pre_M hG hZ hm2 n1 (by decide +kernel)
    have u72 : ∀ j, rI p1 72 j = rI p 72 j := fun j => n1.int (r := 72) rfl
    have u73 : ∀ j, rI p1 73 j = rI p 73 j := fun j => n1.int (r := 73) rfl
    have u74 : ∀ j, rI p1 74 j = rI p 74 j := fun j => n1.int (r := 74) rfl
    refine M_best lo (xi := a0.toInt) rfl q1 q2 q3 q4 q5 (hEm_e e2 u72 u73 u74) ?_ ?_ ?_
    · intro g; rw [q6] at g; exact absurd ⟨by omega, h2⟩ g
    · intros; exfalso; omega
    · intro z2 p2 n2 _ _ hz2
      rw [q7, q6, dre_e u72, drs_e u73, drs_e u74, ← same] at hz2
      refine ⟨?_, (n1.up (by decide)).trans (n2.up (by decide))⟩
      rw [Int32.toInt_inj.mp (hz.trans hz2.symm)]
