/-! shelves: elements that shift, rows -/
theorem rI_row {p : xH} {a b : Nat} (h : ∀ k, rV p a k = rV p b k) (k : Nat) : rI p a k = rI p b k := by unfold rI; rw [h]
abbrev T_shift : List (Nat × Nat) := [(65, 9999), (99, 9999), (100, 9999)]
theorem t_shift {ro : List (List Int32)} {p : xH} (hG : GH jGG p) (hS : C_sh p) (a0 a1 a2 a3 a4 : Int32) {n m d d' : Nat} :
    hP ro n d (11, 6, 1, 1, k169) 0 (lv_args 0 [.ref 0, .int a0, .int a1, .int a2, .int a3, .int a4]) [] p (fun v1 p1 => hP ro m d' (12, 7, 1, 1, k270) 0 (lv_args 0 [.ref 66, .int a0, .int a1, .int a2, .int a3, .int a4]) [] p1 (fun v2 p2 => v1 = v2 ∧ hNt T_shift p p2 ∧ C_sh p2)) := by
  have x64 := gh_64 hG a0.toInt.toNat
  have x98 := gh_98 hG a0.toInt.toNat
  have x97 := gh_97 hG a0.toInt.toNat
  have y64 := gh_64 hG a2.toInt.toNat
  have y98 := gh_98 hG a2.toInt.toNat
  have y97 := gh_97 hG a2.toInt.toNat
  have hx : 0 ≤ a0.toInt → a0.toInt < 6 → C_s1 p a0.toInt.toNat := fun h1 h2 => hS.1 _ (by omega)
  have hy : 0 ≤ a2.toInt → a2.toInt < 6 → C_s1 p a2.toInt.toNat := fun h1 h2 => hS.1 _ (by omega)
  unfold C_s1 at hx hy
  refine X_shift (xi := a0.toInt) (yi := a1.toInt) (ui := a2.toInt) (wi := a3.toInt) (ci := a4.toInt) rfl rfl rfl rfl rfl x64.1 x64.2 y64.1 y64.2 ?_ ?_ ?_ ?_ ?_
  · intro h1
    refine M_shift (xi := a0.toInt) (yi := a1.toInt) (ui := a2.toInt) (wi := a3.toInt) (ci := a4.toInt) rfl rfl rfl rfl rfl x98.1 x98.2 y98.1 y98.2 ?_ ?_ ?_ ?_ ?_
    · intros; exact ⟨rfl, hNt.refl _ _, hS⟩
    all_goals (intros; exfalso; omega)
  · intro h1 h2 h3 h4 h5
    have hx := hx h1 h2
    have hy := hy h3 h4
    refine M_shift (xi := a0.toInt) (yi := a1.toInt) (ui := a2.toInt) (wi := a3.toInt) (ci := a4.toInt) rfl rfl rfl rfl rfl x98.1 x98.2 y98.1 y98.2 ?_ ?_ ?_ ?_ ?_
    · intros; exfalso; omega
    · intros; exact ⟨rfl, hNt.refl _ _, hS⟩
    all_goals (intros; exfalso; omega)
  · intro h1 h2 h3 h4 h5 h6 h7
    have hx := hx h1 h2
    have hy := hy h3 h4
    refine M_shift (xi := a0.toInt) (yi := a1.toInt) (ui := a2.toInt) (wi := a3.toInt) (ci := a4.toInt) rfl rfl rfl rfl rfl x98.1 x98.2 y98.1 y98.2 ?_ ?_ ?_ ?_ ?_
    · intros; exfalso; omega
    · intros; exfalso; omega
    · intros; exact ⟨rfl, hNt.refl _ _, hS⟩
    all_goals (intros; exfalso; omega)
  · intro h1 h2 h3 h4 h5 h6 h7 h8
    have hx := hx h1 h2
    have hy := hy h3 h4
    refine M_shift (xi := a0.toInt) (yi := a1.toInt) (ui := a2.toInt) (wi := a3.toInt) (ci := a4.toInt) rfl rfl rfl rfl rfl x98.1 x98.2 y98.1 y98.2 ?_ ?_ ?_ ?_ ?_
    · intros; exfalso; omega
    · intros; exfalso; omega
    · intros; exfalso; omega
    · intros; exact ⟨rfl, hNt.refl _ _, hS⟩
    · intros; exfalso; omega
  · intro z p1 h1 h2 h3 h4 h5 h6 h7 h8 h9 h10 h11 h12 o1 hz
    have hx := hx h1 h2
    have hy := hy h3 h4
    have f97 : ∀ j, rI p1 97 j = rI p 97 j := fun j => o1.int (by decide)
    have f98 : ∀ j, rI p1 98 j = rI p 98 j := fun j => o1.int (by decide)
    refine M_shift (xi := a0.toInt) (yi := a1.toInt) (ui := a2.toInt) (wi := a3.toInt) (ci := a4.toInt) rfl rfl rfl rfl rfl (by rw [f98]; exact x98.1) (by rw [f98]; exact x98.2) (by rw [f98]; exact y98.1) (by rw [f98]; exact y98.2) ?_ ?_ ?_ ?_ ?_
    · intros; exfalso; omega
    · rw [f97, f97]; intros; exfalso; omega
    · rw [f97, f97]; intros; exfalso; omega
    · rw [f97, f97, f98, f98]; intros; exfalso; omega
    · intro z2 q1 p2 g1 g2 g3 g4 g5 g6 g7 g8 g9 g10 g11 o2 o3 hz2
      have fo : ∀ r k, r ≠ 65 → r ≠ 99 → r ≠ 100 → rV p2 r k = rV p r k := fun r k z1 z2 z3 => by rw [o3.1 r k z2, o2.1 r k z3, o1.1 r k z1]
      have fi : ∀ r k, r ≠ 65 → r ≠ 99 → r ≠ 100 → rI p2 r k = rI p r k := fun r k z1 z2 z3 => by unfold rI; rw [fo r k z1 z2 z3]
      refine ⟨by rw [Int32.toInt_inj.mp (hz.trans hz2.symm)], (((hNt.refl _ p).on o1 (fun _ => rfl)).on o2 (fun _ => rfl)).on o3 (fun _ => rfl), fun x hx => C_s1_eq (hS.1 x hx) (fi _ _ (by decide) (by decide) (by decide)) (fi _ _ (by decide) (by decide) (by decide)) (fi _ _ (by decide) (by decide) (by decide)) (fi _ _ (by decide) (by decide) (by decide)) (fi _ _ (by decide) (by decide) (by decide)) (fi _ _ (by decide) (by decide) (by decide)) (by rw [fi 57 1 (by decide) (by decide) (by decide)]; exact Int.le_refl _), fun k => ?_⟩
      rw [o3.1 65 k (by decide), o2.1 65 k (by decide), o1.2 k, o3.2 k]
      dsimp only
      by_cases hk : (60 * a2.toInt + a3.toInt).toNat ≤ k ∧ k < (60 * a2.toInt + a3.toInt).toNat + a4.toInt.toNat
      · rw [if_pos hk, if_pos hk, o2.2]
        dsimp only
        rw [if_pos (by omega), o1.1 99 _ (by decide), hS.2]
      · rw [if_neg hk, if_neg hk, o2.1 99 k (by decide), o1.1 99 k (by decide), hS.2]
