/-! at least, of both -/
theorem gh_15s {p : xH} (h : GH jGG p) : 0 ≤ (rI p 1 5).toInt ∧ (rI p 1 5).toInt ≤ 10 := gh_fld h (r := 1) (k := 5) rfl rfl
theorem gh_89 {p : xH} (h : GH jGG p) (k : Nat) : 0 ≤ (rI p 89 k).toInt ∧ (rI p 89 k).toInt < 64 := by
  have q : 0 ≤ (rI p 89 k).toInt ∧ (rI p 89 k).toInt ≤ 63 := gh_any h (r := 89) rfl (by decide) (by decide) k
  exact ⟨q.1, by omega⟩
abbrev T_atl : List (Nat × Nat) := [(50, 9999), (51, 9999), (49, 5), (90, 9999), (91, 9999)]
theorem t_atLeast {ro : List (List Int32)} {p : xH} (hG : GH jGG p) (hS : C_si p) (a0 : Int32) {n m d d' : Nat} :
    hP ro n d (11, 2, 1, 1, k153) 0 (lv_args 0 [.ref 0, .int a0]) [] p (fun v1 p1 => hP ro m d' (12, 5, 1, 1, k242) 0 (lv_args 0 [.ref 66, .int a0]) [] p1 (fun v2 p2 => v1 = v2 ∧ hNt T_atl p p2)) := by
  have b1 := gh_15s hG
  have b34 := gh_34 hG
  have s1 : rI p 1 5 = rI p 66 34 := hS.1
  refine X_atLeast (hi := a0.toInt) rfl b1.1 b1.2 ?_ ?_
  · intro h1
    refine M_atLeast (hi := a0.toInt) rfl b34.1 b34.2 (gh_89 hG) ?_ ?_
    · intros; exact ⟨rfl, hNt.refl _ _⟩
    · intro z p2 r _ g1 g2 _ _; exact absurd ⟨g1, g2⟩ h1
  · intro z p1 r n1 h1 h2 hr hz
    have e34 : rI p1 66 34 = rI p 66 34 := n1.int (r := 66) (k := 34) rfl
    have e89 : ∀ j, rI p1 89 j = rI p 89 j := fun j => n1.int (r := 89) rfl
    refine M_atLeast (hi := a0.toInt) rfl (by rw [e34]; exact b34.1) (by rw [e34]; exact b34.2) (fun j => by rw [e89]; exact gh_89 hG j) ?_ ?_
    · intro g; exact absurd ⟨h1, h2⟩ g
    · intro z2 p2 r2 n2 _ _ hr2 hz2
      rw [sBM_e e89, e34, ← s1] at hr2
      have e : r = r2 := nsF_1 hr (nsF_e (fun i => Iff.rfl) (fun i j hi hj => by
        have hi : i < (rI p 1 5).toInt.toNat := hi
        have hj : j < (rI p 1 5).toInt.toNat := hj
        obtain ⟨a1, a2, a3⟩ := hS.2 i (by omega)
        obtain ⟨c1, c2, c3⟩ := hS.2 j (by omega)
        show sBar _ _ _ _ i j ↔ sBar _ _ _ _ i j
        unfold sBar
        show _ < (bcn (rI p 89 (3 * i + 2) ^^^ rI p 89 (3 * j + 2))).toInt ∨ (rI p 89 (3 * i) = rI p 89 (3 * j) ∧ (rI p 89 (3 * i + 2) ≠ rI p 89 (3 * j + 2) ∨ rI p 89 (3 * i + 1) ≠ rI p 89 (3 * j + 1))) ↔ _
        rw [← rI_same a1, ← rI_same a2, ← rI_same a3, ← rI_same c1, ← rI_same c2, ← rI_same c3]) hr2)
      refine ⟨?_, (n1.up (by decide)).trans (n2.up (by decide))⟩
      rw [Int32.toInt_inj.mp (hz.trans (by rw [e]; exact hz2.symm))]
