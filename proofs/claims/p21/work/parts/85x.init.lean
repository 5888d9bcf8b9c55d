noncomputable section
/-! the relations at the beginning -/
theorem rV_init {a b : Nat} (h : xhA[a]? = xhA[b]?) (k : Nat) : rV xhA a k = rV xhA b k := by unfold rV; rw [h]
theorem C_tw_0 : C_tw xhA := by
  refine ⟨by decide +kernel, fun k => ?_⟩
  unfold rV
  rw [show xhA[58]? = xhA[95]? from by decide +kernel]
theorem C_sh_0 : C_sh xhA := by
  refine ⟨fun d hd => ?_, fun k => ?_⟩
  · unfold C_s1
    match d, hd with
    | 0, _ => left; decide +kernel
    | 1, _ => left; decide +kernel
    | 2, _ => left; decide +kernel
    | 3, _ => left; decide +kernel
    | 4, _ => left; decide +kernel
    | 5, _ => left; decide +kernel
    | d + 6, h => exact absurd h (by omega)
  · unfold rV
    rw [show xhA[65]? = xhA[99]? from by decide +kernel]
theorem C_sz_0 : C_sz xhA := by
  unfold C_sz
  decide +kernel
theorem C_cr_0 : C_cr xhA := by
  have h : ∀ j, j < 7 → rV xhA 14 j = .int 0 ∧ rV xhA 15 j = .int 0 ∧ rV xhA 16 j = .int 0 ∧ rV xhA 67 j = .int 0 ∧ rV xhA 67 (7 + j) = .int 0 ∧ rV xhA 67 (14 + j) = .int 0 := by decide +kernel
  refine ⟨fun j hj => ?_, fun j hj => ?_, fun j hj => ?_, by decide +kernel, by decide +kernel, fun j _ hj => ?_⟩
  · rw [(h j hj).1, (h j hj).2.2.2.1]
  · rw [(h j hj).2.1, (h j hj).2.2.2.2.1]
  · rw [(h j hj).2.2.1, (h j hj).2.2.2.2.2]
  · exact (h j hj).2.2.1
theorem C_fl_0 : C_fl xhA := ⟨by decide +kernel, by decide +kernel⟩
theorem C_ht_0 : C_ht xhA := ⟨rV_init (by decide +kernel), fun k _ hk => (show ∀ k, k < 7 → rV xhA 2 k = .int (-1) from by decide +kernel) k hk⟩
theorem C_imh_0 : C_imh xhA := Or.inl (by decide +kernel)
theorem C_ch_0 : C_ch xhA := ⟨by decide +kernel, by decide +kernel, by decide +kernel, fun k hk => absurd hk (by rw [show (rI xhA 52 6).toInt.toNat = 0 from by decide +kernel]; exact Nat.not_lt_zero _)⟩
theorem C_tp_0 : C_tp xhA := ⟨by decide +kernel, rV_init (by decide +kernel)⟩
theorem C_lw_0 : C_lw xhA := ⟨none, by show (rI xhA 20 2).toInt = 0; decide +kernel, by show (rI xhA 66 14).toInt = -1; decide +kernel⟩
end
