noncomputable section
/-! the relations at the beginning -/
theorem rV_init {a b : Nat} (h : xhA[a]? = xhA[b]?) (k : Nat) : rV xhA a k = rV xhA b k := by unfold rV; rw [h]
theorem C_tw_0 : C_tw xhA := by
  refine ⟨by decide +kernel, fun k => ?_⟩
  unfold rV
  rw [show xhA[58]? = xhA[95]? from by decide +kernel]
theorem C_sh_0 : C_sh xhA := by
  refine ⟨fun d hd => ?_, fun k => ?_⟩
  · unfold C_s1
    match d, hd with
    | 0, _ => left; decide +kernel
    | 1, _ => left; decide +kernel
    | 2, _ => left; decide +kernel
    | 3, _ => left; decide +kernel
    | 4, _ => left; decide +kernel
    | 5, _ => left; decide +kernel
    | d + 6, h => exact absurd h (by omega)
  · unfold rV
    rw [show xhA[65]? = xhA[99]? from by decide +kernel]
theorem C_sz_0 : C_sz xhA := by
  unfold C_sz
  decide +kernel
theorem C_dy_0 : C_dy xhA := rV_init (by decide +kernel)
theorem C_fl_0 : C_fl xhA := ⟨by decide +kernel, by decide +kernel⟩
theorem C_imd_0 : C_imd xhA := Or.inl (by decide +kernel)
end
