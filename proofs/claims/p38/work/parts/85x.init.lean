/-! the relations at the beginning -/
theorem C_tw_0 : C_tw xhA := by
  refine ⟨by decide +kernel, fun k => ?_⟩
  unfold rV
  rw [show xhA[58]? = xhA[95]? from by decide +kernel]
