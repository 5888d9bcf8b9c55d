noncomputable section
/-! the relations at the beginning -/
theorem rV_init {a b : Nat} (h : xhA[a]? = xhA[b]?) (k : Nat) : rV xhA a k = rV xhA b k := by unfold rV; rw [h]
theorem C_tp_0 : C_tp xhA := ⟨by decide +kernel, rV_init (by decide +kernel)⟩
end
