/-! for the two claims that do not lay part 69 -/
theorem rI_same {p p' : xH} {r k r' k' : Nat} (h : rV p r k = rV p' r' k') : rI p r k = rI p' r' k' := by unfold rI; rw [h]
