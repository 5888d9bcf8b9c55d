noncomputable section
/-- the law as a method of the pure machine -/
def xqL : xQ := (15, 4, 0, 2, k276)
def xyL : xNt := (⟨"TwoAlikeLaw", "law", "([I)Z"⟩, code, (some .boolean), 0, 0, 0, 0)
end
