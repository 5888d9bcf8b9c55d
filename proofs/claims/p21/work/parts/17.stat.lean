noncomputable section
/-! the two statics as rows that are read alone -/
def xsv1 : List Int32 := [0, 0, 0, 2, 1, 3, 0, 4]
def xsv2 : List Int32 := [1, 10, 11, 2, 20, 0, 0, 0, 0, 30, 0, 0, 0, 41, 40, 0, 0, 0, 50, 0, 0, 0, 0, 60, 70, 0, 0, 0, 0, 80, 0, 81]
/-- what the start gives of a static row -/
def xsg (n : String) (vs : List Int32) : Bool := decide (Cond.arrayOf (.static "TwoAlike$Twins" n "[I") .int ∈ flatC (Jvm.Cond.and given_1 narrow_1)) && decide (Cond.eq (.length (.static "TwoAlike$Twins" n "[I")) (.int (Int32.ofNat vs.length)) ∈ flatC (Jvm.Cond.and given_1 narrow_1)) &&
  (List.range vs.length).all fun j => decide (Cond.eq (.elem (.static "TwoAlike$Twins" n "[I") (.int (Int32.ofNat j))) (.int (vs.getD j 0)) ∈ flatC (Jvm.Cond.and given_1 narrow_1))
set_option maxRecDepth 100000 in
theorem xsg_ok : (xsg "ABOVE" xsv1 && xsg "BODIES" xsv2) = true := by decide +kernel
theorem xstat {args : Array Value} {s : State} {n : String} {vs : List Int32} {A : Nat → Prop} (hg : xsg n vs = true) (hN : vs.length < 2 ^ 31) (h : (Jvm.Cond.and given_1 narrow_1).before args s = true) (hl : (Cond.laysStatic "TwoAlike$Twins" n "[I").before args s = true) (hini : (Cond.initialized "TwoAlike$Twins").before args s = true) (hA : ∀ a : Nat, a < s.heap.size → ¬ A a) :
    ∃ t : Nat, t < s.heap.size ∧ va_Z "TwoAlike$Twins" n "[I" (.ref t) A s s.heap ∧ va_T .int t vs.length (fun j => .int (vs.getD j 0)) A s s.heap := by
  unfold xsg at hg
  simp only [Bool.and_eq_true, decide_eq_true_eq, List.all_eq_true, List.mem_range] at hg
  obtain ⟨⟨g1, g2⟩, g3⟩ := hg
  have hs := flat_of_before _ h
  have one : ∀ (a b : Term) (v : Value), (Cond.eq a b).before args s = true → b.eval args s none [] s = some v → a.eval args s none [] s = some v := by
    intro a b v e hb
    obtain ⟨y, y1, y2⟩ := Cond.eq_one e
    rw [y2] at hb
    cases hb
    exact y1
  obtain ⟨t, t1, t2⟩ := va_Tof (A := A) (f := fun j => .int (vs.getD j 0)) hN (hs _ g1) (one _ _ _ (hs _ g2) rfl) (fun j hj => one _ _ _ (hs _ (g3 j hj)) rfl) hA
  refine ⟨t, ?_, va_Zref hl hini t1 hA, t2⟩
  obtain ⟨cell, c1, -⟩ := t2
  exact (Array.getElem?_eq_some_iff.mp c1).1
end
