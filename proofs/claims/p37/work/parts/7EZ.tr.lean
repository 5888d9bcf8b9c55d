/-! trace, as the rows of calls want it -/
theorem t_trace1 {ro : List (List Int32)} {p : xH} (_hG : GH jGG p) (hA : C_ac p) (a0 : Int32) {n m d d' : Nat} :
    hP ro n d (11, 2, 1, 1, k164) 0 (lv_args 0 [.ref 0, .int a0]) [] p (fun v1 p1 => hP ro m d' (12, 2, 1, 1, k262) 0 (lv_args 0 [.ref 66, .int a0]) [] p1 (fun v2 p2 => v1 = v2 ∧ hNt [] p p2)) := t_trace hA a0
