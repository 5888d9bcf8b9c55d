/-! OPEN: the law over the pure machine -/
theorem law_ev (xs : List Int32) (hL : xs.length ≤ 3072) : ∃ (n d : Nat) (h2 : xH), d ≤ 800 ∧ ev [xs, xsv1, xsv2] n d xqL 0 [(0, .retAddr 0)] [] [] = some (some (.int 1), h2) ∧ h2.length ≤ 600000 ∧ xsl h2 ≤ 7302250 := sorry
