/-! every call on fresh objects, over boxes of its arguments: by running the interval machine -/
set_option maxRecDepth 1000000 in
theorem op_8 : abx 8 [((-2147483648), 2147483647)] [((-2147483648), 2147483647)] [((-2147483648), 2147483647)] [((-2147483648), 2147483647)] [((-2147483648), 2147483647)] = true := by decide +kernel
set_option maxRecDepth 1000000 in
theorem op_35 : abx 35 [((-2147483648), (-1)), (0, 2147483647)] [((-2147483648), 2147483647)] [((-2147483648), 2147483647)] [((-2147483648), 2147483647)] [((-2147483648), 2147483647)] = true := by decide +kernel
