/-! go of the law, run from behind the switch, for one number each -/
set_option maxRecDepth 100000 in
theorem zygo_26 : zycase 9627 514 [(1, 26, 26)] = true := by decide +kernel
set_option maxRecDepth 100000 in
theorem zygo_27 : zycase 310 514 [(1, 27, 2147483647)] = true := by decide +kernel
