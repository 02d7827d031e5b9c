/-! go of the law, run from behind the switch, for one number each -/
set_option maxRecDepth 100000 in
theorem zygo_16 : zycase 5946 514 [(1, 16, 16)] = true := by decide +kernel
set_option maxRecDepth 100000 in
theorem zygo_17 : zycase 6310 514 [(1, 17, 17)] = true := by decide +kernel
set_option maxRecDepth 100000 in
theorem zygo_18 : zycase 6674 514 [(1, 18, 18)] = true := by decide +kernel
