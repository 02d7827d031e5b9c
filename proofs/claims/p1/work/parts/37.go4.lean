/-! go of the law, run from behind the switch, for one number each -/
set_option maxRecDepth 100000 in
theorem zygo_22 : zycase 8130 514 [(1, 22, 22)] = true := by decide +kernel
set_option maxRecDepth 100000 in
theorem zygo_23 : zycase 8494 514 [(1, 23, 23)] = true := by decide +kernel
