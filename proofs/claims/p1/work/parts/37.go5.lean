/-! go of the law, run from behind the switch, for one number each -/
set_option maxRecDepth 100000 in
theorem zygo_24 : zycase 8858 514 [(1, 24, 24)] = true := by decide +kernel
set_option maxRecDepth 100000 in
theorem zygo_25 : zycase 9222 514 [(1, 25, 25)] = true := by decide +kernel
