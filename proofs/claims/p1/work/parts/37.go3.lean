/-! go of the law, run from behind the switch, for one number each -/
set_option maxRecDepth 100000 in
theorem zygo_19 : zycase 7038 514 [(1, 19, 19)] = true := by decide +kernel
set_option maxRecDepth 100000 in
theorem zygo_20 : zycase 7402 514 [(1, 20, 20)] = true := by decide +kernel
set_option maxRecDepth 100000 in
theorem zygo_21 : zycase 7766 514 [(1, 21, 21)] = true := by decide +kernel
