/-! go of the law, run from behind the switch, for one number each -/
set_option maxRecDepth 100000 in
theorem zygo_11 : zycase 4085 514 [(1, 11, 11)] = true := by decide +kernel
set_option maxRecDepth 100000 in
theorem zygo_12 : zycase 4449 514 [(1, 12, 12)] = true := by decide +kernel
set_option maxRecDepth 100000 in
theorem zygo_13 : zycase 4854 514 [(1, 13, 13)] = true := by decide +kernel
set_option maxRecDepth 100000 in
theorem zygo_14 : zycase 5218 514 [(1, 14, 14)] = true := by decide +kernel
set_option maxRecDepth 100000 in
theorem zygo_15 : zycase 5582 514 [(1, 15, 15)] = true := by decide +kernel
