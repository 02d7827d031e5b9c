/-! go of the law, run from behind the switch, for one number each -/
set_option maxRecDepth 100000 in
theorem zygo_m : zycase 310 514 [(1, -2147483648, -1)] = true := by decide +kernel
set_option maxRecDepth 100000 in
theorem zygo_0 : zycase 81 514 [(1, 0, 0)] = true := by decide +kernel
set_option maxRecDepth 100000 in
theorem zygo_1 : zycase 445 514 [(1, 1, 1)] = true := by decide +kernel
set_option maxRecDepth 100000 in
theorem zygo_2 : zycase 809 514 [(1, 2, 2)] = true := by decide +kernel
set_option maxRecDepth 100000 in
theorem zygo_3 : zycase 1173 514 [(1, 3, 3)] = true := by decide +kernel
set_option maxRecDepth 100000 in
theorem zygo_4 : zycase 1537 514 [(1, 4, 4)] = true := by decide +kernel
set_option maxRecDepth 100000 in
theorem zygo_5 : zycase 1901 514 [(1, 5, 5)] = true := by decide +kernel
set_option maxRecDepth 100000 in
theorem zygo_6 : zycase 2265 514 [(1, 6, 6)] = true := by decide +kernel
set_option maxRecDepth 100000 in
theorem zygo_7 : zycase 2629 514 [(1, 7, 7)] = true := by decide +kernel
set_option maxRecDepth 100000 in
theorem zygo_8 : zycase 2993 514 [(1, 8, 8)] = true := by decide +kernel
set_option maxRecDepth 100000 in
theorem zygo_9 : zycase 3357 514 [(1, 9, 9)] = true := by decide +kernel
set_option maxRecDepth 100000 in
theorem zygo_10 : zycase 3721 514 [(1, 10, 10)] = true := by decide +kernel
