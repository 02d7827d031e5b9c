/-! cases of the law, run from behind the switch -/
set_option maxRecDepth 100000 in
theorem zyc_1605 : zycase 20 1605 [] = true := by decide +kernel
set_option maxRecDepth 100000 in
theorem zyc_220 : zycase 3457 220 [] = true := by decide +kernel
set_option maxRecDepth 100000 in
theorem zyc_263 : zycase 176 263 [] = true := by decide +kernel
set_option maxRecDepth 100000 in
theorem zyc_306 : zycase 334 306 [] = true := by decide +kernel
set_option maxRecDepth 100000 in
theorem zyc_339 : zycase 165 339 [] = true := by decide +kernel
set_option maxRecDepth 100000 in
theorem zyc_372 : zycase 196 372 [] = true := by decide +kernel
set_option maxRecDepth 100000 in
theorem zyc_415 : zycase 165 415 [] = true := by decide +kernel
set_option maxRecDepth 100000 in
theorem zyc_448 : zycase 165 448 [] = true := by decide +kernel
set_option maxRecDepth 100000 in
theorem zyc_481 : zycase 165 481 [] = true := by decide +kernel
set_option maxRecDepth 100000 in
theorem zyc_537 : zycase 165 537 [] = true := by decide +kernel
