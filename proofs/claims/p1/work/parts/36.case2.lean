/-! cases of the law, run from behind the switch -/
set_option maxRecDepth 100000 in
theorem zyc_1144 : zycase 367 1144 [] = true := by decide +kernel
set_option maxRecDepth 100000 in
theorem zyc_1177 : zycase 150 1177 [] = true := by decide +kernel
set_option maxRecDepth 100000 in
theorem zyc_1200 : zycase 165 1200 [] = true := by decide +kernel
set_option maxRecDepth 100000 in
theorem zyc_1233 : zycase 475 1233 [] = true := by decide +kernel
set_option maxRecDepth 100000 in
theorem zyc_1282 : zycase 53 1282 [] = true := by decide +kernel
set_option maxRecDepth 100000 in
theorem zyc_1295 : zycase 490 1295 [] = true := by decide +kernel
set_option maxRecDepth 100000 in
theorem zyc_1338 : zycase 43 1338 [] = true := by decide +kernel
set_option maxRecDepth 100000 in
theorem zyc_1351 : zycase 641 1351 [] = true := by decide +kernel
set_option maxRecDepth 100000 in
theorem zyc_1384 : zycase 225 1384 [] = true := by decide +kernel
set_option maxRecDepth 100000 in
theorem zyc_1407 : zycase 165 1407 [] = true := by decide +kernel
set_option maxRecDepth 100000 in
theorem zyc_1440 : zycase 154 1440 [] = true := by decide +kernel
set_option maxRecDepth 100000 in
theorem zyc_1473 : zycase 169 1473 [] = true := by decide +kernel
set_option maxRecDepth 100000 in
theorem zyc_1516 : zycase 165 1516 [] = true := by decide +kernel
set_option maxRecDepth 100000 in
theorem zyc_1549 : zycase 165 1549 [] = true := by decide +kernel
set_option maxRecDepth 100000 in
theorem zyc_1582 : zycase 355 1582 [] = true := by decide +kernel
