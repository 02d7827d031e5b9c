/-! cases of the law, run from behind the switch -/
set_option maxRecDepth 100000 in
theorem zyc_570 : zycase 1129 570 [] = true := by decide +kernel
set_option maxRecDepth 100000 in
theorem zyc_633 : zycase 164 633 [] = true := by decide +kernel
set_option maxRecDepth 100000 in
theorem zyc_656 : zycase 229 656 [] = true := by decide +kernel
set_option maxRecDepth 100000 in
theorem zyc_669 : zycase 543 669 [] = true := by decide +kernel
set_option maxRecDepth 100000 in
theorem zyc_682 : zycase 144 682 [] = true := by decide +kernel
set_option maxRecDepth 100000 in
theorem zyc_715 : zycase 836 715 [] = true := by decide +kernel
set_option maxRecDepth 100000 in
theorem zyc_748 : zycase 352 748 [] = true := by decide +kernel
set_option maxRecDepth 100000 in
theorem zyc_791 : zycase 165 791 [] = true := by decide +kernel
set_option maxRecDepth 100000 in
theorem zyc_824 : zycase 390 824 [] = true := by decide +kernel
set_option maxRecDepth 100000 in
theorem zyc_867 : zycase 390 867 [] = true := by decide +kernel
set_option maxRecDepth 100000 in
theorem zyc_910 : zycase 165 910 [] = true := by decide +kernel
set_option maxRecDepth 100000 in
theorem zyc_943 : zycase 150 943 [] = true := by decide +kernel
set_option maxRecDepth 100000 in
theorem zyc_966 : zycase 68 966 [] = true := by decide +kernel
set_option maxRecDepth 100000 in
theorem zyc_979 : zycase 515 979 [] = true := by decide +kernel
set_option maxRecDepth 100000 in
theorem zyc_1012 : zycase 327 1012 [] = true := by decide +kernel
set_option maxRecDepth 100000 in
theorem zyc_1045 : zycase 165 1045 [] = true := by decide +kernel
set_option maxRecDepth 100000 in
theorem zyc_1078 : zycase 165 1078 [] = true := by decide +kernel
set_option maxRecDepth 100000 in
theorem zyc_1111 : zycase 165 1111 [] = true := by decide +kernel
