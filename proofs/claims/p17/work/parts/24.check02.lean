set_option maxRecDepth 1000000 in
theorem ck39_0 : ckS 39 0 60 = true := by decide +kernel
set_option maxRecDepth 1000000 in
theorem ck40_0 : ckS 40 0 60 = true := by decide +kernel
set_option maxRecDepth 1000000 in
theorem ck41_0 : ckS 41 0 60 = true := by decide +kernel
set_option maxRecDepth 1000000 in
theorem ck41_60 : ckS 41 60 60 = true := by decide +kernel
set_option maxRecDepth 1000000 in
theorem ck42_0 : ckS 42 0 60 = true := by decide +kernel
set_option maxRecDepth 1000000 in
theorem ck42_60 : ckS 42 60 60 = true := by decide +kernel
set_option maxRecDepth 1000000 in
theorem ck42_120 : ckS 42 120 60 = true := by decide +kernel
set_option maxRecDepth 1000000 in
theorem ck43_0 : ckS 43 0 60 = true := by decide +kernel
set_option maxRecDepth 1000000 in
theorem ck44_0 : ckS 44 0 60 = true := by decide +kernel
set_option maxRecDepth 1000000 in
theorem ck45_0 : ckS 45 0 60 = true := by decide +kernel
set_option maxRecDepth 1000000 in
theorem ck46_0 : ckS 46 0 60 = true := by decide +kernel
set_option maxRecDepth 1000000 in
theorem ck47_0 : ckS 47 0 60 = true := by decide +kernel
set_option maxRecDepth 1000000 in
theorem ck48_0 : ckS 48 0 60 = true := by decide +kernel
set_option maxRecDepth 1000000 in
theorem ck49_0 : ckS 49 0 60 = true := by decide +kernel
set_option maxRecDepth 1000000 in
theorem ck49_60 : ckS 49 60 60 = true := by decide +kernel
set_option maxRecDepth 1000000 in
theorem ck50_0 : ckS 50 0 60 = true := by decide +kernel
set_option maxRecDepth 1000000 in
theorem ck51_0 : ckS 51 0 60 = true := by decide +kernel
set_option maxRecDepth 1000000 in
theorem ck52_0 : ckS 52 0 60 = true := by decide +kernel
set_option maxRecDepth 1000000 in
theorem ck52_60 : ckS 52 60 60 = true := by decide +kernel
set_option maxRecDepth 1000000 in
theorem ck53_0 : ckS 53 0 60 = true := by decide +kernel
set_option maxRecDepth 1000000 in
theorem ck54_0 : ckS 54 0 60 = true := by decide +kernel
set_option maxRecDepth 1000000 in
theorem ck55_0 : ckS 55 0 60 = true := by decide +kernel
set_option maxRecDepth 1000000 in
theorem ck56_0 : ckS 56 0 60 = true := by decide +kernel
set_option maxRecDepth 1000000 in
theorem ck57_0 : ckS 57 0 60 = true := by decide +kernel
set_option maxRecDepth 1000000 in
theorem ck58_0 : ckS 58 0 60 = true := by decide +kernel
set_option maxRecDepth 1000000 in
theorem ck59_0 : ckS 59 0 60 = true := by decide +kernel
set_option maxRecDepth 1000000 in
theorem ck60_0 : ckS 60 0 60 = true := by decide +kernel
set_option maxRecDepth 1000000 in
theorem ck61_0 : ckS 61 0 60 = true := by decide +kernel
set_option maxRecDepth 1000000 in
theorem ck62_0 : ckS 62 0 60 = true := by decide +kernel
set_option maxRecDepth 1000000 in
theorem ck63_0 : ckS 63 0 60 = true := by decide +kernel
set_option maxRecDepth 1000000 in
theorem ck64_0 : ckS 64 0 60 = true := by decide +kernel
set_option maxRecDepth 1000000 in
theorem ck65_0 : ckS 65 0 60 = true := by decide +kernel
set_option maxRecDepth 1000000 in
theorem ck66_0 : ckS 66 0 60 = true := by decide +kernel
set_option maxRecDepth 1000000 in
theorem ck67_0 : ckS 67 0 60 = true := by decide +kernel
set_option maxRecDepth 1000000 in
theorem ck68_0 : ckS 68 0 60 = true := by decide +kernel
set_option maxRecDepth 1000000 in
theorem ck69_0 : ckS 69 0 60 = true := by decide +kernel
set_option maxRecDepth 1000000 in
theorem ck70_0 : ckS 70 0 60 = true := by decide +kernel
set_option maxRecDepth 1000000 in
theorem ck71_0 : ckS 71 0 60 = true := by decide +kernel
set_option maxRecDepth 1000000 in
theorem ck72_0 : ckS 72 0 60 = true := by decide +kernel
set_option maxRecDepth 1000000 in
theorem ck73_0 : ckS 73 0 60 = true := by decide +kernel
set_option maxRecDepth 1000000 in
theorem ck74_0 : ckS 74 0 60 = true := by decide +kernel
