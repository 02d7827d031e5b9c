set_option maxRecDepth 1000000 in
theorem ck2_240 : ckS 2 240 60 = true := by decide +kernel
set_option maxRecDepth 1000000 in
theorem ck2_300 : ckS 2 300 60 = true := by decide +kernel
set_option maxRecDepth 1000000 in
theorem ck2_360 : ckS 2 360 60 = true := by decide +kernel
set_option maxRecDepth 1000000 in
theorem ck3_0 : ckS 3 0 60 = true := by decide +kernel
set_option maxRecDepth 1000000 in
theorem ck4_0 : ckS 4 0 60 = true := by decide +kernel
set_option maxRecDepth 1000000 in
theorem ck4_60 : ckS 4 60 60 = true := by decide +kernel
set_option maxRecDepth 1000000 in
theorem ck4_120 : ckS 4 120 60 = true := by decide +kernel
set_option maxRecDepth 1000000 in
theorem ck5_0 : ckS 5 0 60 = true := by decide +kernel
set_option maxRecDepth 1000000 in
theorem ck6_0 : ckS 6 0 60 = true := by decide +kernel
set_option maxRecDepth 1000000 in
theorem ck7_0 : ckS 7 0 60 = true := by decide +kernel
set_option maxRecDepth 1000000 in
theorem ck8_0 : ckS 8 0 60 = true := by decide +kernel
set_option maxRecDepth 1000000 in
theorem ck9_0 : ckS 9 0 60 = true := by decide +kernel
set_option maxRecDepth 1000000 in
theorem ck10_0 : ckS 10 0 60 = true := by decide +kernel
set_option maxRecDepth 1000000 in
theorem ck10_60 : ckS 10 60 60 = true := by decide +kernel
set_option maxRecDepth 1000000 in
theorem ck11_0 : ckS 11 0 60 = true := by decide +kernel
set_option maxRecDepth 1000000 in
theorem ck12_0 : ckS 12 0 60 = true := by decide +kernel
set_option maxRecDepth 1000000 in
theorem ck13_0 : ckS 13 0 60 = true := by decide +kernel
set_option maxRecDepth 1000000 in
theorem ck14_0 : ckS 14 0 60 = true := by decide +kernel
set_option maxRecDepth 1000000 in
theorem ck15_0 : ckS 15 0 60 = true := by decide +kernel
set_option maxRecDepth 1000000 in
theorem ck16_0 : ckS 16 0 60 = true := by decide +kernel
set_option maxRecDepth 1000000 in
theorem ck17_0 : ckS 17 0 60 = true := by decide +kernel
set_option maxRecDepth 1000000 in
theorem ck18_0 : ckS 18 0 60 = true := by decide +kernel
set_option maxRecDepth 1000000 in
theorem ck19_0 : ckS 19 0 60 = true := by decide +kernel
set_option maxRecDepth 1000000 in
theorem ck20_0 : ckS 20 0 60 = true := by decide +kernel
set_option maxRecDepth 1000000 in
theorem ck21_0 : ckS 21 0 60 = true := by decide +kernel
set_option maxRecDepth 1000000 in
theorem ck22_0 : ckS 22 0 60 = true := by decide +kernel
set_option maxRecDepth 1000000 in
theorem ck23_0 : ckS 23 0 60 = true := by decide +kernel
set_option maxRecDepth 1000000 in
theorem ck24_0 : ckS 24 0 60 = true := by decide +kernel
set_option maxRecDepth 1000000 in
theorem ck25_0 : ckS 25 0 60 = true := by decide +kernel
set_option maxRecDepth 1000000 in
theorem ck26_0 : ckS 26 0 60 = true := by decide +kernel
set_option maxRecDepth 1000000 in
theorem ck27_0 : ckS 27 0 60 = true := by decide +kernel
set_option maxRecDepth 1000000 in
theorem ck28_0 : ckS 28 0 60 = true := by decide +kernel
set_option maxRecDepth 1000000 in
theorem ck29_0 : ckS 29 0 60 = true := by decide +kernel
set_option maxRecDepth 1000000 in
theorem ck30_0 : ckS 30 0 60 = true := by decide +kernel
set_option maxRecDepth 1000000 in
theorem ck30_60 : ckS 30 60 60 = true := by decide +kernel
set_option maxRecDepth 1000000 in
theorem ck31_0 : ckS 31 0 60 = true := by decide +kernel
set_option maxRecDepth 1000000 in
theorem ck32_0 : ckS 32 0 60 = true := by decide +kernel
set_option maxRecDepth 1000000 in
theorem ck33_0 : ckS 33 0 60 = true := by decide +kernel
set_option maxRecDepth 1000000 in
theorem ck34_0 : ckS 34 0 60 = true := by decide +kernel
set_option maxRecDepth 1000000 in
theorem ck35_0 : ckS 35 0 60 = true := by decide +kernel
set_option maxRecDepth 1000000 in
theorem ck36_0 : ckS 36 0 60 = true := by decide +kernel
set_option maxRecDepth 1000000 in
theorem ck37_0 : ckS 37 0 60 = true := by decide +kernel
set_option maxRecDepth 1000000 in
theorem ck38_0 : ckS 38 0 60 = true := by decide +kernel
