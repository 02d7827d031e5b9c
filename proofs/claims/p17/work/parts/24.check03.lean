set_option maxRecDepth 1000000 in
theorem ck74_60 : ckS 74 60 60 = true := by decide +kernel
set_option maxRecDepth 1000000 in
theorem ck75_0 : ckS 75 0 60 = true := by decide +kernel
set_option maxRecDepth 1000000 in
theorem ck76_0 : ckS 76 0 60 = true := by decide +kernel
set_option maxRecDepth 1000000 in
theorem ck77_0 : ckS 77 0 60 = true := by decide +kernel
set_option maxRecDepth 1000000 in
theorem ck77_60 : ckS 77 60 60 = true := by decide +kernel
set_option maxRecDepth 1000000 in
theorem ck78_0 : ckS 78 0 60 = true := by decide +kernel
set_option maxRecDepth 1000000 in
theorem ck78_60 : ckS 78 60 60 = true := by decide +kernel
set_option maxRecDepth 1000000 in
theorem ck79_0 : ckS 79 0 60 = true := by decide +kernel
set_option maxRecDepth 1000000 in
theorem ck80_0 : ckS 80 0 60 = true := by decide +kernel
set_option maxRecDepth 1000000 in
theorem ck81_0 : ckS 81 0 60 = true := by decide +kernel
set_option maxRecDepth 1000000 in
theorem ck82_0 : ckS 82 0 60 = true := by decide +kernel
set_option maxRecDepth 1000000 in
theorem ck82_60 : ckS 82 60 60 = true := by decide +kernel
set_option maxRecDepth 1000000 in
theorem ck83_0 : ckS 83 0 60 = true := by decide +kernel
set_option maxRecDepth 1000000 in
theorem ck84_0 : ckS 84 0 60 = true := by decide +kernel
set_option maxRecDepth 1000000 in
theorem ck84_60 : ckS 84 60 60 = true := by decide +kernel
set_option maxRecDepth 1000000 in
theorem ck85_0 : ckS 85 0 60 = true := by decide +kernel
set_option maxRecDepth 1000000 in
theorem ck86_0 : ckS 86 0 60 = true := by decide +kernel
set_option maxRecDepth 1000000 in
theorem ck86_60 : ckS 86 60 60 = true := by decide +kernel
set_option maxRecDepth 1000000 in
theorem ck87_0 : ckS 87 0 60 = true := by decide +kernel
set_option maxRecDepth 1000000 in
theorem ck88_0 : ckS 88 0 60 = true := by decide +kernel
set_option maxRecDepth 1000000 in
theorem ck89_0 : ckS 89 0 60 = true := by decide +kernel
set_option maxRecDepth 1000000 in
theorem ck90_0 : ckS 90 0 60 = true := by decide +kernel
set_option maxRecDepth 1000000 in
theorem ck91_0 : ckS 91 0 60 = true := by decide +kernel
set_option maxRecDepth 1000000 in
theorem ck92_0 : ckS 92 0 60 = true := by decide +kernel
set_option maxRecDepth 1000000 in
theorem ck93_0 : ckS 93 0 60 = true := by decide +kernel
set_option maxRecDepth 1000000 in
theorem ck94_0 : ckS 94 0 60 = true := by decide +kernel
set_option maxRecDepth 1000000 in
theorem ck95_0 : ckS 95 0 60 = true := by decide +kernel
set_option maxRecDepth 1000000 in
theorem ck96_0 : ckS 96 0 60 = true := by decide +kernel
set_option maxRecDepth 1000000 in
theorem ck97_0 : ckS 97 0 60 = true := by decide +kernel
set_option maxRecDepth 1000000 in
theorem ck98_0 : ckS 98 0 60 = true := by decide +kernel
set_option maxRecDepth 1000000 in
theorem ck99_0 : ckS 99 0 60 = true := by decide +kernel
set_option maxRecDepth 1000000 in
theorem ck100_0 : ckS 100 0 60 = true := by decide +kernel
set_option maxRecDepth 1000000 in
theorem ck101_0 : ckS 101 0 60 = true := by decide +kernel
set_option maxRecDepth 1000000 in
theorem ck102_0 : ckS 102 0 60 = true := by decide +kernel
set_option maxRecDepth 1000000 in
theorem ck103_0 : ckS 103 0 60 = true := by decide +kernel
set_option maxRecDepth 1000000 in
theorem ck104_0 : ckS 104 0 60 = true := by decide +kernel
set_option maxRecDepth 1000000 in
theorem ck105_0 : ckS 105 0 60 = true := by decide +kernel
set_option maxRecDepth 1000000 in
theorem ck106_0 : ckS 106 0 60 = true := by decide +kernel
set_option maxRecDepth 1000000 in
theorem ck106_60 : ckS 106 60 60 = true := by decide +kernel
set_option maxRecDepth 1000000 in
theorem ck107_0 : ckS 107 0 60 = true := by decide +kernel
set_option maxRecDepth 1000000 in
theorem ck108_0 : ckS 108 0 60 = true := by decide +kernel
set_option maxRecDepth 1000000 in
theorem ck109_0 : ckS 109 0 60 = true := by decide +kernel
set_option maxRecDepth 1000000 in
theorem ck110_0 : ckS 110 0 60 = true := by decide +kernel
set_option maxRecDepth 1000000 in
theorem ck111_0 : ckS 111 0 60 = true := by decide +kernel
set_option maxRecDepth 1000000 in
theorem ck112_0 : ckS 112 0 60 = true := by decide +kernel
set_option maxRecDepth 1000000 in
theorem ck113_0 : ckS 113 0 60 = true := by decide +kernel
set_option maxRecDepth 1000000 in
theorem ck114_0 : ckS 114 0 60 = true := by decide +kernel
