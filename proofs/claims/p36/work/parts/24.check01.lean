set_option maxRecDepth 1000000 in
theorem ck47_0 : ckS 47 0 60 = true := by decide +kernel
set_option maxRecDepth 1000000 in
theorem ck48_0 : ckS 48 0 60 = true := by decide +kernel
set_option maxRecDepth 1000000 in
theorem ck49_0 : ckS 49 0 60 = true := by decide +kernel
set_option maxRecDepth 1000000 in
theorem ck49_60 : ckS 49 60 60 = true := by decide +kernel
set_option maxRecDepth 1000000 in
theorem ck50_0 : ckS 50 0 60 = true := by decide +kernel
set_option maxRecDepth 1000000 in
theorem ck51_0 : ckS 51 0 60 = true := by decide +kernel
set_option maxRecDepth 1000000 in
theorem ck52_0 : ckS 52 0 60 = true := by decide +kernel
set_option maxRecDepth 1000000 in
theorem ck52_60 : ckS 52 60 60 = true := by decide +kernel
set_option maxRecDepth 1000000 in
theorem ck53_0 : ckS 53 0 60 = true := by decide +kernel
set_option maxRecDepth 1000000 in
theorem ck54_0 : ckS 54 0 60 = true := by decide +kernel
set_option maxRecDepth 1000000 in
theorem ck55_0 : ckS 55 0 60 = true := by decide +kernel
set_option maxRecDepth 1000000 in
theorem ck56_0 : ckS 56 0 60 = true := by decide +kernel
set_option maxRecDepth 1000000 in
theorem ck57_0 : ckS 57 0 60 = true := by decide +kernel
set_option maxRecDepth 1000000 in
theorem ck58_0 : ckS 58 0 60 = true := by decide +kernel
set_option maxRecDepth 1000000 in
theorem ck59_0 : ckS 59 0 60 = true := by decide +kernel
set_option maxRecDepth 1000000 in
theorem ck60_0 : ckS 60 0 60 = true := by decide +kernel
set_option maxRecDepth 1000000 in
theorem ck61_0 : ckS 61 0 60 = true := by decide +kernel
set_option maxRecDepth 1000000 in
theorem ck62_0 : ckS 62 0 60 = true := by decide +kernel
set_option maxRecDepth 1000000 in
theorem ck63_0 : ckS 63 0 60 = true := by decide +kernel
set_option maxRecDepth 1000000 in
theorem ck64_0 : ckS 64 0 60 = true := by decide +kernel
set_option maxRecDepth 1000000 in
theorem ck65_0 : ckS 65 0 60 = true := by decide +kernel
set_option maxRecDepth 1000000 in
theorem ck66_0 : ckS 66 0 60 = true := by decide +kernel
set_option maxRecDepth 1000000 in
theorem ck67_0 : ckS 67 0 60 = true := by decide +kernel
set_option maxRecDepth 1000000 in
theorem ck68_0 : ckS 68 0 60 = true := by decide +kernel
set_option maxRecDepth 1000000 in
theorem ck69_0 : ckS 69 0 60 = true := by decide +kernel
set_option maxRecDepth 1000000 in
theorem ck70_0 : ckS 70 0 60 = true := by decide +kernel
set_option maxRecDepth 1000000 in
theorem ck71_0 : ckS 71 0 60 = true := by decide +kernel
set_option maxRecDepth 1000000 in
theorem ck72_0 : ckS 72 0 60 = true := by decide +kernel
set_option maxRecDepth 1000000 in
theorem ck73_0 : ckS 73 0 60 = true := by decide +kernel
set_option maxRecDepth 1000000 in
theorem ck74_0 : ckS 74 0 60 = true := by decide +kernel
set_option maxRecDepth 1000000 in
theorem ck74_60 : ckS 74 60 60 = true := by decide +kernel
set_option maxRecDepth 1000000 in
theorem ck75_0 : ckS 75 0 60 = true := by decide +kernel
set_option maxRecDepth 1000000 in
theorem ck76_0 : ckS 76 0 60 = true := by decide +kernel
set_option maxRecDepth 1000000 in
theorem ck77_0 : ckS 77 0 60 = true := by decide +kernel
set_option maxRecDepth 1000000 in
theorem ck77_60 : ckS 77 60 60 = true := by decide +kernel
set_option maxRecDepth 1000000 in
theorem ck78_0 : ckS 78 0 60 = true := by decide +kernel
set_option maxRecDepth 1000000 in
theorem ck78_60 : ckS 78 60 60 = true := by decide +kernel
set_option maxRecDepth 1000000 in
theorem ck79_0 : ckS 79 0 60 = true := by decide +kernel
set_option maxRecDepth 1000000 in
theorem ck80_0 : ckS 80 0 60 = true := by decide +kernel
set_option maxRecDepth 1000000 in
theorem ck81_0 : ckS 81 0 60 = true := by decide +kernel
set_option maxRecDepth 1000000 in
theorem ck82_0 : ckS 82 0 60 = true := by decide +kernel
set_option maxRecDepth 1000000 in
theorem ck82_60 : ckS 82 60 60 = true := by decide +kernel
set_option maxRecDepth 1000000 in
theorem ck83_0 : ckS 83 0 60 = true := by decide +kernel
set_option maxRecDepth 1000000 in
theorem ck84_0 : ckS 84 0 60 = true := by decide +kernel
set_option maxRecDepth 1000000 in
theorem ck84_60 : ckS 84 60 60 = true := by decide +kernel
set_option maxRecDepth 1000000 in
theorem ck85_0 : ckS 85 0 60 = true := by decide +kernel
set_option maxRecDepth 1000000 in
theorem ck86_0 : ckS 86 0 60 = true := by decide +kernel
set_option maxRecDepth 1000000 in
theorem ck86_60 : ckS 86 60 60 = true := by decide +kernel
set_option maxRecDepth 1000000 in
theorem ck87_0 : ckS 87 0 60 = true := by decide +kernel
set_option maxRecDepth 1000000 in
theorem ck88_0 : ckS 88 0 60 = true := by decide +kernel
set_option maxRecDepth 1000000 in
theorem ck89_0 : ckS 89 0 60 = true := by decide +kernel
set_option maxRecDepth 1000000 in
theorem ck90_0 : ckS 90 0 60 = true := by decide +kernel
set_option maxRecDepth 1000000 in
theorem ck91_0 : ckS 91 0 60 = true := by decide +kernel
set_option maxRecDepth 1000000 in
theorem ck92_0 : ckS 92 0 60 = true := by decide +kernel
set_option maxRecDepth 1000000 in
theorem ck93_0 : ckS 93 0 60 = true := by decide +kernel
set_option maxRecDepth 1000000 in
theorem ck94_0 : ckS 94 0 60 = true := by decide +kernel
set_option maxRecDepth 1000000 in
theorem ck95_0 : ckS 95 0 60 = true := by decide +kernel
set_option maxRecDepth 1000000 in
theorem ck96_0 : ckS 96 0 60 = true := by decide +kernel
set_option maxRecDepth 1000000 in
theorem ck97_0 : ckS 97 0 60 = true := by decide +kernel
set_option maxRecDepth 1000000 in
theorem ck98_0 : ckS 98 0 60 = true := by decide +kernel
set_option maxRecDepth 1000000 in
theorem ck99_0 : ckS 99 0 60 = true := by decide +kernel
set_option maxRecDepth 1000000 in
theorem ck100_0 : ckS 100 0 60 = true := by decide +kernel
set_option maxRecDepth 1000000 in
theorem ck101_0 : ckS 101 0 60 = true := by decide +kernel
set_option maxRecDepth 1000000 in
theorem ck102_0 : ckS 102 0 60 = true := by decide +kernel
set_option maxRecDepth 1000000 in
theorem ck103_0 : ckS 103 0 60 = true := by decide +kernel
set_option maxRecDepth 1000000 in
theorem ck104_0 : ckS 104 0 60 = true := by decide +kernel
set_option maxRecDepth 1000000 in
theorem ck105_0 : ckS 105 0 60 = true := by decide +kernel
set_option maxRecDepth 1000000 in
theorem ck106_0 : ckS 106 0 60 = true := by decide +kernel
set_option maxRecDepth 1000000 in
theorem ck106_60 : ckS 106 60 60 = true := by decide +kernel
set_option maxRecDepth 1000000 in
theorem ck107_0 : ckS 107 0 60 = true := by decide +kernel
set_option maxRecDepth 1000000 in
theorem ck108_0 : ckS 108 0 60 = true := by decide +kernel
set_option maxRecDepth 1000000 in
theorem ck109_0 : ckS 109 0 60 = true := by decide +kernel
set_option maxRecDepth 1000000 in
theorem ck110_0 : ckS 110 0 60 = true := by decide +kernel
set_option maxRecDepth 1000000 in
theorem ck111_0 : ckS 111 0 60 = true := by decide +kernel
set_option maxRecDepth 1000000 in
theorem ck112_0 : ckS 112 0 60 = true := by decide +kernel
set_option maxRecDepth 1000000 in
theorem ck113_0 : ckS 113 0 60 = true := by decide +kernel
set_option maxRecDepth 1000000 in
theorem ck114_0 : ckS 114 0 60 = true := by decide +kernel
set_option maxRecDepth 1000000 in
theorem ck114_60 : ckS 114 60 60 = true := by decide +kernel
set_option maxRecDepth 1000000 in
theorem ck114_120 : ckS 114 120 60 = true := by decide +kernel
set_option maxRecDepth 1000000 in
theorem ck115_0 : ckS 115 0 60 = true := by decide +kernel
set_option maxRecDepth 1000000 in
theorem ck116_0 : ckS 116 0 60 = true := by decide +kernel
set_option maxRecDepth 1000000 in
theorem ck117_0 : ckS 117 0 60 = true := by decide +kernel
set_option maxRecDepth 1000000 in
theorem ck118_0 : ckS 118 0 60 = true := by decide +kernel
set_option maxRecDepth 1000000 in
theorem ck119_0 : ckS 119 0 60 = true := by decide +kernel
set_option maxRecDepth 1000000 in
theorem ck120_0 : ckS 120 0 60 = true := by decide +kernel
set_option maxRecDepth 1000000 in
theorem ck121_0 : ckS 121 0 60 = true := by decide +kernel
set_option maxRecDepth 1000000 in
theorem ck122_0 : ckS 122 0 60 = true := by decide +kernel
set_option maxRecDepth 1000000 in
theorem ck123_0 : ckS 123 0 60 = true := by decide +kernel
set_option maxRecDepth 1000000 in
theorem ck124_0 : ckS 124 0 60 = true := by decide +kernel
set_option maxRecDepth 1000000 in
theorem ck125_0 : ckS 125 0 60 = true := by decide +kernel
set_option maxRecDepth 1000000 in
theorem ck126_0 : ckS 126 0 60 = true := by decide +kernel
set_option maxRecDepth 1000000 in
theorem ck127_0 : ckS 127 0 60 = true := by decide +kernel
set_option maxRecDepth 1000000 in
theorem ck128_0 : ckS 128 0 60 = true := by decide +kernel
set_option maxRecDepth 1000000 in
theorem ck129_0 : ckS 129 0 60 = true := by decide +kernel
set_option maxRecDepth 1000000 in
theorem ck130_0 : ckS 130 0 60 = true := by decide +kernel
set_option maxRecDepth 1000000 in
theorem ck131_0 : ckS 131 0 60 = true := by decide +kernel
set_option maxRecDepth 1000000 in
theorem ck132_0 : ckS 132 0 60 = true := by decide +kernel
set_option maxRecDepth 1000000 in
theorem ck133_0 : ckS 133 0 60 = true := by decide +kernel
set_option maxRecDepth 1000000 in
theorem ck134_0 : ckS 134 0 60 = true := by decide +kernel
set_option maxRecDepth 1000000 in
theorem ck135_0 : ckS 135 0 60 = true := by decide +kernel
set_option maxRecDepth 1000000 in
theorem ck136_0 : ckS 136 0 60 = true := by decide +kernel
set_option maxRecDepth 1000000 in
theorem ck137_0 : ckS 137 0 60 = true := by decide +kernel
set_option maxRecDepth 1000000 in
theorem ck137_60 : ckS 137 60 60 = true := by decide +kernel
set_option maxRecDepth 1000000 in
theorem ck137_120 : ckS 137 120 60 = true := by decide +kernel
set_option maxRecDepth 1000000 in
theorem ck138_0 : ckS 138 0 60 = true := by decide +kernel
set_option maxRecDepth 1000000 in
theorem ck139_0 : ckS 139 0 60 = true := by decide +kernel
set_option maxRecDepth 1000000 in
theorem ck140_0 : ckS 140 0 60 = true := by decide +kernel
set_option maxRecDepth 1000000 in
theorem ck141_0 : ckS 141 0 60 = true := by decide +kernel
set_option maxRecDepth 1000000 in
theorem ck142_0 : ckS 142 0 60 = true := by decide +kernel
set_option maxRecDepth 1000000 in
theorem ck143_0 : ckS 143 0 60 = true := by decide +kernel
