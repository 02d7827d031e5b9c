set_option maxRecDepth 1000000 in
theorem ck114_60 : ckS 114 60 60 = true := by decide +kernel
set_option maxRecDepth 1000000 in
theorem ck114_120 : ckS 114 120 60 = true := by decide +kernel
set_option maxRecDepth 1000000 in
theorem ck115_0 : ckS 115 0 60 = true := by decide +kernel
set_option maxRecDepth 1000000 in
theorem ck116_0 : ckS 116 0 60 = true := by decide +kernel
set_option maxRecDepth 1000000 in
theorem ck117_0 : ckS 117 0 60 = true := by decide +kernel
set_option maxRecDepth 1000000 in
theorem ck118_0 : ckS 118 0 60 = true := by decide +kernel
set_option maxRecDepth 1000000 in
theorem ck119_0 : ckS 119 0 60 = true := by decide +kernel
set_option maxRecDepth 1000000 in
theorem ck120_0 : ckS 120 0 60 = true := by decide +kernel
set_option maxRecDepth 1000000 in
theorem ck121_0 : ckS 121 0 60 = true := by decide +kernel
set_option maxRecDepth 1000000 in
theorem ck122_0 : ckS 122 0 60 = true := by decide +kernel
set_option maxRecDepth 1000000 in
theorem ck123_0 : ckS 123 0 60 = true := by decide +kernel
set_option maxRecDepth 1000000 in
theorem ck124_0 : ckS 124 0 60 = true := by decide +kernel
set_option maxRecDepth 1000000 in
theorem ck125_0 : ckS 125 0 60 = true := by decide +kernel
set_option maxRecDepth 1000000 in
theorem ck126_0 : ckS 126 0 60 = true := by decide +kernel
set_option maxRecDepth 1000000 in
theorem ck127_0 : ckS 127 0 60 = true := by decide +kernel
set_option maxRecDepth 1000000 in
theorem ck128_0 : ckS 128 0 60 = true := by decide +kernel
set_option maxRecDepth 1000000 in
theorem ck129_0 : ckS 129 0 60 = true := by decide +kernel
set_option maxRecDepth 1000000 in
theorem ck130_0 : ckS 130 0 60 = true := by decide +kernel
set_option maxRecDepth 1000000 in
theorem ck131_0 : ckS 131 0 60 = true := by decide +kernel
set_option maxRecDepth 1000000 in
theorem ck132_0 : ckS 132 0 60 = true := by decide +kernel
set_option maxRecDepth 1000000 in
theorem ck133_0 : ckS 133 0 60 = true := by decide +kernel
set_option maxRecDepth 1000000 in
theorem ck134_0 : ckS 134 0 60 = true := by decide +kernel
set_option maxRecDepth 1000000 in
theorem ck135_0 : ckS 135 0 60 = true := by decide +kernel
set_option maxRecDepth 1000000 in
theorem ck136_0 : ckS 136 0 60 = true := by decide +kernel
set_option maxRecDepth 1000000 in
theorem ck137_0 : ckS 137 0 60 = true := by decide +kernel
set_option maxRecDepth 1000000 in
theorem ck137_60 : ckS 137 60 60 = true := by decide +kernel
set_option maxRecDepth 1000000 in
theorem ck137_120 : ckS 137 120 60 = true := by decide +kernel
set_option maxRecDepth 1000000 in
theorem ck138_0 : ckS 138 0 60 = true := by decide +kernel
set_option maxRecDepth 1000000 in
theorem ck139_0 : ckS 139 0 60 = true := by decide +kernel
set_option maxRecDepth 1000000 in
theorem ck140_0 : ckS 140 0 60 = true := by decide +kernel
set_option maxRecDepth 1000000 in
theorem ck141_0 : ckS 141 0 60 = true := by decide +kernel
set_option maxRecDepth 1000000 in
theorem ck142_0 : ckS 142 0 60 = true := by decide +kernel
set_option maxRecDepth 1000000 in
theorem ck143_0 : ckS 143 0 60 = true := by decide +kernel
set_option maxRecDepth 1000000 in
theorem ck144_0 : ckS 144 0 60 = true := by decide +kernel
set_option maxRecDepth 1000000 in
theorem ck145_0 : ckS 145 0 60 = true := by decide +kernel
set_option maxRecDepth 1000000 in
theorem ck145_60 : ckS 145 60 60 = true := by decide +kernel
set_option maxRecDepth 1000000 in
theorem ck146_0 : ckS 146 0 60 = true := by decide +kernel
set_option maxRecDepth 1000000 in
theorem ck147_0 : ckS 147 0 60 = true := by decide +kernel
set_option maxRecDepth 1000000 in
theorem ck148_0 : ckS 148 0 60 = true := by decide +kernel
set_option maxRecDepth 1000000 in
theorem ck148_60 : ckS 148 60 60 = true := by decide +kernel
set_option maxRecDepth 1000000 in
theorem ck148_120 : ckS 148 120 60 = true := by decide +kernel
set_option maxRecDepth 1000000 in
theorem ck149_0 : ckS 149 0 60 = true := by decide +kernel
set_option maxRecDepth 1000000 in
theorem ck150_0 : ckS 150 0 60 = true := by decide +kernel
set_option maxRecDepth 1000000 in
theorem ck151_0 : ckS 151 0 60 = true := by decide +kernel
set_option maxRecDepth 1000000 in
theorem ck152_0 : ckS 152 0 60 = true := by decide +kernel
set_option maxRecDepth 1000000 in
theorem ck153_0 : ckS 153 0 60 = true := by decide +kernel
set_option maxRecDepth 1000000 in
theorem ck154_0 : ckS 154 0 60 = true := by decide +kernel
set_option maxRecDepth 1000000 in
theorem ck155_0 : ckS 155 0 60 = true := by decide +kernel
set_option maxRecDepth 1000000 in
theorem ck156_0 : ckS 156 0 60 = true := by decide +kernel
set_option maxRecDepth 1000000 in
theorem ck157_0 : ckS 157 0 60 = true := by decide +kernel
set_option maxRecDepth 1000000 in
theorem ck158_0 : ckS 158 0 60 = true := by decide +kernel
set_option maxRecDepth 1000000 in
theorem ck159_0 : ckS 159 0 60 = true := by decide +kernel
set_option maxRecDepth 1000000 in
theorem ck160_0 : ckS 160 0 60 = true := by decide +kernel
