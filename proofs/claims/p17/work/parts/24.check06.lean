set_option maxRecDepth 1000000 in
theorem ck197_0 : ckS 197 0 60 = true := by decide +kernel
set_option maxRecDepth 1000000 in
theorem ck197_60 : ckS 197 60 60 = true := by decide +kernel
set_option maxRecDepth 1000000 in
theorem ck198_0 : ckS 198 0 60 = true := by decide +kernel
set_option maxRecDepth 1000000 in
theorem ck198_60 : ckS 198 60 60 = true := by decide +kernel
set_option maxRecDepth 1000000 in
theorem ck199_0 : ckS 199 0 60 = true := by decide +kernel
set_option maxRecDepth 1000000 in
theorem ck199_60 : ckS 199 60 60 = true := by decide +kernel
set_option maxRecDepth 1000000 in
theorem ck200_0 : ckS 200 0 60 = true := by decide +kernel
set_option maxRecDepth 1000000 in
theorem ck200_60 : ckS 200 60 60 = true := by decide +kernel
set_option maxRecDepth 1000000 in
theorem ck201_0 : ckS 201 0 60 = true := by decide +kernel
set_option maxRecDepth 1000000 in
theorem ck201_60 : ckS 201 60 60 = true := by decide +kernel
set_option maxRecDepth 1000000 in
theorem ck202_0 : ckS 202 0 60 = true := by decide +kernel
set_option maxRecDepth 1000000 in
theorem ck203_0 : ckS 203 0 60 = true := by decide +kernel
set_option maxRecDepth 1000000 in
theorem ck204_0 : ckS 204 0 60 = true := by decide +kernel
set_option maxRecDepth 1000000 in
theorem ck205_0 : ckS 205 0 60 = true := by decide +kernel
set_option maxRecDepth 1000000 in
theorem ck206_0 : ckS 206 0 60 = true := by decide +kernel
set_option maxRecDepth 1000000 in
theorem ck207_0 : ckS 207 0 60 = true := by decide +kernel
set_option maxRecDepth 1000000 in
theorem ck208_0 : ckS 208 0 60 = true := by decide +kernel
set_option maxRecDepth 1000000 in
theorem ck208_60 : ckS 208 60 60 = true := by decide +kernel
set_option maxRecDepth 1000000 in
theorem ck209_0 : ckS 209 0 60 = true := by decide +kernel
set_option maxRecDepth 1000000 in
theorem ck210_0 : ckS 210 0 60 = true := by decide +kernel
set_option maxRecDepth 1000000 in
theorem ck211_0 : ckS 211 0 60 = true := by decide +kernel
set_option maxRecDepth 1000000 in
theorem ck212_0 : ckS 212 0 60 = true := by decide +kernel
set_option maxRecDepth 1000000 in
theorem ck212_60 : ckS 212 60 60 = true := by decide +kernel
set_option maxRecDepth 1000000 in
theorem ck213_0 : ckS 213 0 60 = true := by decide +kernel
set_option maxRecDepth 1000000 in
theorem ck214_0 : ckS 214 0 60 = true := by decide +kernel
set_option maxRecDepth 1000000 in
theorem ck215_0 : ckS 215 0 60 = true := by decide +kernel
set_option maxRecDepth 1000000 in
theorem ck216_0 : ckS 216 0 60 = true := by decide +kernel
set_option maxRecDepth 1000000 in
theorem ck217_0 : ckS 217 0 60 = true := by decide +kernel
set_option maxRecDepth 1000000 in
theorem ck218_0 : ckS 218 0 60 = true := by decide +kernel
set_option maxRecDepth 1000000 in
theorem ck219_0 : ckS 219 0 60 = true := by decide +kernel
set_option maxRecDepth 1000000 in
theorem ck219_60 : ckS 219 60 60 = true := by decide +kernel
set_option maxRecDepth 1000000 in
theorem ck220_0 : ckS 220 0 60 = true := by decide +kernel
set_option maxRecDepth 1000000 in
theorem ck221_0 : ckS 221 0 60 = true := by decide +kernel
set_option maxRecDepth 1000000 in
theorem ck221_60 : ckS 221 60 60 = true := by decide +kernel
set_option maxRecDepth 1000000 in
theorem ck221_120 : ckS 221 120 60 = true := by decide +kernel
set_option maxRecDepth 1000000 in
theorem ck222_0 : ckS 222 0 60 = true := by decide +kernel
set_option maxRecDepth 1000000 in
theorem ck223_0 : ckS 223 0 60 = true := by decide +kernel
set_option maxRecDepth 1000000 in
theorem ck224_0 : ckS 224 0 60 = true := by decide +kernel
set_option maxRecDepth 1000000 in
theorem ck224_60 : ckS 224 60 60 = true := by decide +kernel
