set_option maxRecDepth 1000000 in
theorem ck279_0 : ckS 279 0 60 = true := by decide +kernel
set_option maxRecDepth 1000000 in
theorem ck280_0 : ckS 280 0 60 = true := by decide +kernel
set_option maxRecDepth 1000000 in
theorem ck280_60 : ckS 280 60 60 = true := by decide +kernel
set_option maxRecDepth 1000000 in
theorem ck281_0 : ckS 281 0 60 = true := by decide +kernel
set_option maxRecDepth 1000000 in
theorem ck281_60 : ckS 281 60 60 = true := by decide +kernel
set_option maxRecDepth 1000000 in
theorem ck282_0 : ckS 282 0 60 = true := by decide +kernel
set_option maxRecDepth 1000000 in
theorem ck283_0 : ckS 283 0 60 = true := by decide +kernel
set_option maxRecDepth 1000000 in
theorem ck284_0 : ckS 284 0 60 = true := by decide +kernel
set_option maxRecDepth 1000000 in
theorem ck285_0 : ckS 285 0 60 = true := by decide +kernel
set_option maxRecDepth 1000000 in
theorem ck285_60 : ckS 285 60 60 = true := by decide +kernel
set_option maxRecDepth 1000000 in
theorem ck286_0 : ckS 286 0 60 = true := by decide +kernel
set_option maxRecDepth 1000000 in
theorem ck286_60 : ckS 286 60 60 = true := by decide +kernel
set_option maxRecDepth 1000000 in
theorem ck287_0 : ckS 287 0 60 = true := by decide +kernel
set_option maxRecDepth 1000000 in
theorem ck288_0 : ckS 288 0 60 = true := by decide +kernel
set_option maxRecDepth 1000000 in
theorem ck289_0 : ckS 289 0 60 = true := by decide +kernel
set_option maxRecDepth 1000000 in
theorem ck290_0 : ckS 290 0 60 = true := by decide +kernel
set_option maxRecDepth 1000000 in
theorem ck291_0 : ckS 291 0 60 = true := by decide +kernel
set_option maxRecDepth 1000000 in
theorem ck292_0 : ckS 292 0 60 = true := by decide +kernel
set_option maxRecDepth 1000000 in
theorem ck293_0 : ckS 293 0 60 = true := by decide +kernel
set_option maxRecDepth 1000000 in
theorem ck294_0 : ckS 294 0 60 = true := by decide +kernel
set_option maxRecDepth 1000000 in
theorem ck295_0 : ckS 295 0 60 = true := by decide +kernel
set_option maxRecDepth 1000000 in
theorem ck296_0 : ckS 296 0 60 = true := by decide +kernel
set_option maxRecDepth 1000000 in
theorem ck297_0 : ckS 297 0 60 = true := by decide +kernel
set_option maxRecDepth 1000000 in
theorem ck298_0 : ckS 298 0 60 = true := by decide +kernel
set_option maxRecDepth 1000000 in
theorem ck299_0 : ckS 299 0 60 = true := by decide +kernel
set_option maxRecDepth 1000000 in
theorem ck300_0 : ckS 300 0 60 = true := by decide +kernel
set_option maxRecDepth 1000000 in
theorem ck301_0 : ckS 301 0 60 = true := by decide +kernel
set_option maxRecDepth 1000000 in
theorem ck302_0 : ckS 302 0 60 = true := by decide +kernel
set_option maxRecDepth 1000000 in
theorem ck303_0 : ckS 303 0 60 = true := by decide +kernel
set_option maxRecDepth 1000000 in
theorem ck304_0 : ckS 304 0 60 = true := by decide +kernel
