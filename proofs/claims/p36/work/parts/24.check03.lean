set_option maxRecDepth 1000000 in
theorem ck224_60 : ckS 224 60 60 = true := by decide +kernel
set_option maxRecDepth 1000000 in
theorem ck225_0 : ckS 225 0 60 = true := by decide +kernel
set_option maxRecDepth 1000000 in
theorem ck226_0 : ckS 226 0 60 = true := by decide +kernel
set_option maxRecDepth 1000000 in
theorem ck227_0 : ckS 227 0 60 = true := by decide +kernel
set_option maxRecDepth 1000000 in
theorem ck228_0 : ckS 228 0 60 = true := by decide +kernel
set_option maxRecDepth 1000000 in
theorem ck229_0 : ckS 229 0 60 = true := by decide +kernel
set_option maxRecDepth 1000000 in
theorem ck230_0 : ckS 230 0 60 = true := by decide +kernel
set_option maxRecDepth 1000000 in
theorem ck231_0 : ckS 231 0 60 = true := by decide +kernel
set_option maxRecDepth 1000000 in
theorem ck232_0 : ckS 232 0 60 = true := by decide +kernel
set_option maxRecDepth 1000000 in
theorem ck232_60 : ckS 232 60 60 = true := by decide +kernel
set_option maxRecDepth 1000000 in
theorem ck233_0 : ckS 233 0 60 = true := by decide +kernel
set_option maxRecDepth 1000000 in
theorem ck234_0 : ckS 234 0 60 = true := by decide +kernel
set_option maxRecDepth 1000000 in
theorem ck235_0 : ckS 235 0 60 = true := by decide +kernel
set_option maxRecDepth 1000000 in
theorem ck236_0 : ckS 236 0 60 = true := by decide +kernel
set_option maxRecDepth 1000000 in
theorem ck237_0 : ckS 237 0 60 = true := by decide +kernel
set_option maxRecDepth 1000000 in
theorem ck238_0 : ckS 238 0 60 = true := by decide +kernel
set_option maxRecDepth 1000000 in
theorem ck239_0 : ckS 239 0 60 = true := by decide +kernel
set_option maxRecDepth 1000000 in
theorem ck240_0 : ckS 240 0 60 = true := by decide +kernel
set_option maxRecDepth 1000000 in
theorem ck241_0 : ckS 241 0 60 = true := by decide +kernel
set_option maxRecDepth 1000000 in
theorem ck242_0 : ckS 242 0 60 = true := by decide +kernel
set_option maxRecDepth 1000000 in
theorem ck243_0 : ckS 243 0 60 = true := by decide +kernel
set_option maxRecDepth 1000000 in
theorem ck244_0 : ckS 244 0 60 = true := by decide +kernel
set_option maxRecDepth 1000000 in
theorem ck245_0 : ckS 245 0 60 = true := by decide +kernel
set_option maxRecDepth 1000000 in
theorem ck246_0 : ckS 246 0 60 = true := by decide +kernel
set_option maxRecDepth 1000000 in
theorem ck247_0 : ckS 247 0 60 = true := by decide +kernel
set_option maxRecDepth 1000000 in
theorem ck248_0 : ckS 248 0 60 = true := by decide +kernel
set_option maxRecDepth 1000000 in
theorem ck249_0 : ckS 249 0 60 = true := by decide +kernel
set_option maxRecDepth 1000000 in
theorem ck250_0 : ckS 250 0 60 = true := by decide +kernel
set_option maxRecDepth 1000000 in
theorem ck251_0 : ckS 251 0 60 = true := by decide +kernel
set_option maxRecDepth 1000000 in
theorem ck252_0 : ckS 252 0 60 = true := by decide +kernel
set_option maxRecDepth 1000000 in
theorem ck253_0 : ckS 253 0 60 = true := by decide +kernel
set_option maxRecDepth 1000000 in
theorem ck253_60 : ckS 253 60 60 = true := by decide +kernel
set_option maxRecDepth 1000000 in
theorem ck253_120 : ckS 253 120 60 = true := by decide +kernel
set_option maxRecDepth 1000000 in
theorem ck254_0 : ckS 254 0 60 = true := by decide +kernel
set_option maxRecDepth 1000000 in
theorem ck255_0 : ckS 255 0 60 = true := by decide +kernel
set_option maxRecDepth 1000000 in
theorem ck256_0 : ckS 256 0 60 = true := by decide +kernel
set_option maxRecDepth 1000000 in
theorem ck256_60 : ckS 256 60 60 = true := by decide +kernel
set_option maxRecDepth 1000000 in
theorem ck257_0 : ckS 257 0 60 = true := by decide +kernel
set_option maxRecDepth 1000000 in
theorem ck258_0 : ckS 258 0 60 = true := by decide +kernel
set_option maxRecDepth 1000000 in
theorem ck259_0 : ckS 259 0 60 = true := by decide +kernel
set_option maxRecDepth 1000000 in
theorem ck260_0 : ckS 260 0 60 = true := by decide +kernel
set_option maxRecDepth 1000000 in
theorem ck261_0 : ckS 261 0 60 = true := by decide +kernel
set_option maxRecDepth 1000000 in
theorem ck262_0 : ckS 262 0 60 = true := by decide +kernel
set_option maxRecDepth 1000000 in
theorem ck263_0 : ckS 263 0 60 = true := by decide +kernel
set_option maxRecDepth 1000000 in
theorem ck264_0 : ckS 264 0 60 = true := by decide +kernel
set_option maxRecDepth 1000000 in
theorem ck265_0 : ckS 265 0 60 = true := by decide +kernel
set_option maxRecDepth 1000000 in
theorem ck266_0 : ckS 266 0 60 = true := by decide +kernel
set_option maxRecDepth 1000000 in
theorem ck267_0 : ckS 267 0 60 = true := by decide +kernel
set_option maxRecDepth 1000000 in
theorem ck268_0 : ckS 268 0 60 = true := by decide +kernel
set_option maxRecDepth 1000000 in
theorem ck269_0 : ckS 269 0 60 = true := by decide +kernel
set_option maxRecDepth 1000000 in
theorem ck270_0 : ckS 270 0 60 = true := by decide +kernel
set_option maxRecDepth 1000000 in
theorem ck271_0 : ckS 271 0 60 = true := by decide +kernel
set_option maxRecDepth 1000000 in
theorem ck272_0 : ckS 272 0 60 = true := by decide +kernel
set_option maxRecDepth 1000000 in
theorem ck273_0 : ckS 273 0 60 = true := by decide +kernel
set_option maxRecDepth 1000000 in
theorem ck274_0 : ckS 274 0 60 = true := by decide +kernel
set_option maxRecDepth 1000000 in
theorem ck275_0 : ckS 275 0 60 = true := by decide +kernel
set_option maxRecDepth 1000000 in
theorem ck276_0 : ckS 276 0 60 = true := by decide +kernel
set_option maxRecDepth 1000000 in
theorem ck277_0 : ckS 277 0 60 = true := by decide +kernel
set_option maxRecDepth 1000000 in
theorem ck278_0 : ckS 278 0 60 = true := by decide +kernel
set_option maxRecDepth 1000000 in
theorem ck279_0 : ckS 279 0 60 = true := by decide +kernel
set_option maxRecDepth 1000000 in
theorem ck280_0 : ckS 280 0 60 = true := by decide +kernel
set_option maxRecDepth 1000000 in
theorem ck280_60 : ckS 280 60 60 = true := by decide +kernel
set_option maxRecDepth 1000000 in
theorem ck281_0 : ckS 281 0 60 = true := by decide +kernel
set_option maxRecDepth 1000000 in
theorem ck281_60 : ckS 281 60 60 = true := by decide +kernel
set_option maxRecDepth 1000000 in
theorem ck282_0 : ckS 282 0 60 = true := by decide +kernel
set_option maxRecDepth 1000000 in
theorem ck283_0 : ckS 283 0 60 = true := by decide +kernel
set_option maxRecDepth 1000000 in
theorem ck284_0 : ckS 284 0 60 = true := by decide +kernel
set_option maxRecDepth 1000000 in
theorem ck285_0 : ckS 285 0 60 = true := by decide +kernel
set_option maxRecDepth 1000000 in
theorem ck285_60 : ckS 285 60 60 = true := by decide +kernel
set_option maxRecDepth 1000000 in
theorem ck286_0 : ckS 286 0 60 = true := by decide +kernel
set_option maxRecDepth 1000000 in
theorem ck286_60 : ckS 286 60 60 = true := by decide +kernel
set_option maxRecDepth 1000000 in
theorem ck287_0 : ckS 287 0 60 = true := by decide +kernel
set_option maxRecDepth 1000000 in
theorem ck288_0 : ckS 288 0 60 = true := by decide +kernel
set_option maxRecDepth 1000000 in
theorem ck289_0 : ckS 289 0 60 = true := by decide +kernel
set_option maxRecDepth 1000000 in
theorem ck290_0 : ckS 290 0 60 = true := by decide +kernel
set_option maxRecDepth 1000000 in
theorem ck291_0 : ckS 291 0 60 = true := by decide +kernel
set_option maxRecDepth 1000000 in
theorem ck292_0 : ckS 292 0 60 = true := by decide +kernel
set_option maxRecDepth 1000000 in
theorem ck293_0 : ckS 293 0 60 = true := by decide +kernel
set_option maxRecDepth 1000000 in
theorem ck294_0 : ckS 294 0 60 = true := by decide +kernel
set_option maxRecDepth 1000000 in
theorem ck295_0 : ckS 295 0 60 = true := by decide +kernel
set_option maxRecDepth 1000000 in
theorem ck296_0 : ckS 296 0 60 = true := by decide +kernel
set_option maxRecDepth 1000000 in
theorem ck297_0 : ckS 297 0 60 = true := by decide +kernel
set_option maxRecDepth 1000000 in
theorem ck298_0 : ckS 298 0 60 = true := by decide +kernel
set_option maxRecDepth 1000000 in
theorem ck299_0 : ckS 299 0 60 = true := by decide +kernel
set_option maxRecDepth 1000000 in
theorem ck300_0 : ckS 300 0 60 = true := by decide +kernel
set_option maxRecDepth 1000000 in
theorem ck301_0 : ckS 301 0 60 = true := by decide +kernel
set_option maxRecDepth 1000000 in
theorem ck302_0 : ckS 302 0 60 = true := by decide +kernel
set_option maxRecDepth 1000000 in
theorem ck303_0 : ckS 303 0 60 = true := by decide +kernel
set_option maxRecDepth 1000000 in
theorem ck304_0 : ckS 304 0 60 = true := by decide +kernel
