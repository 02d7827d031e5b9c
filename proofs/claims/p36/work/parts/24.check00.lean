/-! the tables are right: every instruction, every method -/
noncomputable def kcf (y : Nat) : List Nat := (kcy y).flatten
noncomputable def ckS (y a n : Nat) : Bool := kzA (fun m => dcAll mK mL mN mB mR y (m % 16384) (kzd m)) ((kzD a (kcf y)).take n)
set_option maxRecDepth 1000000 in
theorem ck0_0 : ckS 0 0 60 = true := by decide +kernel
set_option maxRecDepth 1000000 in
theorem ck0_60 : ckS 0 60 60 = true := by decide +kernel
set_option maxRecDepth 1000000 in
theorem ck0_120 : ckS 0 120 60 = true := by decide +kernel
set_option maxRecDepth 1000000 in
theorem ck0_180 : ckS 0 180 60 = true := by decide +kernel
set_option maxRecDepth 1000000 in
theorem ck0_240 : ckS 0 240 60 = true := by decide +kernel
set_option maxRecDepth 1000000 in
theorem ck0_300 : ckS 0 300 60 = true := by decide +kernel
set_option maxRecDepth 1000000 in
theorem ck0_360 : ckS 0 360 60 = true := by decide +kernel
set_option maxRecDepth 1000000 in
theorem ck0_420 : ckS 0 420 60 = true := by decide +kernel
set_option maxRecDepth 1000000 in
theorem ck0_480 : ckS 0 480 60 = true := by decide +kernel
set_option maxRecDepth 1000000 in
theorem ck0_540 : ckS 0 540 60 = true := by decide +kernel
set_option maxRecDepth 1000000 in
theorem ck0_600 : ckS 0 600 60 = true := by decide +kernel
set_option maxRecDepth 1000000 in
theorem ck0_660 : ckS 0 660 60 = true := by decide +kernel
set_option maxRecDepth 1000000 in
theorem ck0_720 : ckS 0 720 60 = true := by decide +kernel
set_option maxRecDepth 1000000 in
theorem ck0_780 : ckS 0 780 60 = true := by decide +kernel
set_option maxRecDepth 1000000 in
theorem ck0_840 : ckS 0 840 60 = true := by decide +kernel
set_option maxRecDepth 1000000 in
theorem ck0_900 : ckS 0 900 60 = true := by decide +kernel
set_option maxRecDepth 1000000 in
theorem ck0_960 : ckS 0 960 60 = true := by decide +kernel
set_option maxRecDepth 1000000 in
theorem ck0_1020 : ckS 0 1020 60 = true := by decide +kernel
set_option maxRecDepth 1000000 in
theorem ck0_1080 : ckS 0 1080 60 = true := by decide +kernel
set_option maxRecDepth 1000000 in
theorem ck0_1140 : ckS 0 1140 60 = true := by decide +kernel
set_option maxRecDepth 1000000 in
theorem ck1_0 : ckS 1 0 60 = true := by decide +kernel
set_option maxRecDepth 1000000 in
theorem ck2_0 : ckS 2 0 60 = true := by decide +kernel
set_option maxRecDepth 1000000 in
theorem ck2_60 : ckS 2 60 60 = true := by decide +kernel
set_option maxRecDepth 1000000 in
theorem ck2_120 : ckS 2 120 60 = true := by decide +kernel
set_option maxRecDepth 1000000 in
theorem ck2_180 : ckS 2 180 60 = true := by decide +kernel
set_option maxRecDepth 1000000 in
theorem ck2_240 : ckS 2 240 60 = true := by decide +kernel
set_option maxRecDepth 1000000 in
theorem ck2_300 : ckS 2 300 60 = true := by decide +kernel
set_option maxRecDepth 1000000 in
theorem ck2_360 : ckS 2 360 60 = true := by decide +kernel
set_option maxRecDepth 1000000 in
theorem ck3_0 : ckS 3 0 60 = true := by decide +kernel
set_option maxRecDepth 1000000 in
theorem ck4_0 : ckS 4 0 60 = true := by decide +kernel
set_option maxRecDepth 1000000 in
theorem ck4_60 : ckS 4 60 60 = true := by decide +kernel
set_option maxRecDepth 1000000 in
theorem ck4_120 : ckS 4 120 60 = true := by decide +kernel
set_option maxRecDepth 1000000 in
theorem ck5_0 : ckS 5 0 60 = true := by decide +kernel
set_option maxRecDepth 1000000 in
theorem ck6_0 : ckS 6 0 60 = true := by decide +kernel
set_option maxRecDepth 1000000 in
theorem ck7_0 : ckS 7 0 60 = true := by decide +kernel
set_option maxRecDepth 1000000 in
theorem ck8_0 : ckS 8 0 60 = true := by decide +kernel
set_option maxRecDepth 1000000 in
theorem ck9_0 : ckS 9 0 60 = true := by decide +kernel
set_option maxRecDepth 1000000 in
theorem ck10_0 : ckS 10 0 60 = true := by decide +kernel
set_option maxRecDepth 1000000 in
theorem ck10_60 : ckS 10 60 60 = true := by decide +kernel
set_option maxRecDepth 1000000 in
theorem ck11_0 : ckS 11 0 60 = true := by decide +kernel
set_option maxRecDepth 1000000 in
theorem ck12_0 : ckS 12 0 60 = true := by decide +kernel
set_option maxRecDepth 1000000 in
theorem ck13_0 : ckS 13 0 60 = true := by decide +kernel
set_option maxRecDepth 1000000 in
theorem ck14_0 : ckS 14 0 60 = true := by decide +kernel
set_option maxRecDepth 1000000 in
theorem ck15_0 : ckS 15 0 60 = true := by decide +kernel
set_option maxRecDepth 1000000 in
theorem ck16_0 : ckS 16 0 60 = true := by decide +kernel
set_option maxRecDepth 1000000 in
theorem ck17_0 : ckS 17 0 60 = true := by decide +kernel
set_option maxRecDepth 1000000 in
theorem ck18_0 : ckS 18 0 60 = true := by decide +kernel
set_option maxRecDepth 1000000 in
theorem ck19_0 : ckS 19 0 60 = true := by decide +kernel
set_option maxRecDepth 1000000 in
theorem ck20_0 : ckS 20 0 60 = true := by decide +kernel
set_option maxRecDepth 1000000 in
theorem ck21_0 : ckS 21 0 60 = true := by decide +kernel
set_option maxRecDepth 1000000 in
theorem ck22_0 : ckS 22 0 60 = true := by decide +kernel
set_option maxRecDepth 1000000 in
theorem ck23_0 : ckS 23 0 60 = true := by decide +kernel
set_option maxRecDepth 1000000 in
theorem ck24_0 : ckS 24 0 60 = true := by decide +kernel
set_option maxRecDepth 1000000 in
theorem ck25_0 : ckS 25 0 60 = true := by decide +kernel
set_option maxRecDepth 1000000 in
theorem ck26_0 : ckS 26 0 60 = true := by decide +kernel
set_option maxRecDepth 1000000 in
theorem ck27_0 : ckS 27 0 60 = true := by decide +kernel
set_option maxRecDepth 1000000 in
theorem ck28_0 : ckS 28 0 60 = true := by decide +kernel
set_option maxRecDepth 1000000 in
theorem ck29_0 : ckS 29 0 60 = true := by decide +kernel
set_option maxRecDepth 1000000 in
theorem ck30_0 : ckS 30 0 60 = true := by decide +kernel
set_option maxRecDepth 1000000 in
theorem ck30_60 : ckS 30 60 60 = true := by decide +kernel
set_option maxRecDepth 1000000 in
theorem ck31_0 : ckS 31 0 60 = true := by decide +kernel
set_option maxRecDepth 1000000 in
theorem ck32_0 : ckS 32 0 60 = true := by decide +kernel
set_option maxRecDepth 1000000 in
theorem ck33_0 : ckS 33 0 60 = true := by decide +kernel
set_option maxRecDepth 1000000 in
theorem ck34_0 : ckS 34 0 60 = true := by decide +kernel
set_option maxRecDepth 1000000 in
theorem ck35_0 : ckS 35 0 60 = true := by decide +kernel
set_option maxRecDepth 1000000 in
theorem ck36_0 : ckS 36 0 60 = true := by decide +kernel
set_option maxRecDepth 1000000 in
theorem ck37_0 : ckS 37 0 60 = true := by decide +kernel
set_option maxRecDepth 1000000 in
theorem ck38_0 : ckS 38 0 60 = true := by decide +kernel
set_option maxRecDepth 1000000 in
theorem ck39_0 : ckS 39 0 60 = true := by decide +kernel
set_option maxRecDepth 1000000 in
theorem ck40_0 : ckS 40 0 60 = true := by decide +kernel
set_option maxRecDepth 1000000 in
theorem ck41_0 : ckS 41 0 60 = true := by decide +kernel
set_option maxRecDepth 1000000 in
theorem ck41_60 : ckS 41 60 60 = true := by decide +kernel
set_option maxRecDepth 1000000 in
theorem ck42_0 : ckS 42 0 60 = true := by decide +kernel
set_option maxRecDepth 1000000 in
theorem ck42_60 : ckS 42 60 60 = true := by decide +kernel
set_option maxRecDepth 1000000 in
theorem ck42_120 : ckS 42 120 60 = true := by decide +kernel
set_option maxRecDepth 1000000 in
theorem ck43_0 : ckS 43 0 60 = true := by decide +kernel
set_option maxRecDepth 1000000 in
theorem ck44_0 : ckS 44 0 60 = true := by decide +kernel
set_option maxRecDepth 1000000 in
theorem ck45_0 : ckS 45 0 60 = true := by decide +kernel
set_option maxRecDepth 1000000 in
theorem ck46_0 : ckS 46 0 60 = true := by decide +kernel
