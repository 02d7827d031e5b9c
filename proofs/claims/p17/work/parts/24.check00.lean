/-! the tables are right: every instruction, every method -/
noncomputable def ckS (y a n : Nat) : Bool := (((kcs.getD y []).drop a).take n).all (fun x => dcAll mK mL mN mB mR y x.1 x.2)
set_option maxRecDepth 1000000 in
theorem ck0_0 : ckS 0 0 60 = true := by decide +kernel
set_option maxRecDepth 1000000 in
theorem ck0_60 : ckS 0 60 60 = true := by decide +kernel
set_option maxRecDepth 1000000 in
theorem ck0_120 : ckS 0 120 60 = true := by decide +kernel
set_option maxRecDepth 1000000 in
theorem ck0_180 : ckS 0 180 60 = true := by decide +kernel
set_option maxRecDepth 1000000 in
theorem ck0_240 : ckS 0 240 60 = true := by decide +kernel
set_option maxRecDepth 1000000 in
theorem ck0_300 : ckS 0 300 60 = true := by decide +kernel
set_option maxRecDepth 1000000 in
theorem ck0_360 : ckS 0 360 60 = true := by decide +kernel
set_option maxRecDepth 1000000 in
theorem ck0_420 : ckS 0 420 60 = true := by decide +kernel
set_option maxRecDepth 1000000 in
theorem ck0_480 : ckS 0 480 60 = true := by decide +kernel
set_option maxRecDepth 1000000 in
theorem ck0_540 : ckS 0 540 60 = true := by decide +kernel
set_option maxRecDepth 1000000 in
theorem ck0_600 : ckS 0 600 60 = true := by decide +kernel
set_option maxRecDepth 1000000 in
theorem ck0_660 : ckS 0 660 60 = true := by decide +kernel
set_option maxRecDepth 1000000 in
theorem ck0_720 : ckS 0 720 60 = true := by decide +kernel
set_option maxRecDepth 1000000 in
theorem ck0_780 : ckS 0 780 60 = true := by decide +kernel
set_option maxRecDepth 1000000 in
theorem ck0_840 : ckS 0 840 60 = true := by decide +kernel
set_option maxRecDepth 1000000 in
theorem ck0_900 : ckS 0 900 60 = true := by decide +kernel
set_option maxRecDepth 1000000 in
theorem ck0_960 : ckS 0 960 60 = true := by decide +kernel
set_option maxRecDepth 1000000 in
theorem ck0_1020 : ckS 0 1020 60 = true := by decide +kernel
set_option maxRecDepth 1000000 in
theorem ck0_1080 : ckS 0 1080 60 = true := by decide +kernel
set_option maxRecDepth 1000000 in
theorem ck0_1140 : ckS 0 1140 60 = true := by decide +kernel
set_option maxRecDepth 1000000 in
theorem ck1_0 : ckS 1 0 60 = true := by decide +kernel
set_option maxRecDepth 1000000 in
theorem ck2_0 : ckS 2 0 60 = true := by decide +kernel
set_option maxRecDepth 1000000 in
theorem ck2_60 : ckS 2 60 60 = true := by decide +kernel
set_option maxRecDepth 1000000 in
theorem ck2_120 : ckS 2 120 60 = true := by decide +kernel
set_option maxRecDepth 1000000 in
theorem ck2_180 : ckS 2 180 60 = true := by decide +kernel
