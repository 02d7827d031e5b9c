/-! the tables are right, all together -/
def ckA (y a : Nat) : Prop := ∀ m ∈ (kcf y).drop a, dcAll mK mL mN mB mR y (m % 16384) (kzd m) = true
theorem ckA_step {y a n : Nat} (h : ckS y a n = true) (h2 : ckA y (a + n)) : ckA y a := by
  unfold ckS at h
  rw [kzD_eq] at h
  intro m hm
  rw [← List.take_append_drop n ((kcf y).drop a)] at hm
  rcases List.mem_append.mp hm with hm | hm
  · exact kzA_of h m hm
  · rw [List.drop_drop] at hm
    exact h2 m hm
theorem ckA_end {y a : Nat} (h : Nat.ble (kcf y).length a = true) : ckA y a := by
  intro m hm
  rw [List.drop_eq_nil_of_le (Nat.le_of_ble_eq_true h)] at hm
  cases hm
set_option maxRecDepth 1000000 in
theorem ck_plain : ∀ y, y < 305 → ((kcf y).isEmpty || plainName (mN y).cls) = true := by decide +kernel
set_option maxRecDepth 1000000 in
theorem ca0 : ckA 0 0 := (ckA_step (n := 60) ck0_0 (ckA_step (n := 60) ck0_60 (ckA_step (n := 60) ck0_120 (ckA_step (n := 60) ck0_180 (ckA_step (n := 60) ck0_240 (ckA_step (n := 60) ck0_300 (ckA_step (n := 60) ck0_360 (ckA_step (n := 60) ck0_420 (ckA_step (n := 60) ck0_480 (ckA_step (n := 60) ck0_540 (ckA_step (n := 60) ck0_600 (ckA_step (n := 60) ck0_660 (ckA_step (n := 60) ck0_720 (ckA_step (n := 60) ck0_780 (ckA_step (n := 60) ck0_840 (ckA_step (n := 60) ck0_900 (ckA_step (n := 60) ck0_960 (ckA_step (n := 60) ck0_1020 (ckA_step (n := 60) ck0_1080 (ckA_step (n := 60) ck0_1140 (ckA_end (by decide +kernel))))))))))))))))))))))
set_option maxRecDepth 1000000 in
theorem ca1 : ckA 1 0 := (ckA_step (n := 60) ck1_0 (ckA_end (by decide +kernel)))
set_option maxRecDepth 1000000 in
theorem ca2 : ckA 2 0 := (ckA_step (n := 60) ck2_0 (ckA_step (n := 60) ck2_60 (ckA_step (n := 60) ck2_120 (ckA_step (n := 60) ck2_180 (ckA_step (n := 60) ck2_240 (ckA_step (n := 60) ck2_300 (ckA_step (n := 60) ck2_360 (ckA_end (by decide +kernel)))))))))
set_option maxRecDepth 1000000 in
theorem ca3 : ckA 3 0 := (ckA_step (n := 60) ck3_0 (ckA_end (by decide +kernel)))
set_option maxRecDepth 1000000 in
theorem ca4 : ckA 4 0 := (ckA_step (n := 60) ck4_0 (ckA_step (n := 60) ck4_60 (ckA_step (n := 60) ck4_120 (ckA_end (by decide +kernel)))))
set_option maxRecDepth 1000000 in
theorem ca5 : ckA 5 0 := (ckA_step (n := 60) ck5_0 (ckA_end (by decide +kernel)))
set_option maxRecDepth 1000000 in
theorem ca6 : ckA 6 0 := (ckA_step (n := 60) ck6_0 (ckA_end (by decide +kernel)))
set_option maxRecDepth 1000000 in
theorem ca7 : ckA 7 0 := (ckA_step (n := 60) ck7_0 (ckA_end (by decide +kernel)))
set_option maxRecDepth 1000000 in
theorem ca8 : ckA 8 0 := (ckA_step (n := 60) ck8_0 (ckA_end (by decide +kernel)))
set_option maxRecDepth 1000000 in
theorem ca9 : ckA 9 0 := (ckA_step (n := 60) ck9_0 (ckA_end (by decide +kernel)))
set_option maxRecDepth 1000000 in
theorem ca10 : ckA 10 0 := (ckA_step (n := 60) ck10_0 (ckA_step (n := 60) ck10_60 (ckA_end (by decide +kernel))))
set_option maxRecDepth 1000000 in
theorem ca11 : ckA 11 0 := (ckA_step (n := 60) ck11_0 (ckA_end (by decide +kernel)))
set_option maxRecDepth 1000000 in
theorem ca12 : ckA 12 0 := (ckA_step (n := 60) ck12_0 (ckA_end (by decide +kernel)))
set_option maxRecDepth 1000000 in
theorem ca13 : ckA 13 0 := (ckA_step (n := 60) ck13_0 (ckA_end (by decide +kernel)))
set_option maxRecDepth 1000000 in
theorem ca14 : ckA 14 0 := (ckA_step (n := 60) ck14_0 (ckA_end (by decide +kernel)))
set_option maxRecDepth 1000000 in
theorem ca15 : ckA 15 0 := (ckA_step (n := 60) ck15_0 (ckA_end (by decide +kernel)))
set_option maxRecDepth 1000000 in
theorem ca16 : ckA 16 0 := (ckA_step (n := 60) ck16_0 (ckA_end (by decide +kernel)))
set_option maxRecDepth 1000000 in
theorem ca17 : ckA 17 0 := (ckA_step (n := 60) ck17_0 (ckA_end (by decide +kernel)))
set_option maxRecDepth 1000000 in
theorem ca18 : ckA 18 0 := (ckA_step (n := 60) ck18_0 (ckA_end (by decide +kernel)))
set_option maxRecDepth 1000000 in
theorem ca19 : ckA 19 0 := (ckA_step (n := 60) ck19_0 (ckA_end (by decide +kernel)))
set_option maxRecDepth 1000000 in
theorem ca20 : ckA 20 0 := (ckA_step (n := 60) ck20_0 (ckA_end (by decide +kernel)))
set_option maxRecDepth 1000000 in
theorem ca21 : ckA 21 0 := (ckA_step (n := 60) ck21_0 (ckA_end (by decide +kernel)))
set_option maxRecDepth 1000000 in
theorem ca22 : ckA 22 0 := (ckA_step (n := 60) ck22_0 (ckA_end (by decide +kernel)))
set_option maxRecDepth 1000000 in
theorem ca23 : ckA 23 0 := (ckA_step (n := 60) ck23_0 (ckA_end (by decide +kernel)))
set_option maxRecDepth 1000000 in
theorem ca24 : ckA 24 0 := (ckA_step (n := 60) ck24_0 (ckA_end (by decide +kernel)))
set_option maxRecDepth 1000000 in
theorem ca25 : ckA 25 0 := (ckA_step (n := 60) ck25_0 (ckA_end (by decide +kernel)))
set_option maxRecDepth 1000000 in
theorem ca26 : ckA 26 0 := (ckA_step (n := 60) ck26_0 (ckA_end (by decide +kernel)))
set_option maxRecDepth 1000000 in
theorem ca27 : ckA 27 0 := (ckA_step (n := 60) ck27_0 (ckA_end (by decide +kernel)))
set_option maxRecDepth 1000000 in
theorem ca28 : ckA 28 0 := (ckA_step (n := 60) ck28_0 (ckA_end (by decide +kernel)))
set_option maxRecDepth 1000000 in
theorem ca29 : ckA 29 0 := (ckA_step (n := 60) ck29_0 (ckA_end (by decide +kernel)))
set_option maxRecDepth 1000000 in
theorem ca30 : ckA 30 0 := (ckA_step (n := 60) ck30_0 (ckA_step (n := 60) ck30_60 (ckA_end (by decide +kernel))))
set_option maxRecDepth 1000000 in
theorem ca31 : ckA 31 0 := (ckA_step (n := 60) ck31_0 (ckA_end (by decide +kernel)))
set_option maxRecDepth 1000000 in
theorem ca32 : ckA 32 0 := (ckA_step (n := 60) ck32_0 (ckA_end (by decide +kernel)))
set_option maxRecDepth 1000000 in
theorem ca33 : ckA 33 0 := (ckA_step (n := 60) ck33_0 (ckA_end (by decide +kernel)))
set_option maxRecDepth 1000000 in
theorem ca34 : ckA 34 0 := (ckA_step (n := 60) ck34_0 (ckA_end (by decide +kernel)))
set_option maxRecDepth 1000000 in
theorem ca35 : ckA 35 0 := (ckA_step (n := 60) ck35_0 (ckA_end (by decide +kernel)))
set_option maxRecDepth 1000000 in
theorem ca36 : ckA 36 0 := (ckA_step (n := 60) ck36_0 (ckA_end (by decide +kernel)))
set_option maxRecDepth 1000000 in
theorem ca37 : ckA 37 0 := (ckA_step (n := 60) ck37_0 (ckA_end (by decide +kernel)))
set_option maxRecDepth 1000000 in
theorem ca38 : ckA 38 0 := (ckA_step (n := 60) ck38_0 (ckA_end (by decide +kernel)))
set_option maxRecDepth 1000000 in
theorem ca39 : ckA 39 0 := (ckA_step (n := 60) ck39_0 (ckA_end (by decide +kernel)))
set_option maxRecDepth 1000000 in
theorem ca40 : ckA 40 0 := (ckA_step (n := 60) ck40_0 (ckA_end (by decide +kernel)))
set_option maxRecDepth 1000000 in
theorem ca41 : ckA 41 0 := (ckA_step (n := 60) ck41_0 (ckA_step (n := 60) ck41_60 (ckA_end (by decide +kernel))))
set_option maxRecDepth 1000000 in
theorem ca42 : ckA 42 0 := (ckA_step (n := 60) ck42_0 (ckA_step (n := 60) ck42_60 (ckA_step (n := 60) ck42_120 (ckA_end (by decide +kernel)))))
set_option maxRecDepth 1000000 in
theorem ca43 : ckA 43 0 := (ckA_step (n := 60) ck43_0 (ckA_end (by decide +kernel)))
set_option maxRecDepth 1000000 in
theorem ca44 : ckA 44 0 := (ckA_step (n := 60) ck44_0 (ckA_end (by decide +kernel)))
set_option maxRecDepth 1000000 in
theorem ca45 : ckA 45 0 := (ckA_step (n := 60) ck45_0 (ckA_end (by decide +kernel)))
set_option maxRecDepth 1000000 in
theorem ca46 : ckA 46 0 := (ckA_step (n := 60) ck46_0 (ckA_end (by decide +kernel)))
set_option maxRecDepth 1000000 in
theorem ca47 : ckA 47 0 := (ckA_step (n := 60) ck47_0 (ckA_end (by decide +kernel)))
set_option maxRecDepth 1000000 in
theorem ca48 : ckA 48 0 := (ckA_step (n := 60) ck48_0 (ckA_end (by decide +kernel)))
set_option maxRecDepth 1000000 in
theorem ca49 : ckA 49 0 := (ckA_step (n := 60) ck49_0 (ckA_step (n := 60) ck49_60 (ckA_end (by decide +kernel))))
set_option maxRecDepth 1000000 in
theorem ca50 : ckA 50 0 := (ckA_step (n := 60) ck50_0 (ckA_end (by decide +kernel)))
set_option maxRecDepth 1000000 in
theorem ca51 : ckA 51 0 := (ckA_step (n := 60) ck51_0 (ckA_end (by decide +kernel)))
set_option maxRecDepth 1000000 in
theorem ca52 : ckA 52 0 := (ckA_step (n := 60) ck52_0 (ckA_step (n := 60) ck52_60 (ckA_end (by decide +kernel))))
set_option maxRecDepth 1000000 in
theorem ca53 : ckA 53 0 := (ckA_step (n := 60) ck53_0 (ckA_end (by decide +kernel)))
set_option maxRecDepth 1000000 in
theorem ca54 : ckA 54 0 := (ckA_step (n := 60) ck54_0 (ckA_end (by decide +kernel)))
set_option maxRecDepth 1000000 in
theorem ca55 : ckA 55 0 := (ckA_step (n := 60) ck55_0 (ckA_end (by decide +kernel)))
set_option maxRecDepth 1000000 in
theorem ca56 : ckA 56 0 := (ckA_step (n := 60) ck56_0 (ckA_end (by decide +kernel)))
set_option maxRecDepth 1000000 in
theorem ca57 : ckA 57 0 := (ckA_step (n := 60) ck57_0 (ckA_end (by decide +kernel)))
set_option maxRecDepth 1000000 in
theorem ca58 : ckA 58 0 := (ckA_step (n := 60) ck58_0 (ckA_end (by decide +kernel)))
set_option maxRecDepth 1000000 in
theorem ca59 : ckA 59 0 := (ckA_step (n := 60) ck59_0 (ckA_end (by decide +kernel)))
set_option maxRecDepth 1000000 in
theorem ca60 : ckA 60 0 := (ckA_step (n := 60) ck60_0 (ckA_end (by decide +kernel)))
set_option maxRecDepth 1000000 in
theorem ca61 : ckA 61 0 := (ckA_step (n := 60) ck61_0 (ckA_end (by decide +kernel)))
set_option maxRecDepth 1000000 in
theorem ca62 : ckA 62 0 := (ckA_step (n := 60) ck62_0 (ckA_end (by decide +kernel)))
set_option maxRecDepth 1000000 in
theorem ca63 : ckA 63 0 := (ckA_step (n := 60) ck63_0 (ckA_end (by decide +kernel)))
set_option maxRecDepth 1000000 in
theorem ca64 : ckA 64 0 := (ckA_step (n := 60) ck64_0 (ckA_end (by decide +kernel)))
set_option maxRecDepth 1000000 in
theorem ca65 : ckA 65 0 := (ckA_step (n := 60) ck65_0 (ckA_end (by decide +kernel)))
set_option maxRecDepth 1000000 in
theorem ca66 : ckA 66 0 := (ckA_step (n := 60) ck66_0 (ckA_end (by decide +kernel)))
set_option maxRecDepth 1000000 in
theorem ca67 : ckA 67 0 := (ckA_step (n := 60) ck67_0 (ckA_end (by decide +kernel)))
set_option maxRecDepth 1000000 in
theorem ca68 : ckA 68 0 := (ckA_step (n := 60) ck68_0 (ckA_end (by decide +kernel)))
set_option maxRecDepth 1000000 in
theorem ca69 : ckA 69 0 := (ckA_step (n := 60) ck69_0 (ckA_end (by decide +kernel)))
set_option maxRecDepth 1000000 in
theorem ca70 : ckA 70 0 := (ckA_step (n := 60) ck70_0 (ckA_end (by decide +kernel)))
set_option maxRecDepth 1000000 in
theorem ca71 : ckA 71 0 := (ckA_step (n := 60) ck71_0 (ckA_end (by decide +kernel)))
set_option maxRecDepth 1000000 in
theorem ca72 : ckA 72 0 := (ckA_step (n := 60) ck72_0 (ckA_end (by decide +kernel)))
set_option maxRecDepth 1000000 in
theorem ca73 : ckA 73 0 := (ckA_step (n := 60) ck73_0 (ckA_end (by decide +kernel)))
set_option maxRecDepth 1000000 in
theorem ca74 : ckA 74 0 := (ckA_step (n := 60) ck74_0 (ckA_step (n := 60) ck74_60 (ckA_end (by decide +kernel))))
set_option maxRecDepth 1000000 in
theorem ca75 : ckA 75 0 := (ckA_step (n := 60) ck75_0 (ckA_end (by decide +kernel)))
set_option maxRecDepth 1000000 in
theorem ca76 : ckA 76 0 := (ckA_step (n := 60) ck76_0 (ckA_end (by decide +kernel)))
set_option maxRecDepth 1000000 in
theorem ca77 : ckA 77 0 := (ckA_step (n := 60) ck77_0 (ckA_step (n := 60) ck77_60 (ckA_end (by decide +kernel))))
set_option maxRecDepth 1000000 in
theorem ca78 : ckA 78 0 := (ckA_step (n := 60) ck78_0 (ckA_step (n := 60) ck78_60 (ckA_end (by decide +kernel))))
set_option maxRecDepth 1000000 in
theorem ca79 : ckA 79 0 := (ckA_step (n := 60) ck79_0 (ckA_end (by decide +kernel)))
set_option maxRecDepth 1000000 in
theorem ca80 : ckA 80 0 := (ckA_step (n := 60) ck80_0 (ckA_end (by decide +kernel)))
set_option maxRecDepth 1000000 in
theorem ca81 : ckA 81 0 := (ckA_step (n := 60) ck81_0 (ckA_end (by decide +kernel)))
set_option maxRecDepth 1000000 in
theorem ca82 : ckA 82 0 := (ckA_step (n := 60) ck82_0 (ckA_step (n := 60) ck82_60 (ckA_end (by decide +kernel))))
set_option maxRecDepth 1000000 in
theorem ca83 : ckA 83 0 := (ckA_step (n := 60) ck83_0 (ckA_end (by decide +kernel)))
set_option maxRecDepth 1000000 in
theorem ca84 : ckA 84 0 := (ckA_step (n := 60) ck84_0 (ckA_step (n := 60) ck84_60 (ckA_end (by decide +kernel))))
set_option maxRecDepth 1000000 in
theorem ca85 : ckA 85 0 := (ckA_step (n := 60) ck85_0 (ckA_end (by decide +kernel)))
set_option maxRecDepth 1000000 in
theorem ca86 : ckA 86 0 := (ckA_step (n := 60) ck86_0 (ckA_step (n := 60) ck86_60 (ckA_end (by decide +kernel))))
set_option maxRecDepth 1000000 in
theorem ca87 : ckA 87 0 := (ckA_step (n := 60) ck87_0 (ckA_end (by decide +kernel)))
set_option maxRecDepth 1000000 in
theorem ca88 : ckA 88 0 := (ckA_step (n := 60) ck88_0 (ckA_end (by decide +kernel)))
set_option maxRecDepth 1000000 in
theorem ca89 : ckA 89 0 := (ckA_step (n := 60) ck89_0 (ckA_end (by decide +kernel)))
set_option maxRecDepth 1000000 in
theorem ca90 : ckA 90 0 := (ckA_step (n := 60) ck90_0 (ckA_end (by decide +kernel)))
set_option maxRecDepth 1000000 in
theorem ca91 : ckA 91 0 := (ckA_step (n := 60) ck91_0 (ckA_end (by decide +kernel)))
set_option maxRecDepth 1000000 in
theorem ca92 : ckA 92 0 := (ckA_step (n := 60) ck92_0 (ckA_end (by decide +kernel)))
set_option maxRecDepth 1000000 in
theorem ca93 : ckA 93 0 := (ckA_step (n := 60) ck93_0 (ckA_end (by decide +kernel)))
set_option maxRecDepth 1000000 in
theorem ca94 : ckA 94 0 := (ckA_step (n := 60) ck94_0 (ckA_end (by decide +kernel)))
set_option maxRecDepth 1000000 in
theorem ca95 : ckA 95 0 := (ckA_step (n := 60) ck95_0 (ckA_end (by decide +kernel)))
set_option maxRecDepth 1000000 in
theorem ca96 : ckA 96 0 := (ckA_step (n := 60) ck96_0 (ckA_end (by decide +kernel)))
set_option maxRecDepth 1000000 in
theorem ca97 : ckA 97 0 := (ckA_step (n := 60) ck97_0 (ckA_end (by decide +kernel)))
set_option maxRecDepth 1000000 in
theorem ca98 : ckA 98 0 := (ckA_step (n := 60) ck98_0 (ckA_end (by decide +kernel)))
set_option maxRecDepth 1000000 in
theorem ca99 : ckA 99 0 := (ckA_step (n := 60) ck99_0 (ckA_end (by decide +kernel)))
set_option maxRecDepth 1000000 in
theorem ca100 : ckA 100 0 := (ckA_step (n := 60) ck100_0 (ckA_end (by decide +kernel)))
set_option maxRecDepth 1000000 in
theorem ca101 : ckA 101 0 := (ckA_step (n := 60) ck101_0 (ckA_end (by decide +kernel)))
set_option maxRecDepth 1000000 in
theorem ca102 : ckA 102 0 := (ckA_step (n := 60) ck102_0 (ckA_end (by decide +kernel)))
set_option maxRecDepth 1000000 in
theorem ca103 : ckA 103 0 := (ckA_step (n := 60) ck103_0 (ckA_end (by decide +kernel)))
set_option maxRecDepth 1000000 in
theorem ca104 : ckA 104 0 := (ckA_step (n := 60) ck104_0 (ckA_end (by decide +kernel)))
set_option maxRecDepth 1000000 in
theorem ca105 : ckA 105 0 := (ckA_step (n := 60) ck105_0 (ckA_end (by decide +kernel)))
set_option maxRecDepth 1000000 in
theorem ca106 : ckA 106 0 := (ckA_step (n := 60) ck106_0 (ckA_step (n := 60) ck106_60 (ckA_end (by decide +kernel))))
set_option maxRecDepth 1000000 in
theorem ca107 : ckA 107 0 := (ckA_step (n := 60) ck107_0 (ckA_end (by decide +kernel)))
set_option maxRecDepth 1000000 in
theorem ca108 : ckA 108 0 := (ckA_step (n := 60) ck108_0 (ckA_end (by decide +kernel)))
set_option maxRecDepth 1000000 in
theorem ca109 : ckA 109 0 := (ckA_step (n := 60) ck109_0 (ckA_end (by decide +kernel)))
set_option maxRecDepth 1000000 in
theorem ca110 : ckA 110 0 := (ckA_step (n := 60) ck110_0 (ckA_end (by decide +kernel)))
set_option maxRecDepth 1000000 in
theorem ca111 : ckA 111 0 := (ckA_step (n := 60) ck111_0 (ckA_end (by decide +kernel)))
set_option maxRecDepth 1000000 in
theorem ca112 : ckA 112 0 := (ckA_step (n := 60) ck112_0 (ckA_end (by decide +kernel)))
set_option maxRecDepth 1000000 in
theorem ca113 : ckA 113 0 := (ckA_step (n := 60) ck113_0 (ckA_end (by decide +kernel)))
set_option maxRecDepth 1000000 in
theorem ca114 : ckA 114 0 := (ckA_step (n := 60) ck114_0 (ckA_step (n := 60) ck114_60 (ckA_step (n := 60) ck114_120 (ckA_end (by decide +kernel)))))
set_option maxRecDepth 1000000 in
theorem ca115 : ckA 115 0 := (ckA_step (n := 60) ck115_0 (ckA_end (by decide +kernel)))
set_option maxRecDepth 1000000 in
theorem ca116 : ckA 116 0 := (ckA_step (n := 60) ck116_0 (ckA_end (by decide +kernel)))
set_option maxRecDepth 1000000 in
theorem ca117 : ckA 117 0 := (ckA_step (n := 60) ck117_0 (ckA_end (by decide +kernel)))
set_option maxRecDepth 1000000 in
theorem ca118 : ckA 118 0 := (ckA_step (n := 60) ck118_0 (ckA_end (by decide +kernel)))
set_option maxRecDepth 1000000 in
theorem ca119 : ckA 119 0 := (ckA_step (n := 60) ck119_0 (ckA_end (by decide +kernel)))
set_option maxRecDepth 1000000 in
theorem ca120 : ckA 120 0 := (ckA_step (n := 60) ck120_0 (ckA_end (by decide +kernel)))
set_option maxRecDepth 1000000 in
theorem ca121 : ckA 121 0 := (ckA_step (n := 60) ck121_0 (ckA_end (by decide +kernel)))
set_option maxRecDepth 1000000 in
theorem ca122 : ckA 122 0 := (ckA_step (n := 60) ck122_0 (ckA_end (by decide +kernel)))
set_option maxRecDepth 1000000 in
theorem ca123 : ckA 123 0 := (ckA_step (n := 60) ck123_0 (ckA_end (by decide +kernel)))
set_option maxRecDepth 1000000 in
theorem ca124 : ckA 124 0 := (ckA_step (n := 60) ck124_0 (ckA_end (by decide +kernel)))
set_option maxRecDepth 1000000 in
theorem ca125 : ckA 125 0 := (ckA_step (n := 60) ck125_0 (ckA_end (by decide +kernel)))
set_option maxRecDepth 1000000 in
theorem ca126 : ckA 126 0 := (ckA_step (n := 60) ck126_0 (ckA_end (by decide +kernel)))
set_option maxRecDepth 1000000 in
theorem ca127 : ckA 127 0 := (ckA_step (n := 60) ck127_0 (ckA_end (by decide +kernel)))
set_option maxRecDepth 1000000 in
theorem ca128 : ckA 128 0 := (ckA_step (n := 60) ck128_0 (ckA_end (by decide +kernel)))
set_option maxRecDepth 1000000 in
theorem ca129 : ckA 129 0 := (ckA_step (n := 60) ck129_0 (ckA_end (by decide +kernel)))
set_option maxRecDepth 1000000 in
theorem ca130 : ckA 130 0 := (ckA_step (n := 60) ck130_0 (ckA_end (by decide +kernel)))
set_option maxRecDepth 1000000 in
theorem ca131 : ckA 131 0 := (ckA_step (n := 60) ck131_0 (ckA_end (by decide +kernel)))
set_option maxRecDepth 1000000 in
theorem ca132 : ckA 132 0 := (ckA_step (n := 60) ck132_0 (ckA_end (by decide +kernel)))
set_option maxRecDepth 1000000 in
theorem ca133 : ckA 133 0 := (ckA_step (n := 60) ck133_0 (ckA_end (by decide +kernel)))
set_option maxRecDepth 1000000 in
theorem ca134 : ckA 134 0 := (ckA_step (n := 60) ck134_0 (ckA_end (by decide +kernel)))
set_option maxRecDepth 1000000 in
theorem ca135 : ckA 135 0 := (ckA_step (n := 60) ck135_0 (ckA_end (by decide +kernel)))
set_option maxRecDepth 1000000 in
theorem ca136 : ckA 136 0 := (ckA_step (n := 60) ck136_0 (ckA_end (by decide +kernel)))
set_option maxRecDepth 1000000 in
theorem ca137 : ckA 137 0 := (ckA_step (n := 60) ck137_0 (ckA_step (n := 60) ck137_60 (ckA_step (n := 60) ck137_120 (ckA_end (by decide +kernel)))))
set_option maxRecDepth 1000000 in
theorem ca138 : ckA 138 0 := (ckA_step (n := 60) ck138_0 (ckA_end (by decide +kernel)))
set_option maxRecDepth 1000000 in
theorem ca139 : ckA 139 0 := (ckA_step (n := 60) ck139_0 (ckA_end (by decide +kernel)))
set_option maxRecDepth 1000000 in
theorem ca140 : ckA 140 0 := (ckA_step (n := 60) ck140_0 (ckA_end (by decide +kernel)))
set_option maxRecDepth 1000000 in
theorem ca141 : ckA 141 0 := (ckA_step (n := 60) ck141_0 (ckA_end (by decide +kernel)))
set_option maxRecDepth 1000000 in
theorem ca142 : ckA 142 0 := (ckA_step (n := 60) ck142_0 (ckA_end (by decide +kernel)))
set_option maxRecDepth 1000000 in
theorem ca143 : ckA 143 0 := (ckA_step (n := 60) ck143_0 (ckA_end (by decide +kernel)))
set_option maxRecDepth 1000000 in
theorem ca144 : ckA 144 0 := (ckA_step (n := 60) ck144_0 (ckA_end (by decide +kernel)))
set_option maxRecDepth 1000000 in
theorem ca145 : ckA 145 0 := (ckA_step (n := 60) ck145_0 (ckA_step (n := 60) ck145_60 (ckA_end (by decide +kernel))))
set_option maxRecDepth 1000000 in
theorem ca146 : ckA 146 0 := (ckA_step (n := 60) ck146_0 (ckA_end (by decide +kernel)))
set_option maxRecDepth 1000000 in
theorem ca147 : ckA 147 0 := (ckA_step (n := 60) ck147_0 (ckA_end (by decide +kernel)))
set_option maxRecDepth 1000000 in
theorem ca148 : ckA 148 0 := (ckA_step (n := 60) ck148_0 (ckA_step (n := 60) ck148_60 (ckA_step (n := 60) ck148_120 (ckA_end (by decide +kernel)))))
set_option maxRecDepth 1000000 in
theorem ca149 : ckA 149 0 := (ckA_step (n := 60) ck149_0 (ckA_end (by decide +kernel)))
set_option maxRecDepth 1000000 in
theorem ca150 : ckA 150 0 := (ckA_step (n := 60) ck150_0 (ckA_end (by decide +kernel)))
set_option maxRecDepth 1000000 in
theorem ca151 : ckA 151 0 := (ckA_step (n := 60) ck151_0 (ckA_end (by decide +kernel)))
set_option maxRecDepth 1000000 in
theorem ca152 : ckA 152 0 := (ckA_step (n := 60) ck152_0 (ckA_end (by decide +kernel)))
set_option maxRecDepth 1000000 in
theorem ca153 : ckA 153 0 := (ckA_step (n := 60) ck153_0 (ckA_end (by decide +kernel)))
set_option maxRecDepth 1000000 in
theorem ca154 : ckA 154 0 := (ckA_step (n := 60) ck154_0 (ckA_end (by decide +kernel)))
set_option maxRecDepth 1000000 in
theorem ca155 : ckA 155 0 := (ckA_step (n := 60) ck155_0 (ckA_end (by decide +kernel)))
set_option maxRecDepth 1000000 in
theorem ca156 : ckA 156 0 := (ckA_step (n := 60) ck156_0 (ckA_end (by decide +kernel)))
set_option maxRecDepth 1000000 in
theorem ca157 : ckA 157 0 := (ckA_step (n := 60) ck157_0 (ckA_end (by decide +kernel)))
set_option maxRecDepth 1000000 in
theorem ca158 : ckA 158 0 := (ckA_step (n := 60) ck158_0 (ckA_end (by decide +kernel)))
set_option maxRecDepth 1000000 in
theorem ca159 : ckA 159 0 := (ckA_step (n := 60) ck159_0 (ckA_end (by decide +kernel)))
set_option maxRecDepth 1000000 in
theorem ca160 : ckA 160 0 := (ckA_step (n := 60) ck160_0 (ckA_end (by decide +kernel)))
set_option maxRecDepth 1000000 in
theorem ca161 : ckA 161 0 := (ckA_step (n := 60) ck161_0 (ckA_end (by decide +kernel)))
set_option maxRecDepth 1000000 in
theorem ca162 : ckA 162 0 := (ckA_step (n := 60) ck162_0 (ckA_end (by decide +kernel)))
set_option maxRecDepth 1000000 in
theorem ca163 : ckA 163 0 := (ckA_step (n := 60) ck163_0 (ckA_step (n := 60) ck163_60 (ckA_end (by decide +kernel))))
set_option maxRecDepth 1000000 in
theorem ca164 : ckA 164 0 := (ckA_step (n := 60) ck164_0 (ckA_step (n := 60) ck164_60 (ckA_end (by decide +kernel))))
set_option maxRecDepth 1000000 in
theorem ca165 : ckA 165 0 := (ckA_step (n := 60) ck165_0 (ckA_end (by decide +kernel)))
set_option maxRecDepth 1000000 in
theorem ca166 : ckA 166 0 := (ckA_step (n := 60) ck166_0 (ckA_end (by decide +kernel)))
set_option maxRecDepth 1000000 in
theorem ca167 : ckA 167 0 := (ckA_step (n := 60) ck167_0 (ckA_end (by decide +kernel)))
set_option maxRecDepth 1000000 in
theorem ca168 : ckA 168 0 := (ckA_step (n := 60) ck168_0 (ckA_end (by decide +kernel)))
set_option maxRecDepth 1000000 in
theorem ca169 : ckA 169 0 := (ckA_step (n := 60) ck169_0 (ckA_end (by decide +kernel)))
set_option maxRecDepth 1000000 in
theorem ca170 : ckA 170 0 := (ckA_step (n := 60) ck170_0 (ckA_end (by decide +kernel)))
set_option maxRecDepth 1000000 in
theorem ca171 : ckA 171 0 := (ckA_step (n := 60) ck171_0 (ckA_end (by decide +kernel)))
set_option maxRecDepth 1000000 in
theorem ca172 : ckA 172 0 := (ckA_step (n := 60) ck172_0 (ckA_end (by decide +kernel)))
set_option maxRecDepth 1000000 in
theorem ca173 : ckA 173 0 := (ckA_step (n := 60) ck173_0 (ckA_end (by decide +kernel)))
set_option maxRecDepth 1000000 in
theorem ca174 : ckA 174 0 := (ckA_step (n := 60) ck174_0 (ckA_end (by decide +kernel)))
set_option maxRecDepth 1000000 in
theorem ca175 : ckA 175 0 := (ckA_step (n := 60) ck175_0 (ckA_end (by decide +kernel)))
set_option maxRecDepth 1000000 in
theorem ca176 : ckA 176 0 := (ckA_step (n := 60) ck176_0 (ckA_end (by decide +kernel)))
set_option maxRecDepth 1000000 in
theorem ca177 : ckA 177 0 := (ckA_step (n := 60) ck177_0 (ckA_end (by decide +kernel)))
set_option maxRecDepth 1000000 in
theorem ca178 : ckA 178 0 := (ckA_step (n := 60) ck178_0 (ckA_step (n := 60) ck178_60 (ckA_end (by decide +kernel))))
set_option maxRecDepth 1000000 in
theorem ca179 : ckA 179 0 := (ckA_step (n := 60) ck179_0 (ckA_end (by decide +kernel)))
set_option maxRecDepth 1000000 in
theorem ca180 : ckA 180 0 := (ckA_step (n := 60) ck180_0 (ckA_end (by decide +kernel)))
set_option maxRecDepth 1000000 in
theorem ca181 : ckA 181 0 := (ckA_step (n := 60) ck181_0 (ckA_end (by decide +kernel)))
set_option maxRecDepth 1000000 in
theorem ca182 : ckA 182 0 := (ckA_step (n := 60) ck182_0 (ckA_end (by decide +kernel)))
set_option maxRecDepth 1000000 in
theorem ca183 : ckA 183 0 := (ckA_step (n := 60) ck183_0 (ckA_end (by decide +kernel)))
set_option maxRecDepth 1000000 in
theorem ca184 : ckA 184 0 := (ckA_step (n := 60) ck184_0 (ckA_end (by decide +kernel)))
set_option maxRecDepth 1000000 in
theorem ca185 : ckA 185 0 := (ckA_step (n := 60) ck185_0 (ckA_step (n := 60) ck185_60 (ckA_end (by decide +kernel))))
set_option maxRecDepth 1000000 in
theorem ca186 : ckA 186 0 := (ckA_step (n := 60) ck186_0 (ckA_end (by decide +kernel)))
set_option maxRecDepth 1000000 in
theorem ca187 : ckA 187 0 := (ckA_step (n := 60) ck187_0 (ckA_step (n := 60) ck187_60 (ckA_end (by decide +kernel))))
set_option maxRecDepth 1000000 in
theorem ca188 : ckA 188 0 := (ckA_step (n := 60) ck188_0 (ckA_end (by decide +kernel)))
set_option maxRecDepth 1000000 in
theorem ca189 : ckA 189 0 := (ckA_step (n := 60) ck189_0 (ckA_end (by decide +kernel)))
set_option maxRecDepth 1000000 in
theorem ca190 : ckA 190 0 := (ckA_step (n := 60) ck190_0 (ckA_end (by decide +kernel)))
set_option maxRecDepth 1000000 in
theorem ca191 : ckA 191 0 := (ckA_step (n := 60) ck191_0 (ckA_end (by decide +kernel)))
set_option maxRecDepth 1000000 in
theorem ca192 : ckA 192 0 := (ckA_step (n := 60) ck192_0 (ckA_end (by decide +kernel)))
set_option maxRecDepth 1000000 in
theorem ca193 : ckA 193 0 := (ckA_step (n := 60) ck193_0 (ckA_end (by decide +kernel)))
set_option maxRecDepth 1000000 in
theorem ca194 : ckA 194 0 := (ckA_step (n := 60) ck194_0 (ckA_step (n := 60) ck194_60 (ckA_step (n := 60) ck194_120 (ckA_end (by decide +kernel)))))
set_option maxRecDepth 1000000 in
theorem ca195 : ckA 195 0 := (ckA_step (n := 60) ck195_0 (ckA_step (n := 60) ck195_60 (ckA_step (n := 60) ck195_120 (ckA_end (by decide +kernel)))))
set_option maxRecDepth 1000000 in
theorem ca196 : ckA 196 0 := (ckA_step (n := 60) ck196_0 (ckA_step (n := 60) ck196_60 (ckA_end (by decide +kernel))))
set_option maxRecDepth 1000000 in
theorem ca197 : ckA 197 0 := (ckA_step (n := 60) ck197_0 (ckA_step (n := 60) ck197_60 (ckA_end (by decide +kernel))))
set_option maxRecDepth 1000000 in
theorem ca198 : ckA 198 0 := (ckA_step (n := 60) ck198_0 (ckA_step (n := 60) ck198_60 (ckA_end (by decide +kernel))))
set_option maxRecDepth 1000000 in
theorem ca199 : ckA 199 0 := (ckA_step (n := 60) ck199_0 (ckA_step (n := 60) ck199_60 (ckA_end (by decide +kernel))))
set_option maxRecDepth 1000000 in
theorem ca200 : ckA 200 0 := (ckA_step (n := 60) ck200_0 (ckA_step (n := 60) ck200_60 (ckA_end (by decide +kernel))))
set_option maxRecDepth 1000000 in
theorem ca201 : ckA 201 0 := (ckA_step (n := 60) ck201_0 (ckA_step (n := 60) ck201_60 (ckA_end (by decide +kernel))))
set_option maxRecDepth 1000000 in
theorem ca202 : ckA 202 0 := (ckA_step (n := 60) ck202_0 (ckA_end (by decide +kernel)))
set_option maxRecDepth 1000000 in
theorem ca203 : ckA 203 0 := (ckA_step (n := 60) ck203_0 (ckA_end (by decide +kernel)))
set_option maxRecDepth 1000000 in
theorem ca204 : ckA 204 0 := (ckA_step (n := 60) ck204_0 (ckA_end (by decide +kernel)))
set_option maxRecDepth 1000000 in
theorem ca205 : ckA 205 0 := (ckA_step (n := 60) ck205_0 (ckA_end (by decide +kernel)))
set_option maxRecDepth 1000000 in
theorem ca206 : ckA 206 0 := (ckA_step (n := 60) ck206_0 (ckA_end (by decide +kernel)))
set_option maxRecDepth 1000000 in
theorem ca207 : ckA 207 0 := (ckA_step (n := 60) ck207_0 (ckA_end (by decide +kernel)))
set_option maxRecDepth 1000000 in
theorem ca208 : ckA 208 0 := (ckA_step (n := 60) ck208_0 (ckA_step (n := 60) ck208_60 (ckA_end (by decide +kernel))))
set_option maxRecDepth 1000000 in
theorem ca209 : ckA 209 0 := (ckA_step (n := 60) ck209_0 (ckA_end (by decide +kernel)))
set_option maxRecDepth 1000000 in
theorem ca210 : ckA 210 0 := (ckA_step (n := 60) ck210_0 (ckA_end (by decide +kernel)))
set_option maxRecDepth 1000000 in
theorem ca211 : ckA 211 0 := (ckA_step (n := 60) ck211_0 (ckA_end (by decide +kernel)))
set_option maxRecDepth 1000000 in
theorem ca212 : ckA 212 0 := (ckA_step (n := 60) ck212_0 (ckA_step (n := 60) ck212_60 (ckA_end (by decide +kernel))))
set_option maxRecDepth 1000000 in
theorem ca213 : ckA 213 0 := (ckA_step (n := 60) ck213_0 (ckA_end (by decide +kernel)))
set_option maxRecDepth 1000000 in
theorem ca214 : ckA 214 0 := (ckA_step (n := 60) ck214_0 (ckA_end (by decide +kernel)))
set_option maxRecDepth 1000000 in
theorem ca215 : ckA 215 0 := (ckA_step (n := 60) ck215_0 (ckA_end (by decide +kernel)))
set_option maxRecDepth 1000000 in
theorem ca216 : ckA 216 0 := (ckA_step (n := 60) ck216_0 (ckA_end (by decide +kernel)))
set_option maxRecDepth 1000000 in
theorem ca217 : ckA 217 0 := (ckA_step (n := 60) ck217_0 (ckA_end (by decide +kernel)))
set_option maxRecDepth 1000000 in
theorem ca218 : ckA 218 0 := (ckA_step (n := 60) ck218_0 (ckA_end (by decide +kernel)))
set_option maxRecDepth 1000000 in
theorem ca219 : ckA 219 0 := (ckA_step (n := 60) ck219_0 (ckA_step (n := 60) ck219_60 (ckA_end (by decide +kernel))))
set_option maxRecDepth 1000000 in
theorem ca220 : ckA 220 0 := (ckA_step (n := 60) ck220_0 (ckA_end (by decide +kernel)))
set_option maxRecDepth 1000000 in
theorem ca221 : ckA 221 0 := (ckA_step (n := 60) ck221_0 (ckA_step (n := 60) ck221_60 (ckA_step (n := 60) ck221_120 (ckA_end (by decide +kernel)))))
set_option maxRecDepth 1000000 in
theorem ca222 : ckA 222 0 := (ckA_step (n := 60) ck222_0 (ckA_end (by decide +kernel)))
set_option maxRecDepth 1000000 in
theorem ca223 : ckA 223 0 := (ckA_step (n := 60) ck223_0 (ckA_end (by decide +kernel)))
set_option maxRecDepth 1000000 in
theorem ca224 : ckA 224 0 := (ckA_step (n := 60) ck224_0 (ckA_step (n := 60) ck224_60 (ckA_end (by decide +kernel))))
set_option maxRecDepth 1000000 in
theorem ca225 : ckA 225 0 := (ckA_step (n := 60) ck225_0 (ckA_end (by decide +kernel)))
set_option maxRecDepth 1000000 in
theorem ca226 : ckA 226 0 := (ckA_step (n := 60) ck226_0 (ckA_end (by decide +kernel)))
set_option maxRecDepth 1000000 in
theorem ca227 : ckA 227 0 := (ckA_step (n := 60) ck227_0 (ckA_end (by decide +kernel)))
set_option maxRecDepth 1000000 in
theorem ca228 : ckA 228 0 := (ckA_step (n := 60) ck228_0 (ckA_end (by decide +kernel)))
set_option maxRecDepth 1000000 in
theorem ca229 : ckA 229 0 := (ckA_step (n := 60) ck229_0 (ckA_end (by decide +kernel)))
set_option maxRecDepth 1000000 in
theorem ca230 : ckA 230 0 := (ckA_step (n := 60) ck230_0 (ckA_end (by decide +kernel)))
set_option maxRecDepth 1000000 in
theorem ca231 : ckA 231 0 := (ckA_step (n := 60) ck231_0 (ckA_end (by decide +kernel)))
set_option maxRecDepth 1000000 in
theorem ca232 : ckA 232 0 := (ckA_step (n := 60) ck232_0 (ckA_step (n := 60) ck232_60 (ckA_end (by decide +kernel))))
set_option maxRecDepth 1000000 in
theorem ca233 : ckA 233 0 := (ckA_step (n := 60) ck233_0 (ckA_end (by decide +kernel)))
set_option maxRecDepth 1000000 in
theorem ca234 : ckA 234 0 := (ckA_step (n := 60) ck234_0 (ckA_end (by decide +kernel)))
set_option maxRecDepth 1000000 in
theorem ca235 : ckA 235 0 := (ckA_step (n := 60) ck235_0 (ckA_end (by decide +kernel)))
set_option maxRecDepth 1000000 in
theorem ca236 : ckA 236 0 := (ckA_step (n := 60) ck236_0 (ckA_end (by decide +kernel)))
set_option maxRecDepth 1000000 in
theorem ca237 : ckA 237 0 := (ckA_step (n := 60) ck237_0 (ckA_end (by decide +kernel)))
set_option maxRecDepth 1000000 in
theorem ca238 : ckA 238 0 := (ckA_step (n := 60) ck238_0 (ckA_end (by decide +kernel)))
set_option maxRecDepth 1000000 in
theorem ca239 : ckA 239 0 := (ckA_step (n := 60) ck239_0 (ckA_end (by decide +kernel)))
set_option maxRecDepth 1000000 in
theorem ca240 : ckA 240 0 := (ckA_step (n := 60) ck240_0 (ckA_end (by decide +kernel)))
set_option maxRecDepth 1000000 in
theorem ca241 : ckA 241 0 := (ckA_step (n := 60) ck241_0 (ckA_end (by decide +kernel)))
set_option maxRecDepth 1000000 in
theorem ca242 : ckA 242 0 := (ckA_step (n := 60) ck242_0 (ckA_end (by decide +kernel)))
set_option maxRecDepth 1000000 in
theorem ca243 : ckA 243 0 := (ckA_step (n := 60) ck243_0 (ckA_end (by decide +kernel)))
set_option maxRecDepth 1000000 in
theorem ca244 : ckA 244 0 := (ckA_step (n := 60) ck244_0 (ckA_end (by decide +kernel)))
set_option maxRecDepth 1000000 in
theorem ca245 : ckA 245 0 := (ckA_step (n := 60) ck245_0 (ckA_end (by decide +kernel)))
set_option maxRecDepth 1000000 in
theorem ca246 : ckA 246 0 := (ckA_step (n := 60) ck246_0 (ckA_end (by decide +kernel)))
set_option maxRecDepth 1000000 in
theorem ca247 : ckA 247 0 := (ckA_step (n := 60) ck247_0 (ckA_end (by decide +kernel)))
set_option maxRecDepth 1000000 in
theorem ca248 : ckA 248 0 := (ckA_step (n := 60) ck248_0 (ckA_end (by decide +kernel)))
set_option maxRecDepth 1000000 in
theorem ca249 : ckA 249 0 := (ckA_step (n := 60) ck249_0 (ckA_end (by decide +kernel)))
set_option maxRecDepth 1000000 in
theorem ca250 : ckA 250 0 := (ckA_step (n := 60) ck250_0 (ckA_end (by decide +kernel)))
set_option maxRecDepth 1000000 in
theorem ca251 : ckA 251 0 := (ckA_step (n := 60) ck251_0 (ckA_end (by decide +kernel)))
set_option maxRecDepth 1000000 in
theorem ca252 : ckA 252 0 := (ckA_step (n := 60) ck252_0 (ckA_end (by decide +kernel)))
set_option maxRecDepth 1000000 in
theorem ca253 : ckA 253 0 := (ckA_step (n := 60) ck253_0 (ckA_step (n := 60) ck253_60 (ckA_step (n := 60) ck253_120 (ckA_end (by decide +kernel)))))
set_option maxRecDepth 1000000 in
theorem ca254 : ckA 254 0 := (ckA_step (n := 60) ck254_0 (ckA_end (by decide +kernel)))
set_option maxRecDepth 1000000 in
theorem ca255 : ckA 255 0 := (ckA_step (n := 60) ck255_0 (ckA_end (by decide +kernel)))
set_option maxRecDepth 1000000 in
theorem ca256 : ckA 256 0 := (ckA_step (n := 60) ck256_0 (ckA_step (n := 60) ck256_60 (ckA_end (by decide +kernel))))
set_option maxRecDepth 1000000 in
theorem ca257 : ckA 257 0 := (ckA_step (n := 60) ck257_0 (ckA_end (by decide +kernel)))
set_option maxRecDepth 1000000 in
theorem ca258 : ckA 258 0 := (ckA_step (n := 60) ck258_0 (ckA_end (by decide +kernel)))
set_option maxRecDepth 1000000 in
theorem ca259 : ckA 259 0 := (ckA_step (n := 60) ck259_0 (ckA_end (by decide +kernel)))
set_option maxRecDepth 1000000 in
theorem ca260 : ckA 260 0 := (ckA_step (n := 60) ck260_0 (ckA_end (by decide +kernel)))
set_option maxRecDepth 1000000 in
theorem ca261 : ckA 261 0 := (ckA_step (n := 60) ck261_0 (ckA_end (by decide +kernel)))
set_option maxRecDepth 1000000 in
theorem ca262 : ckA 262 0 := (ckA_step (n := 60) ck262_0 (ckA_end (by decide +kernel)))
set_option maxRecDepth 1000000 in
theorem ca263 : ckA 263 0 := (ckA_step (n := 60) ck263_0 (ckA_end (by decide +kernel)))
set_option maxRecDepth 1000000 in
theorem ca264 : ckA 264 0 := (ckA_step (n := 60) ck264_0 (ckA_end (by decide +kernel)))
set_option maxRecDepth 1000000 in
theorem ca265 : ckA 265 0 := (ckA_step (n := 60) ck265_0 (ckA_end (by decide +kernel)))
set_option maxRecDepth 1000000 in
theorem ca266 : ckA 266 0 := (ckA_step (n := 60) ck266_0 (ckA_end (by decide +kernel)))
set_option maxRecDepth 1000000 in
theorem ca267 : ckA 267 0 := (ckA_step (n := 60) ck267_0 (ckA_end (by decide +kernel)))
set_option maxRecDepth 1000000 in
theorem ca268 : ckA 268 0 := (ckA_step (n := 60) ck268_0 (ckA_end (by decide +kernel)))
set_option maxRecDepth 1000000 in
theorem ca269 : ckA 269 0 := (ckA_step (n := 60) ck269_0 (ckA_end (by decide +kernel)))
set_option maxRecDepth 1000000 in
theorem ca270 : ckA 270 0 := (ckA_step (n := 60) ck270_0 (ckA_end (by decide +kernel)))
set_option maxRecDepth 1000000 in
theorem ca271 : ckA 271 0 := (ckA_step (n := 60) ck271_0 (ckA_end (by decide +kernel)))
set_option maxRecDepth 1000000 in
theorem ca272 : ckA 272 0 := (ckA_step (n := 60) ck272_0 (ckA_end (by decide +kernel)))
set_option maxRecDepth 1000000 in
theorem ca273 : ckA 273 0 := (ckA_step (n := 60) ck273_0 (ckA_end (by decide +kernel)))
set_option maxRecDepth 1000000 in
theorem ca274 : ckA 274 0 := (ckA_step (n := 60) ck274_0 (ckA_end (by decide +kernel)))
set_option maxRecDepth 1000000 in
theorem ca275 : ckA 275 0 := (ckA_step (n := 60) ck275_0 (ckA_end (by decide +kernel)))
set_option maxRecDepth 1000000 in
theorem ca276 : ckA 276 0 := (ckA_step (n := 60) ck276_0 (ckA_end (by decide +kernel)))
set_option maxRecDepth 1000000 in
theorem ca277 : ckA 277 0 := (ckA_step (n := 60) ck277_0 (ckA_end (by decide +kernel)))
set_option maxRecDepth 1000000 in
theorem ca278 : ckA 278 0 := (ckA_step (n := 60) ck278_0 (ckA_end (by decide +kernel)))
set_option maxRecDepth 1000000 in
theorem ca279 : ckA 279 0 := (ckA_step (n := 60) ck279_0 (ckA_end (by decide +kernel)))
set_option maxRecDepth 1000000 in
theorem ca280 : ckA 280 0 := (ckA_step (n := 60) ck280_0 (ckA_step (n := 60) ck280_60 (ckA_end (by decide +kernel))))
set_option maxRecDepth 1000000 in
theorem ca281 : ckA 281 0 := (ckA_step (n := 60) ck281_0 (ckA_step (n := 60) ck281_60 (ckA_end (by decide +kernel))))
set_option maxRecDepth 1000000 in
theorem ca282 : ckA 282 0 := (ckA_step (n := 60) ck282_0 (ckA_end (by decide +kernel)))
set_option maxRecDepth 1000000 in
theorem ca283 : ckA 283 0 := (ckA_step (n := 60) ck283_0 (ckA_end (by decide +kernel)))
set_option maxRecDepth 1000000 in
theorem ca284 : ckA 284 0 := (ckA_step (n := 60) ck284_0 (ckA_end (by decide +kernel)))
set_option maxRecDepth 1000000 in
theorem ca285 : ckA 285 0 := (ckA_step (n := 60) ck285_0 (ckA_step (n := 60) ck285_60 (ckA_end (by decide +kernel))))
set_option maxRecDepth 1000000 in
theorem ca286 : ckA 286 0 := (ckA_step (n := 60) ck286_0 (ckA_step (n := 60) ck286_60 (ckA_end (by decide +kernel))))
set_option maxRecDepth 1000000 in
theorem ca287 : ckA 287 0 := (ckA_step (n := 60) ck287_0 (ckA_end (by decide +kernel)))
set_option maxRecDepth 1000000 in
theorem ca288 : ckA 288 0 := (ckA_step (n := 60) ck288_0 (ckA_end (by decide +kernel)))
set_option maxRecDepth 1000000 in
theorem ca289 : ckA 289 0 := (ckA_step (n := 60) ck289_0 (ckA_end (by decide +kernel)))
set_option maxRecDepth 1000000 in
theorem ca290 : ckA 290 0 := (ckA_step (n := 60) ck290_0 (ckA_end (by decide +kernel)))
set_option maxRecDepth 1000000 in
theorem ca291 : ckA 291 0 := (ckA_step (n := 60) ck291_0 (ckA_end (by decide +kernel)))
set_option maxRecDepth 1000000 in
theorem ca292 : ckA 292 0 := (ckA_step (n := 60) ck292_0 (ckA_end (by decide +kernel)))
set_option maxRecDepth 1000000 in
theorem ca293 : ckA 293 0 := (ckA_step (n := 60) ck293_0 (ckA_end (by decide +kernel)))
set_option maxRecDepth 1000000 in
theorem ca294 : ckA 294 0 := (ckA_step (n := 60) ck294_0 (ckA_end (by decide +kernel)))
set_option maxRecDepth 1000000 in
theorem ca295 : ckA 295 0 := (ckA_step (n := 60) ck295_0 (ckA_end (by decide +kernel)))
set_option maxRecDepth 1000000 in
theorem ca296 : ckA 296 0 := (ckA_step (n := 60) ck296_0 (ckA_end (by decide +kernel)))
set_option maxRecDepth 1000000 in
theorem ca297 : ckA 297 0 := (ckA_step (n := 60) ck297_0 (ckA_end (by decide +kernel)))
set_option maxRecDepth 1000000 in
theorem ca298 : ckA 298 0 := (ckA_step (n := 60) ck298_0 (ckA_end (by decide +kernel)))
set_option maxRecDepth 1000000 in
theorem ca299 : ckA 299 0 := (ckA_step (n := 60) ck299_0 (ckA_end (by decide +kernel)))
set_option maxRecDepth 1000000 in
theorem ca300 : ckA 300 0 := (ckA_step (n := 60) ck300_0 (ckA_end (by decide +kernel)))
set_option maxRecDepth 1000000 in
theorem ca301 : ckA 301 0 := (ckA_step (n := 60) ck301_0 (ckA_end (by decide +kernel)))
set_option maxRecDepth 1000000 in
theorem ca302 : ckA 302 0 := (ckA_step (n := 60) ck302_0 (ckA_end (by decide +kernel)))
set_option maxRecDepth 1000000 in
theorem ca303 : ckA 303 0 := (ckA_step (n := 60) ck303_0 (ckA_end (by decide +kernel)))
set_option maxRecDepth 1000000 in
theorem ca304 : ckA 304 0 := (ckA_step (n := 60) ck304_0 (ckA_end (by decide +kernel)))
theorem cg0 : ∀ y, 0 ≤ y → y < 20 → ckA y 0 := by
  intro y h1 h2
  by_cases e0 : y = 0
  · subst e0; exact ca0
  by_cases e1 : y = 1
  · subst e1; exact ca1
  by_cases e2 : y = 2
  · subst e2; exact ca2
  by_cases e3 : y = 3
  · subst e3; exact ca3
  by_cases e4 : y = 4
  · subst e4; exact ca4
  by_cases e5 : y = 5
  · subst e5; exact ca5
  by_cases e6 : y = 6
  · subst e6; exact ca6
  by_cases e7 : y = 7
  · subst e7; exact ca7
  by_cases e8 : y = 8
  · subst e8; exact ca8
  by_cases e9 : y = 9
  · subst e9; exact ca9
  by_cases e10 : y = 10
  · subst e10; exact ca10
  by_cases e11 : y = 11
  · subst e11; exact ca11
  by_cases e12 : y = 12
  · subst e12; exact ca12
  by_cases e13 : y = 13
  · subst e13; exact ca13
  by_cases e14 : y = 14
  · subst e14; exact ca14
  by_cases e15 : y = 15
  · subst e15; exact ca15
  by_cases e16 : y = 16
  · subst e16; exact ca16
  by_cases e17 : y = 17
  · subst e17; exact ca17
  by_cases e18 : y = 18
  · subst e18; exact ca18
  by_cases e19 : y = 19
  · subst e19; exact ca19
  omega
theorem cg1 : ∀ y, 20 ≤ y → y < 40 → ckA y 0 := by
  intro y h1 h2
  by_cases e20 : y = 20
  · subst e20; exact ca20
  by_cases e21 : y = 21
  · subst e21; exact ca21
  by_cases e22 : y = 22
  · subst e22; exact ca22
  by_cases e23 : y = 23
  · subst e23; exact ca23
  by_cases e24 : y = 24
  · subst e24; exact ca24
  by_cases e25 : y = 25
  · subst e25; exact ca25
  by_cases e26 : y = 26
  · subst e26; exact ca26
  by_cases e27 : y = 27
  · subst e27; exact ca27
  by_cases e28 : y = 28
  · subst e28; exact ca28
  by_cases e29 : y = 29
  · subst e29; exact ca29
  by_cases e30 : y = 30
  · subst e30; exact ca30
  by_cases e31 : y = 31
  · subst e31; exact ca31
  by_cases e32 : y = 32
  · subst e32; exact ca32
  by_cases e33 : y = 33
  · subst e33; exact ca33
  by_cases e34 : y = 34
  · subst e34; exact ca34
  by_cases e35 : y = 35
  · subst e35; exact ca35
  by_cases e36 : y = 36
  · subst e36; exact ca36
  by_cases e37 : y = 37
  · subst e37; exact ca37
  by_cases e38 : y = 38
  · subst e38; exact ca38
  by_cases e39 : y = 39
  · subst e39; exact ca39
  omega
theorem cg2 : ∀ y, 40 ≤ y → y < 60 → ckA y 0 := by
  intro y h1 h2
  by_cases e40 : y = 40
  · subst e40; exact ca40
  by_cases e41 : y = 41
  · subst e41; exact ca41
  by_cases e42 : y = 42
  · subst e42; exact ca42
  by_cases e43 : y = 43
  · subst e43; exact ca43
  by_cases e44 : y = 44
  · subst e44; exact ca44
  by_cases e45 : y = 45
  · subst e45; exact ca45
  by_cases e46 : y = 46
  · subst e46; exact ca46
  by_cases e47 : y = 47
  · subst e47; exact ca47
  by_cases e48 : y = 48
  · subst e48; exact ca48
  by_cases e49 : y = 49
  · subst e49; exact ca49
  by_cases e50 : y = 50
  · subst e50; exact ca50
  by_cases e51 : y = 51
  · subst e51; exact ca51
  by_cases e52 : y = 52
  · subst e52; exact ca52
  by_cases e53 : y = 53
  · subst e53; exact ca53
  by_cases e54 : y = 54
  · subst e54; exact ca54
  by_cases e55 : y = 55
  · subst e55; exact ca55
  by_cases e56 : y = 56
  · subst e56; exact ca56
  by_cases e57 : y = 57
  · subst e57; exact ca57
  by_cases e58 : y = 58
  · subst e58; exact ca58
  by_cases e59 : y = 59
  · subst e59; exact ca59
  omega
theorem cg3 : ∀ y, 60 ≤ y → y < 80 → ckA y 0 := by
  intro y h1 h2
  by_cases e60 : y = 60
  · subst e60; exact ca60
  by_cases e61 : y = 61
  · subst e61; exact ca61
  by_cases e62 : y = 62
  · subst e62; exact ca62
  by_cases e63 : y = 63
  · subst e63; exact ca63
  by_cases e64 : y = 64
  · subst e64; exact ca64
  by_cases e65 : y = 65
  · subst e65; exact ca65
  by_cases e66 : y = 66
  · subst e66; exact ca66
  by_cases e67 : y = 67
  · subst e67; exact ca67
  by_cases e68 : y = 68
  · subst e68; exact ca68
  by_cases e69 : y = 69
  · subst e69; exact ca69
  by_cases e70 : y = 70
  · subst e70; exact ca70
  by_cases e71 : y = 71
  · subst e71; exact ca71
  by_cases e72 : y = 72
  · subst e72; exact ca72
  by_cases e73 : y = 73
  · subst e73; exact ca73
  by_cases e74 : y = 74
  · subst e74; exact ca74
  by_cases e75 : y = 75
  · subst e75; exact ca75
  by_cases e76 : y = 76
  · subst e76; exact ca76
  by_cases e77 : y = 77
  · subst e77; exact ca77
  by_cases e78 : y = 78
  · subst e78; exact ca78
  by_cases e79 : y = 79
  · subst e79; exact ca79
  omega
theorem cg4 : ∀ y, 80 ≤ y → y < 100 → ckA y 0 := by
  intro y h1 h2
  by_cases e80 : y = 80
  · subst e80; exact ca80
  by_cases e81 : y = 81
  · subst e81; exact ca81
  by_cases e82 : y = 82
  · subst e82; exact ca82
  by_cases e83 : y = 83
  · subst e83; exact ca83
  by_cases e84 : y = 84
  · subst e84; exact ca84
  by_cases e85 : y = 85
  · subst e85; exact ca85
  by_cases e86 : y = 86
  · subst e86; exact ca86
  by_cases e87 : y = 87
  · subst e87; exact ca87
  by_cases e88 : y = 88
  · subst e88; exact ca88
  by_cases e89 : y = 89
  · subst e89; exact ca89
  by_cases e90 : y = 90
  · subst e90; exact ca90
  by_cases e91 : y = 91
  · subst e91; exact ca91
  by_cases e92 : y = 92
  · subst e92; exact ca92
  by_cases e93 : y = 93
  · subst e93; exact ca93
  by_cases e94 : y = 94
  · subst e94; exact ca94
  by_cases e95 : y = 95
  · subst e95; exact ca95
  by_cases e96 : y = 96
  · subst e96; exact ca96
  by_cases e97 : y = 97
  · subst e97; exact ca97
  by_cases e98 : y = 98
  · subst e98; exact ca98
  by_cases e99 : y = 99
  · subst e99; exact ca99
  omega
theorem cg5 : ∀ y, 100 ≤ y → y < 120 → ckA y 0 := by
  intro y h1 h2
  by_cases e100 : y = 100
  · subst e100; exact ca100
  by_cases e101 : y = 101
  · subst e101; exact ca101
  by_cases e102 : y = 102
  · subst e102; exact ca102
  by_cases e103 : y = 103
  · subst e103; exact ca103
  by_cases e104 : y = 104
  · subst e104; exact ca104
  by_cases e105 : y = 105
  · subst e105; exact ca105
  by_cases e106 : y = 106
  · subst e106; exact ca106
  by_cases e107 : y = 107
  · subst e107; exact ca107
  by_cases e108 : y = 108
  · subst e108; exact ca108
  by_cases e109 : y = 109
  · subst e109; exact ca109
  by_cases e110 : y = 110
  · subst e110; exact ca110
  by_cases e111 : y = 111
  · subst e111; exact ca111
  by_cases e112 : y = 112
  · subst e112; exact ca112
  by_cases e113 : y = 113
  · subst e113; exact ca113
  by_cases e114 : y = 114
  · subst e114; exact ca114
  by_cases e115 : y = 115
  · subst e115; exact ca115
  by_cases e116 : y = 116
  · subst e116; exact ca116
  by_cases e117 : y = 117
  · subst e117; exact ca117
  by_cases e118 : y = 118
  · subst e118; exact ca118
  by_cases e119 : y = 119
  · subst e119; exact ca119
  omega
theorem cg6 : ∀ y, 120 ≤ y → y < 140 → ckA y 0 := by
  intro y h1 h2
  by_cases e120 : y = 120
  · subst e120; exact ca120
  by_cases e121 : y = 121
  · subst e121; exact ca121
  by_cases e122 : y = 122
  · subst e122; exact ca122
  by_cases e123 : y = 123
  · subst e123; exact ca123
  by_cases e124 : y = 124
  · subst e124; exact ca124
  by_cases e125 : y = 125
  · subst e125; exact ca125
  by_cases e126 : y = 126
  · subst e126; exact ca126
  by_cases e127 : y = 127
  · subst e127; exact ca127
  by_cases e128 : y = 128
  · subst e128; exact ca128
  by_cases e129 : y = 129
  · subst e129; exact ca129
  by_cases e130 : y = 130
  · subst e130; exact ca130
  by_cases e131 : y = 131
  · subst e131; exact ca131
  by_cases e132 : y = 132
  · subst e132; exact ca132
  by_cases e133 : y = 133
  · subst e133; exact ca133
  by_cases e134 : y = 134
  · subst e134; exact ca134
  by_cases e135 : y = 135
  · subst e135; exact ca135
  by_cases e136 : y = 136
  · subst e136; exact ca136
  by_cases e137 : y = 137
  · subst e137; exact ca137
  by_cases e138 : y = 138
  · subst e138; exact ca138
  by_cases e139 : y = 139
  · subst e139; exact ca139
  omega
theorem cg7 : ∀ y, 140 ≤ y → y < 160 → ckA y 0 := by
  intro y h1 h2
  by_cases e140 : y = 140
  · subst e140; exact ca140
  by_cases e141 : y = 141
  · subst e141; exact ca141
  by_cases e142 : y = 142
  · subst e142; exact ca142
  by_cases e143 : y = 143
  · subst e143; exact ca143
  by_cases e144 : y = 144
  · subst e144; exact ca144
  by_cases e145 : y = 145
  · subst e145; exact ca145
  by_cases e146 : y = 146
  · subst e146; exact ca146
  by_cases e147 : y = 147
  · subst e147; exact ca147
  by_cases e148 : y = 148
  · subst e148; exact ca148
  by_cases e149 : y = 149
  · subst e149; exact ca149
  by_cases e150 : y = 150
  · subst e150; exact ca150
  by_cases e151 : y = 151
  · subst e151; exact ca151
  by_cases e152 : y = 152
  · subst e152; exact ca152
  by_cases e153 : y = 153
  · subst e153; exact ca153
  by_cases e154 : y = 154
  · subst e154; exact ca154
  by_cases e155 : y = 155
  · subst e155; exact ca155
  by_cases e156 : y = 156
  · subst e156; exact ca156
  by_cases e157 : y = 157
  · subst e157; exact ca157
  by_cases e158 : y = 158
  · subst e158; exact ca158
  by_cases e159 : y = 159
  · subst e159; exact ca159
  omega
theorem cg8 : ∀ y, 160 ≤ y → y < 180 → ckA y 0 := by
  intro y h1 h2
  by_cases e160 : y = 160
  · subst e160; exact ca160
  by_cases e161 : y = 161
  · subst e161; exact ca161
  by_cases e162 : y = 162
  · subst e162; exact ca162
  by_cases e163 : y = 163
  · subst e163; exact ca163
  by_cases e164 : y = 164
  · subst e164; exact ca164
  by_cases e165 : y = 165
  · subst e165; exact ca165
  by_cases e166 : y = 166
  · subst e166; exact ca166
  by_cases e167 : y = 167
  · subst e167; exact ca167
  by_cases e168 : y = 168
  · subst e168; exact ca168
  by_cases e169 : y = 169
  · subst e169; exact ca169
  by_cases e170 : y = 170
  · subst e170; exact ca170
  by_cases e171 : y = 171
  · subst e171; exact ca171
  by_cases e172 : y = 172
  · subst e172; exact ca172
  by_cases e173 : y = 173
  · subst e173; exact ca173
  by_cases e174 : y = 174
  · subst e174; exact ca174
  by_cases e175 : y = 175
  · subst e175; exact ca175
  by_cases e176 : y = 176
  · subst e176; exact ca176
  by_cases e177 : y = 177
  · subst e177; exact ca177
  by_cases e178 : y = 178
  · subst e178; exact ca178
  by_cases e179 : y = 179
  · subst e179; exact ca179
  omega
theorem cg9 : ∀ y, 180 ≤ y → y < 200 → ckA y 0 := by
  intro y h1 h2
  by_cases e180 : y = 180
  · subst e180; exact ca180
  by_cases e181 : y = 181
  · subst e181; exact ca181
  by_cases e182 : y = 182
  · subst e182; exact ca182
  by_cases e183 : y = 183
  · subst e183; exact ca183
  by_cases e184 : y = 184
  · subst e184; exact ca184
  by_cases e185 : y = 185
  · subst e185; exact ca185
  by_cases e186 : y = 186
  · subst e186; exact ca186
  by_cases e187 : y = 187
  · subst e187; exact ca187
  by_cases e188 : y = 188
  · subst e188; exact ca188
  by_cases e189 : y = 189
  · subst e189; exact ca189
  by_cases e190 : y = 190
  · subst e190; exact ca190
  by_cases e191 : y = 191
  · subst e191; exact ca191
  by_cases e192 : y = 192
  · subst e192; exact ca192
  by_cases e193 : y = 193
  · subst e193; exact ca193
  by_cases e194 : y = 194
  · subst e194; exact ca194
  by_cases e195 : y = 195
  · subst e195; exact ca195
  by_cases e196 : y = 196
  · subst e196; exact ca196
  by_cases e197 : y = 197
  · subst e197; exact ca197
  by_cases e198 : y = 198
  · subst e198; exact ca198
  by_cases e199 : y = 199
  · subst e199; exact ca199
  omega
theorem cg10 : ∀ y, 200 ≤ y → y < 220 → ckA y 0 := by
  intro y h1 h2
  by_cases e200 : y = 200
  · subst e200; exact ca200
  by_cases e201 : y = 201
  · subst e201; exact ca201
  by_cases e202 : y = 202
  · subst e202; exact ca202
  by_cases e203 : y = 203
  · subst e203; exact ca203
  by_cases e204 : y = 204
  · subst e204; exact ca204
  by_cases e205 : y = 205
  · subst e205; exact ca205
  by_cases e206 : y = 206
  · subst e206; exact ca206
  by_cases e207 : y = 207
  · subst e207; exact ca207
  by_cases e208 : y = 208
  · subst e208; exact ca208
  by_cases e209 : y = 209
  · subst e209; exact ca209
  by_cases e210 : y = 210
  · subst e210; exact ca210
  by_cases e211 : y = 211
  · subst e211; exact ca211
  by_cases e212 : y = 212
  · subst e212; exact ca212
  by_cases e213 : y = 213
  · subst e213; exact ca213
  by_cases e214 : y = 214
  · subst e214; exact ca214
  by_cases e215 : y = 215
  · subst e215; exact ca215
  by_cases e216 : y = 216
  · subst e216; exact ca216
  by_cases e217 : y = 217
  · subst e217; exact ca217
  by_cases e218 : y = 218
  · subst e218; exact ca218
  by_cases e219 : y = 219
  · subst e219; exact ca219
  omega
theorem cg11 : ∀ y, 220 ≤ y → y < 240 → ckA y 0 := by
  intro y h1 h2
  by_cases e220 : y = 220
  · subst e220; exact ca220
  by_cases e221 : y = 221
  · subst e221; exact ca221
  by_cases e222 : y = 222
  · subst e222; exact ca222
  by_cases e223 : y = 223
  · subst e223; exact ca223
  by_cases e224 : y = 224
  · subst e224; exact ca224
  by_cases e225 : y = 225
  · subst e225; exact ca225
  by_cases e226 : y = 226
  · subst e226; exact ca226
  by_cases e227 : y = 227
  · subst e227; exact ca227
  by_cases e228 : y = 228
  · subst e228; exact ca228
  by_cases e229 : y = 229
  · subst e229; exact ca229
  by_cases e230 : y = 230
  · subst e230; exact ca230
  by_cases e231 : y = 231
  · subst e231; exact ca231
  by_cases e232 : y = 232
  · subst e232; exact ca232
  by_cases e233 : y = 233
  · subst e233; exact ca233
  by_cases e234 : y = 234
  · subst e234; exact ca234
  by_cases e235 : y = 235
  · subst e235; exact ca235
  by_cases e236 : y = 236
  · subst e236; exact ca236
  by_cases e237 : y = 237
  · subst e237; exact ca237
  by_cases e238 : y = 238
  · subst e238; exact ca238
  by_cases e239 : y = 239
  · subst e239; exact ca239
  omega
theorem cg12 : ∀ y, 240 ≤ y → y < 260 → ckA y 0 := by
  intro y h1 h2
  by_cases e240 : y = 240
  · subst e240; exact ca240
  by_cases e241 : y = 241
  · subst e241; exact ca241
  by_cases e242 : y = 242
  · subst e242; exact ca242
  by_cases e243 : y = 243
  · subst e243; exact ca243
  by_cases e244 : y = 244
  · subst e244; exact ca244
  by_cases e245 : y = 245
  · subst e245; exact ca245
  by_cases e246 : y = 246
  · subst e246; exact ca246
  by_cases e247 : y = 247
  · subst e247; exact ca247
  by_cases e248 : y = 248
  · subst e248; exact ca248
  by_cases e249 : y = 249
  · subst e249; exact ca249
  by_cases e250 : y = 250
  · subst e250; exact ca250
  by_cases e251 : y = 251
  · subst e251; exact ca251
  by_cases e252 : y = 252
  · subst e252; exact ca252
  by_cases e253 : y = 253
  · subst e253; exact ca253
  by_cases e254 : y = 254
  · subst e254; exact ca254
  by_cases e255 : y = 255
  · subst e255; exact ca255
  by_cases e256 : y = 256
  · subst e256; exact ca256
  by_cases e257 : y = 257
  · subst e257; exact ca257
  by_cases e258 : y = 258
  · subst e258; exact ca258
  by_cases e259 : y = 259
  · subst e259; exact ca259
  omega
theorem cg13 : ∀ y, 260 ≤ y → y < 280 → ckA y 0 := by
  intro y h1 h2
  by_cases e260 : y = 260
  · subst e260; exact ca260
  by_cases e261 : y = 261
  · subst e261; exact ca261
  by_cases e262 : y = 262
  · subst e262; exact ca262
  by_cases e263 : y = 263
  · subst e263; exact ca263
  by_cases e264 : y = 264
  · subst e264; exact ca264
  by_cases e265 : y = 265
  · subst e265; exact ca265
  by_cases e266 : y = 266
  · subst e266; exact ca266
  by_cases e267 : y = 267
  · subst e267; exact ca267
  by_cases e268 : y = 268
  · subst e268; exact ca268
  by_cases e269 : y = 269
  · subst e269; exact ca269
  by_cases e270 : y = 270
  · subst e270; exact ca270
  by_cases e271 : y = 271
  · subst e271; exact ca271
  by_cases e272 : y = 272
  · subst e272; exact ca272
  by_cases e273 : y = 273
  · subst e273; exact ca273
  by_cases e274 : y = 274
  · subst e274; exact ca274
  by_cases e275 : y = 275
  · subst e275; exact ca275
  by_cases e276 : y = 276
  · subst e276; exact ca276
  by_cases e277 : y = 277
  · subst e277; exact ca277
  by_cases e278 : y = 278
  · subst e278; exact ca278
  by_cases e279 : y = 279
  · subst e279; exact ca279
  omega
theorem cg14 : ∀ y, 280 ≤ y → y < 300 → ckA y 0 := by
  intro y h1 h2
  by_cases e280 : y = 280
  · subst e280; exact ca280
  by_cases e281 : y = 281
  · subst e281; exact ca281
  by_cases e282 : y = 282
  · subst e282; exact ca282
  by_cases e283 : y = 283
  · subst e283; exact ca283
  by_cases e284 : y = 284
  · subst e284; exact ca284
  by_cases e285 : y = 285
  · subst e285; exact ca285
  by_cases e286 : y = 286
  · subst e286; exact ca286
  by_cases e287 : y = 287
  · subst e287; exact ca287
  by_cases e288 : y = 288
  · subst e288; exact ca288
  by_cases e289 : y = 289
  · subst e289; exact ca289
  by_cases e290 : y = 290
  · subst e290; exact ca290
  by_cases e291 : y = 291
  · subst e291; exact ca291
  by_cases e292 : y = 292
  · subst e292; exact ca292
  by_cases e293 : y = 293
  · subst e293; exact ca293
  by_cases e294 : y = 294
  · subst e294; exact ca294
  by_cases e295 : y = 295
  · subst e295; exact ca295
  by_cases e296 : y = 296
  · subst e296; exact ca296
  by_cases e297 : y = 297
  · subst e297; exact ca297
  by_cases e298 : y = 298
  · subst e298; exact ca298
  by_cases e299 : y = 299
  · subst e299; exact ca299
  omega
theorem cg15 : ∀ y, 300 ≤ y → y < 305 → ckA y 0 := by
  intro y h1 h2
  by_cases e300 : y = 300
  · subst e300; exact ca300
  by_cases e301 : y = 301
  · subst e301; exact ca301
  by_cases e302 : y = 302
  · subst e302; exact ca302
  by_cases e303 : y = 303
  · subst e303; exact ca303
  by_cases e304 : y = 304
  · subst e304; exact ca304
  omega
theorem ck_all : ∀ y, y < 305 → ckA y 0 := by
  intro y hy
  by_cases h0 : y < 20
  · exact cg0 y (by omega) h0
  by_cases h1 : y < 40
  · exact cg1 y (by omega) h1
  by_cases h2 : y < 60
  · exact cg2 y (by omega) h2
  by_cases h3 : y < 80
  · exact cg3 y (by omega) h3
  by_cases h4 : y < 100
  · exact cg4 y (by omega) h4
  by_cases h5 : y < 120
  · exact cg5 y (by omega) h5
  by_cases h6 : y < 140
  · exact cg6 y (by omega) h6
  by_cases h7 : y < 160
  · exact cg7 y (by omega) h7
  by_cases h8 : y < 180
  · exact cg8 y (by omega) h8
  by_cases h9 : y < 200
  · exact cg9 y (by omega) h9
  by_cases h10 : y < 220
  · exact cg10 y (by omega) h10
  by_cases h11 : y < 240
  · exact cg11 y (by omega) h11
  by_cases h12 : y < 260
  · exact cg12 y (by omega) h12
  by_cases h13 : y < 280
  · exact cg13 y (by omega) h13
  by_cases h14 : y < 300
  · exact cg14 y (by omega) h14
  by_cases h15 : y < 305
  · exact cg15 y (by omega) h15
  omega
theorem kcy_ge {y : Nat} (h : 305 ≤ y) : kcy y = [] := by
  unfold kcy
  by_cases hq : 20 ≤ y / 16
  · have hl : kct.length = 20 := by decide +kernel
    rw [kzN_ge [] (y / 16) kct (by omega)]
    exact kzN_ge [] (y % 16) [] (Nat.zero_le _)
  · have e : y / 16 = 19 := by omega
    have hl : (kzN [] 19 kct).length = 1 := by decide +kernel
    rw [e]
    exact kzN_ge [] (y % 16) _ (by omega)
theorem kzf_of : ∀ (l : List Nat) {pc : Nat} {x : Op}, kzf pc l = some x → ∃ m ∈ l, m % 16384 = pc ∧ kzd m = x
  | [], _, x, h => by
    have h : (none : Option Op) = some x := h
    cases h
  | m :: r, pc, x, h => by
    have h : cond (Nat.beq (m % 16384) pc) (some (kzd m)) (kzf pc r) = some x := h
    cases e : Nat.beq (m % 16384) pc with
    | true =>
      rw [e] at h
      exact ⟨m, List.mem_cons_self, Nat.eq_of_beq_eq_true e, Option.some.inj (show some (kzd m) = some x from h)⟩
    | false =>
      rw [e] at h
      obtain ⟨q, hq, h1⟩ := kzf_of r (show kzf pc r = some x from h)
      exact ⟨q, List.mem_cons_of_mem _ hq, h1⟩
theorem cdT_mem {y pc : Nat} {x : Op} (h : cdT y pc = some x) : ∃ m ∈ kcf y, m % 16384 = pc ∧ kzd m = x := by
  obtain ⟨m, hm, h1⟩ := kzf_of _ h
  rcases kzN_mem ([] : List Nat) (pc / 16) (kcy y) with z | z
  · exact ⟨m, List.mem_flatten.mpr ⟨_, z, hm⟩, h1⟩
  · rw [z] at hm
    cases hm
theorem cdT_ok {y pc : Nat} {x : Op} (h : cdT y pc = some x) : plainName (mN y).cls = true ∧ dcAll mK mL mN mB mR y pc x = true := by
  obtain ⟨m, hm, rfl, rfl⟩ := cdT_mem h
  have hy : y < 305 := by
    by_cases hy : y < 305
    · exact hy
    · unfold kcf at hm
      rw [kcy_ge (by omega)] at hm
      cases hm
  have hp := ck_plain y hy
  have hne : (kcf y).isEmpty = false := by
    cases hk : kcf y with
    | nil => rw [hk] at hm; cases hm
    | cons _ _ => rfl
  rw [hne, Bool.false_or] at hp
  exact ⟨hp, ck_all y hy m (by rw [List.drop_zero]; exact hm)⟩
theorem all_sound (sc : List Int) (d : Nat) : Sound mL mN mB mR sc (Runs cdT mK sc stxt mL d) d := Runs_sound cdT mK mL mN mB mR sc (fun _ _ _ h => (cdT_ok h).2) (fun _ _ _ h => (cdT_ok h).1) d
