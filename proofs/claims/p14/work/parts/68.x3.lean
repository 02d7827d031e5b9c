/-! contracts of the class -/
def msx166 : Zms := [(17, 17, 0, 13)]
-- WheelLand$Rules.begin(I)V
theorem x166 {sc : List Int} (h : Hp) (C : CI h) (a : Int) (q_a : -2147483648 ≤ a ∧ a ≤ 2147483647) (p1 : 0 ≤ a) : zwC sc 2 166 [(2, 13), (0, a)] h (zwRv (fun g => CI g ∧ zXR msx166 (0) (0) h g)) := by
  refine zwC_of (D := 1) 2 (by decide +kernel) rfl (ls := [(2, 13), (0, a)]) rfl ?_
  have X : zXR msx166 0 0 h h := zXR.rf _ _
  refine zwW_p [(1, 0, 2)] (q := 1) (ls' := [(2, 13), (0, a)]) (st' := [(2, 13)]) (by decide +kernel) rfl ?_
  refine zwW_gc C.1 (kd := 9) (bn := 4) (n := 6) (c := 17) (nx := 4) (by decide +kernel) ?_
  refine zwW_p [(0, 0, 0)] (q := 5) (ls' := [(2, 13), (0, a)]) (st' := [(0, 0), (2, 17)]) (by decide +kernel) rfl ?_
  refine zwW_csv (k' := 180) (n := 2) (nx := 8) (as := [(2, 17), (0, 0)]) (st' := []) (by decide +kernel) rfl (x180_17 C ⟨by omega, by omega⟩) rfl ?_
  rintro h1 ⟨Ch1, Qh1, fh1⟩
  have Xh1 : zXR msx166 (0) (0) h h1 := X.tr (c2 := 0) (s2 := 0) Qh1 (by decide +kernel) (by decide) (by decide)
  refine zwW_p [(1, 0, 2)] (q := 9) (ls' := [(2, 13), (0, a)]) (st' := [(2, 13)]) (by decide +kernel) rfl ?_
  refine zwW_gc Ch1.1 (kd := 9) (bn := 4) (n := 6) (c := 17) (nx := 12) (by decide +kernel) ?_
  refine zwW_p [(0, 0, 0), (1, 1, 0)] (q := 14) (ls' := [(2, 13), (0, a)]) (st' := [(0, a), (0, 0), (2, 17)]) (by decide +kernel) rfl ?_
  refine zwW_as Ch1.1 (a1 := 17) (a2 := 17) (n := 13) (lo := -2147483648) (hi := 2147483647) (nx := 15) (by decide +kernel) ⟨by decide, by decide⟩ ⟨by decide, by decide⟩ ⟨by omega, by omega⟩ ?_
  intro h2 eh2 Ih2
  have Ch2 : CI h2 := Ch1.wc eh2 Ih2 (by decide) (by decide)
  have Qh2 : zXR [(17, 17, 0, 13)] 0 0 h1 h2 := zXR.wc eh2 rfl ⟨by decide, by decide, Or.inl (by decide)⟩ ⟨by decide, by decide⟩
  have Xh2 : zXR msx166 (0) (0) h h2 := Xh1.tr (c2 := 0) (s2 := 0) Qh2 (by decide +kernel) (by decide) (by decide)
  refine zwW_p [(1, 0, 2)] (q := 16) (ls' := [(2, 13), (0, a)]) (st' := [(2, 13)]) (by decide +kernel) rfl ?_
  refine zwW_gc Ch2.1 (kd := 9) (bn := 4) (n := 6) (c := 17) (nx := 19) (by decide +kernel) ?_
  refine zwW_p [(0, 1, 0), (1, 1, 0)] (q := 21) (ls' := [(2, 13), (0, a)]) (st' := [(0, a), (0, 1), (2, 17)]) (by decide +kernel) rfl ?_
  refine zwW_cs (k' := 162) (n := 1) (nx := 24) (as := [(0, a)]) (st' := [(0, 1), (2, 17)]) (by decide +kernel) rfl (x162 h2 Ch2 a (by omega) (by omega)) rfl ?_
  rintro v3 _ ⟨rfl, f4, f5, f6⟩
  refine zwW_as Ch2.1 (a1 := 17) (a2 := 17) (n := 13) (lo := -2147483648) (hi := 2147483647) (nx := 25) (by decide +kernel) ⟨by decide, by decide⟩ ⟨by decide, by decide⟩ ⟨by omega, by omega⟩ ?_
  intro h7 eh7 Ih7
  have Ch7 : CI h7 := Ch2.wc eh7 Ih7 (by decide) (by decide)
  have Qh7 : zXR [(17, 17, 0, 13)] 0 0 h2 h7 := zXR.wc eh7 rfl ⟨by decide, by decide, Or.inl (by decide)⟩ ⟨by decide, by decide⟩
  have Xh7 : zXR msx166 (0) (0) h h7 := Xh2.tr (c2 := 0) (s2 := 0) Qh7 (by decide +kernel) (by decide) (by decide)
  refine zwW_retv (nx := 26) (a := 0) (b := 0) (by decide +kernel) ?_
  exact ⟨Ch7, Xh7.le (by decide) (by decide)⟩
def msx167 : Zms := [(17, 17, 0, 13)]
-- WheelLand$Rules.tellHouse(LWheelLand$House;I)V
theorem x167 {sc : List Int} (h : Hp) (C : CI h) (r a : Int) (G_r : gH h r) (q_a : -2147483648 ≤ a ∧ a ≤ 2147483647) : zwC sc 2 167 [(2, 13), (2, r), (0, a)] h (zwRv (fun g => CI g ∧ zXR msx167 (0) (0) h g)) := by
  refine zwC_of (D := 1) 3 (by decide +kernel) rfl (ls := [(2, 13), (2, r), (0, a)]) rfl ?_
  have lw_r := G_r.1
  have X : zXR msx167 0 0 h h := zXR.rf _ _
  refine zwW_p [(1, 0, 2)] (q := 1) (ls' := [(2, 13), (2, r), (0, a)]) (st' := [(2, 13)]) (by decide +kernel) rfl ?_
  refine zwW_gc C.1 (kd := 9) (bn := 4) (n := 6) (c := 17) (nx := 4) (by decide +kernel) ?_
  refine zwW_p [(0, 2, 0), (1, 1, 2)] (q := 6) (ls' := [(2, 13), (2, r), (0, a)]) (st' := [(2, r), (0, 2), (2, 17)]) (by decide +kernel) rfl ?_
  refine zwX_gi C (kd := 4) (bn := 5) (n := 19) (nx := 9) (by decide +kernel) G_r.2.1 G_r.1 rfl ?_
  intro v1 ev1 lv1 uv1
  refine zwW_as C.1 (a1 := 17) (a2 := 17) (n := 13) (lo := -2147483648) (hi := 2147483647) (nx := 10) (by decide +kernel) ⟨by decide, by decide⟩ ⟨by decide, by decide⟩ ⟨by omega, by omega⟩ ?_
  intro h2 eh2 Ih2
  have Ch2 : CI h2 := C.wc eh2 Ih2 (by decide) (by decide)
  have Qh2 : zXR [(17, 17, 0, 13)] 0 0 h h2 := zXR.wc eh2 rfl ⟨by decide, by decide, Or.inl (by decide)⟩ ⟨by decide, by decide⟩
  have Xh2 : zXR msx167 (0) (0) h h2 := X.tr (c2 := 0) (s2 := 0) Qh2 (by decide +kernel) (by decide) (by decide)
  have Gh2_0 : gH h2 r := G_r.x Qh2
  refine zwW_p [(1, 0, 2)] (q := 11) (ls' := [(2, 13), (2, r), (0, a)]) (st' := [(2, 13)]) (by decide +kernel) rfl ?_
  refine zwW_gc Ch2.1 (kd := 9) (bn := 4) (n := 6) (c := 17) (nx := 14) (by decide +kernel) ?_
  refine zwW_p [(0, 3, 0), (1, 1, 2)] (q := 16) (ls' := [(2, 13), (2, r), (0, a)]) (st' := [(2, r), (0, 3), (2, 17)]) (by decide +kernel) rfl ?_
  refine zwX_gi Ch2 (kd := 4) (bn := 2) (n := 19) (nx := 19) (by decide +kernel) Gh2_0.2.1 Gh2_0.1 rfl ?_
  intro v3 ev3 lv3 uv3
  refine zwW_as Ch2.1 (a1 := 17) (a2 := 17) (n := 13) (lo := -2147483648) (hi := 2147483647) (nx := 20) (by decide +kernel) ⟨by decide, by decide⟩ ⟨by decide, by decide⟩ ⟨by omega, by omega⟩ ?_
  intro h4 eh4 Ih4
  have Ch4 : CI h4 := Ch2.wc eh4 Ih4 (by decide) (by decide)
  have Qh4 : zXR [(17, 17, 0, 13)] 0 0 h2 h4 := zXR.wc eh4 rfl ⟨by decide, by decide, Or.inl (by decide)⟩ ⟨by decide, by decide⟩
  have Xh4 : zXR msx167 (0) (0) h h4 := Xh2.tr (c2 := 0) (s2 := 0) Qh4 (by decide +kernel) (by decide) (by decide)
  have Gh4_0 : gH h4 r := Gh2_0.x Qh4
  refine zwW_p [(1, 0, 2)] (q := 21) (ls' := [(2, 13), (2, r), (0, a)]) (st' := [(2, 13)]) (by decide +kernel) rfl ?_
  refine zwW_gc Ch4.1 (kd := 9) (bn := 4) (n := 6) (c := 17) (nx := 24) (by decide +kernel) ?_
  refine zwW_p [(0, 4, 0), (1, 1, 2)] (q := 26) (ls' := [(2, 13), (2, r), (0, a)]) (st' := [(2, r), (0, 4), (2, 17)]) (by decide +kernel) rfl ?_
  refine zwX_gi Ch4 (kd := 4) (bn := 3) (n := 19) (nx := 29) (by decide +kernel) Gh4_0.2.1 Gh4_0.1 rfl ?_
  intro v5 ev5 lv5 uv5
  refine zwW_as Ch4.1 (a1 := 17) (a2 := 17) (n := 13) (lo := -2147483648) (hi := 2147483647) (nx := 30) (by decide +kernel) ⟨by decide, by decide⟩ ⟨by decide, by decide⟩ ⟨by omega, by omega⟩ ?_
  intro h6 eh6 Ih6
  have Ch6 : CI h6 := Ch4.wc eh6 Ih6 (by decide) (by decide)
  have Qh6 : zXR [(17, 17, 0, 13)] 0 0 h4 h6 := zXR.wc eh6 rfl ⟨by decide, by decide, Or.inl (by decide)⟩ ⟨by decide, by decide⟩
  have Xh6 : zXR msx167 (0) (0) h h6 := Xh4.tr (c2 := 0) (s2 := 0) Qh6 (by decide +kernel) (by decide) (by decide)
  have Gh6_0 : gH h6 r := Gh4_0.x Qh6
  refine zwW_p [(1, 0, 2)] (q := 31) (ls' := [(2, 13), (2, r), (0, a)]) (st' := [(2, 13)]) (by decide +kernel) rfl ?_
  refine zwW_gc Ch6.1 (kd := 9) (bn := 4) (n := 6) (c := 17) (nx := 34) (by decide +kernel) ?_
  refine zwW_p [(0, 5, 0), (1, 1, 2)] (q := 36) (ls' := [(2, 13), (2, r), (0, a)]) (st' := [(2, r), (0, 5), (2, 17)]) (by decide +kernel) rfl ?_
  refine zwX_gi Ch6 (kd := 4) (bn := 4) (n := 19) (nx := 39) (by decide +kernel) Gh6_0.2.1 Gh6_0.1 rfl ?_
  intro v7 ev7 lv7 uv7
  refine zwW_as Ch6.1 (a1 := 17) (a2 := 17) (n := 13) (lo := -2147483648) (hi := 2147483647) (nx := 40) (by decide +kernel) ⟨by decide, by decide⟩ ⟨by decide, by decide⟩ ⟨by omega, by omega⟩ ?_
  intro h8 eh8 Ih8
  have Ch8 : CI h8 := Ch6.wc eh8 Ih8 (by decide) (by decide)
  have Qh8 : zXR [(17, 17, 0, 13)] 0 0 h6 h8 := zXR.wc eh8 rfl ⟨by decide, by decide, Or.inl (by decide)⟩ ⟨by decide, by decide⟩
  have Xh8 : zXR msx167 (0) (0) h h8 := Xh6.tr (c2 := 0) (s2 := 0) Qh8 (by decide +kernel) (by decide) (by decide)
  have Gh8_0 : gH h8 r := Gh6_0.x Qh8
  refine zwW_p [(1, 0, 2)] (q := 41) (ls' := [(2, 13), (2, r), (0, a)]) (st' := [(2, 13)]) (by decide +kernel) rfl ?_
  refine zwW_gc Ch8.1 (kd := 9) (bn := 4) (n := 6) (c := 17) (nx := 44) (by decide +kernel) ?_
  refine zwW_p [(0, 10, 0), (1, 1, 2)] (q := 47) (ls' := [(2, 13), (2, r), (0, a)]) (st' := [(2, r), (0, 10), (2, 17)]) (by decide +kernel) rfl ?_
  refine zwW_get (kd := 4) (bn := 1) (t := 2) (n := 19) (nx := 50) (by decide +kernel) Gh8_0.2.1 rfl ?_
  obtain ⟨v9, ev9⟩ : ∃ z, z = fld h8 r 1 := ⟨_, rfl⟩
  rw [← ev9]
  have Gv9 : gV h8 v9 := by rw [ev9]; exact Gh8_0.2.2
  have lv9 := Gv9.1
  refine zwW_p [(1, 2, 0)] (q := 51) (ls' := [(2, 13), (2, r), (0, a)]) (st' := [(0, a), (2, v9), (0, 10), (2, 17)]) (by decide +kernel) rfl ?_
  refine zwW_cv (op := 60) (k' := 222) (n := 1) (kd := 11) (m := 17) (nx := 54) (r := v9) (tl := [(0, a)]) (st' := [(0, 10), (2, 17)]) (by decide +kernel) rfl (by decide +kernel) Gv9.2.1 (x222 h8 Ch8 v9 a Gv9 (by omega)) rfl ?_
  rintro v10 _ ⟨rfl, f11⟩
  refine zwW_as Ch8.1 (a1 := 17) (a2 := 17) (n := 13) (lo := -2147483648) (hi := 2147483647) (nx := 55) (by decide +kernel) ⟨by decide, by decide⟩ ⟨by decide, by decide⟩ ⟨by omega, by omega⟩ ?_
  intro h12 eh12 Ih12
  have Ch12 : CI h12 := Ch8.wc eh12 Ih12 (by decide) (by decide)
  have Qh12 : zXR [(17, 17, 0, 13)] 0 0 h8 h12 := zXR.wc eh12 rfl ⟨by decide, by decide, Or.inl (by decide)⟩ ⟨by decide, by decide⟩
  have Xh12 : zXR msx167 (0) (0) h h12 := Xh8.tr (c2 := 0) (s2 := 0) Qh12 (by decide +kernel) (by decide) (by decide)
  have Gh12_0 : gH h12 r := Gh8_0.x Qh12
  refine zwW_retv (nx := 56) (a := 0) (b := 0) (by decide +kernel) ?_
  exact ⟨Ch12, Xh12.le (by decide) (by decide)⟩
def msx168 : Zms := [(17, 17, 0, 13)]
-- WheelLand$Rules.tellWork(II)V
theorem x168 {sc : List Int} (h : Hp) (C : CI h) (a b : Int) (q_a : -2147483648 ≤ a ∧ a ≤ 2147483647) (q_b : -2147483648 ≤ b ∧ b ≤ 2147483647) : zwC sc 1 168 [(2, 13), (0, a), (0, b)] h (zwRv (fun g => CI g ∧ zXR msx168 (0) (0) h g)) := by
  refine zwC_of (D := 0) 3 (by decide +kernel) rfl (ls := [(2, 13), (0, a), (0, b)]) rfl ?_
  have X : zXR msx168 0 0 h h := zXR.rf _ _
  refine zwW_p [(1, 0, 2)] (q := 1) (ls' := [(2, 13), (0, a), (0, b)]) (st' := [(2, 13)]) (by decide +kernel) rfl ?_
  refine zwW_gc C.1 (kd := 9) (bn := 4) (n := 6) (c := 17) (nx := 4) (by decide +kernel) ?_
  refine zwW_p [(0, 6, 0), (1, 1, 0)] (q := 7) (ls' := [(2, 13), (0, a), (0, b)]) (st' := [(0, a), (0, 6), (2, 17)]) (by decide +kernel) rfl ?_
  refine zwW_as C.1 (a1 := 17) (a2 := 17) (n := 13) (lo := -2147483648) (hi := 2147483647) (nx := 8) (by decide +kernel) ⟨by decide, by decide⟩ ⟨by decide, by decide⟩ ⟨by omega, by omega⟩ ?_
  intro h1 eh1 Ih1
  have Ch1 : CI h1 := C.wc eh1 Ih1 (by decide) (by decide)
  have Qh1 : zXR [(17, 17, 0, 13)] 0 0 h h1 := zXR.wc eh1 rfl ⟨by decide, by decide, Or.inl (by decide)⟩ ⟨by decide, by decide⟩
  have Xh1 : zXR msx168 (0) (0) h h1 := X.tr (c2 := 0) (s2 := 0) Qh1 (by decide +kernel) (by decide) (by decide)
  refine zwW_p [(1, 0, 2)] (q := 9) (ls' := [(2, 13), (0, a), (0, b)]) (st' := [(2, 13)]) (by decide +kernel) rfl ?_
  refine zwW_gc Ch1.1 (kd := 9) (bn := 4) (n := 6) (c := 17) (nx := 12) (by decide +kernel) ?_
  refine zwW_p [(0, 11, 0), (1, 2, 0)] (q := 15) (ls' := [(2, 13), (0, a), (0, b)]) (st' := [(0, b), (0, 11), (2, 17)]) (by decide +kernel) rfl ?_
  refine zwW_as Ch1.1 (a1 := 17) (a2 := 17) (n := 13) (lo := -2147483648) (hi := 2147483647) (nx := 16) (by decide +kernel) ⟨by decide, by decide⟩ ⟨by decide, by decide⟩ ⟨by omega, by omega⟩ ?_
  intro h2 eh2 Ih2
  have Ch2 : CI h2 := Ch1.wc eh2 Ih2 (by decide) (by decide)
  have Qh2 : zXR [(17, 17, 0, 13)] 0 0 h1 h2 := zXR.wc eh2 rfl ⟨by decide, by decide, Or.inl (by decide)⟩ ⟨by decide, by decide⟩
  have Xh2 : zXR msx168 (0) (0) h h2 := Xh1.tr (c2 := 0) (s2 := 0) Qh2 (by decide +kernel) (by decide) (by decide)
  refine zwW_retv (nx := 17) (a := 0) (b := 0) (by decide +kernel) ?_
  exact ⟨Ch2, Xh2.le (by decide) (by decide)⟩
def msx171 : Zms := [(17, 17, 0, 13)]
-- WheelLand$Rules.tellYarn(III)V
theorem x171 {sc : List Int} (h : Hp) (C : CI h) (a b c : Int) (q_a : -2147483648 ≤ a ∧ a ≤ 2147483647) (q_b : -2147483648 ≤ b ∧ b ≤ 2147483647) (q_c : -2147483648 ≤ c ∧ c ≤ 2147483647) : zwC sc 1 171 [(2, 13), (0, a), (0, b), (0, c)] h (zwRv (fun g => CI g ∧ zXR msx171 (0) (0) h g)) := by
  refine zwC_of (D := 0) 4 (by decide +kernel) rfl (ls := [(2, 13), (0, a), (0, b), (0, c)]) rfl ?_
  have X : zXR msx171 0 0 h h := zXR.rf _ _
  refine zwW_p [(1, 0, 2)] (q := 1) (ls' := [(2, 13), (0, a), (0, b), (0, c)]) (st' := [(2, 13)]) (by decide +kernel) rfl ?_
  refine zwW_gc C.1 (kd := 9) (bn := 4) (n := 6) (c := 17) (nx := 4) (by decide +kernel) ?_
  refine zwW_p [(0, 7, 0), (1, 1, 0)] (q := 7) (ls' := [(2, 13), (0, a), (0, b), (0, c)]) (st' := [(0, a), (0, 7), (2, 17)]) (by decide +kernel) rfl ?_
  refine zwW_as C.1 (a1 := 17) (a2 := 17) (n := 13) (lo := -2147483648) (hi := 2147483647) (nx := 8) (by decide +kernel) ⟨by decide, by decide⟩ ⟨by decide, by decide⟩ ⟨by omega, by omega⟩ ?_
  intro h1 eh1 Ih1
  have Ch1 : CI h1 := C.wc eh1 Ih1 (by decide) (by decide)
  have Qh1 : zXR [(17, 17, 0, 13)] 0 0 h h1 := zXR.wc eh1 rfl ⟨by decide, by decide, Or.inl (by decide)⟩ ⟨by decide, by decide⟩
  have Xh1 : zXR msx171 (0) (0) h h1 := X.tr (c2 := 0) (s2 := 0) Qh1 (by decide +kernel) (by decide) (by decide)
  refine zwW_p [(1, 0, 2)] (q := 9) (ls' := [(2, 13), (0, a), (0, b), (0, c)]) (st' := [(2, 13)]) (by decide +kernel) rfl ?_
  refine zwW_gc Ch1.1 (kd := 9) (bn := 4) (n := 6) (c := 17) (nx := 12) (by decide +kernel) ?_
  refine zwW_p [(0, 8, 0), (1, 2, 0)] (q := 15) (ls' := [(2, 13), (0, a), (0, b), (0, c)]) (st' := [(0, b), (0, 8), (2, 17)]) (by decide +kernel) rfl ?_
  refine zwW_as Ch1.1 (a1 := 17) (a2 := 17) (n := 13) (lo := -2147483648) (hi := 2147483647) (nx := 16) (by decide +kernel) ⟨by decide, by decide⟩ ⟨by decide, by decide⟩ ⟨by omega, by omega⟩ ?_
  intro h2 eh2 Ih2
  have Ch2 : CI h2 := Ch1.wc eh2 Ih2 (by decide) (by decide)
  have Qh2 : zXR [(17, 17, 0, 13)] 0 0 h1 h2 := zXR.wc eh2 rfl ⟨by decide, by decide, Or.inl (by decide)⟩ ⟨by decide, by decide⟩
  have Xh2 : zXR msx171 (0) (0) h h2 := Xh1.tr (c2 := 0) (s2 := 0) Qh2 (by decide +kernel) (by decide) (by decide)
  refine zwW_p [(1, 0, 2)] (q := 17) (ls' := [(2, 13), (0, a), (0, b), (0, c)]) (st' := [(2, 13)]) (by decide +kernel) rfl ?_
  refine zwW_gc Ch2.1 (kd := 9) (bn := 4) (n := 6) (c := 17) (nx := 20) (by decide +kernel) ?_
  refine zwW_p [(0, 9, 0), (1, 3, 0)] (q := 23) (ls' := [(2, 13), (0, a), (0, b), (0, c)]) (st' := [(0, c), (0, 9), (2, 17)]) (by decide +kernel) rfl ?_
  refine zwW_as Ch2.1 (a1 := 17) (a2 := 17) (n := 13) (lo := -2147483648) (hi := 2147483647) (nx := 24) (by decide +kernel) ⟨by decide, by decide⟩ ⟨by decide, by decide⟩ ⟨by omega, by omega⟩ ?_
  intro h3 eh3 Ih3
  have Ch3 : CI h3 := Ch2.wc eh3 Ih3 (by decide) (by decide)
  have Qh3 : zXR [(17, 17, 0, 13)] 0 0 h2 h3 := zXR.wc eh3 rfl ⟨by decide, by decide, Or.inl (by decide)⟩ ⟨by decide, by decide⟩
  have Xh3 : zXR msx171 (0) (0) h h3 := Xh2.tr (c2 := 0) (s2 := 0) Qh3 (by decide +kernel) (by decide) (by decide)
  refine zwW_retv (nx := 25) (a := 0) (b := 0) (by decide +kernel) ?_
  exact ⟨Ch3, Xh3.le (by decide) (by decide)⟩
def msx214 : Zms := [(17, 17, 0, 13)]
-- WheelLand$Rules.tellPrice(I)V
theorem x214 {sc : List Int} (h : Hp) (C : CI h) (a : Int) (q_a : -2147483648 ≤ a ∧ a ≤ 2147483647) : zwC sc 1 214 [(2, 13), (0, a)] h (zwRv (fun g => CI g ∧ zXR msx214 (0) (0) h g)) := by
  refine zwC_of (D := 0) 2 (by decide +kernel) rfl (ls := [(2, 13), (0, a)]) rfl ?_
  have X : zXR msx214 0 0 h h := zXR.rf _ _
  refine zwW_p [(1, 0, 2)] (q := 1) (ls' := [(2, 13), (0, a)]) (st' := [(2, 13)]) (by decide +kernel) rfl ?_
  refine zwW_gc C.1 (kd := 9) (bn := 4) (n := 6) (c := 17) (nx := 4) (by decide +kernel) ?_
  refine zwW_p [(0, 12, 0), (1, 1, 0)] (q := 7) (ls' := [(2, 13), (0, a)]) (st' := [(0, a), (0, 12), (2, 17)]) (by decide +kernel) rfl ?_
  refine zwW_as C.1 (a1 := 17) (a2 := 17) (n := 13) (lo := -2147483648) (hi := 2147483647) (nx := 8) (by decide +kernel) ⟨by decide, by decide⟩ ⟨by decide, by decide⟩ ⟨by omega, by omega⟩ ?_
  intro h1 eh1 Ih1
  have Ch1 : CI h1 := C.wc eh1 Ih1 (by decide) (by decide)
  have Qh1 : zXR [(17, 17, 0, 13)] 0 0 h h1 := zXR.wc eh1 rfl ⟨by decide, by decide, Or.inl (by decide)⟩ ⟨by decide, by decide⟩
  have Xh1 : zXR msx214 (0) (0) h h1 := X.tr (c2 := 0) (s2 := 0) Qh1 (by decide +kernel) (by decide) (by decide)
  refine zwW_retv (nx := 9) (a := 0) (b := 0) (by decide +kernel) ?_
  exact ⟨Ch1, Xh1.le (by decide) (by decide)⟩
-- WheelLand$Sheet.beginOf(I)I
theorem x206 {sc : List Int} (h : Hp) (C : CI h) (r a : Int) (G_r : gS h r) (q_a : -2147483648 ≤ a ∧ a ≤ 2147483647) : zwC sc 1 206 [(2, r), (0, a)] h (zwRt 0 (fun x g => h = g ∧ (-2147483648 ≤ x ∧ x ≤ 2147483647))) := by
  refine zwC_of (D := 0) 2 (by decide +kernel) rfl (ls := [(2, r), (0, a)]) rfl ?_
  have lw_r := G_r.1
  refine zwW_p [(1, 1, 0)] (q := 1) (ls' := [(2, r), (0, a)]) (st' := [(0, a)]) (by decide +kernel) rfl ?_
  refine zwif_lt (q := 22) (nx := 4) (by decide +kernel) (fun c1 => ?_) (fun c1 => ?_)
  · refine zwW_p [(0, -1, 0)] (q := 23) (ls' := [(2, r), (0, a)]) (st' := [(0, -1)]) (by decide +kernel) rfl ?_
    refine zwW_ret (nx := 24) (a := 0) (b := 0) (by decide +kernel) rfl (Or.inl rfl) ?_
    exact ⟨rfl, by omega⟩
  · refine zwW_p [(1, 1, 0), (1, 0, 2)] (q := 6) (ls' := [(2, r), (0, a)]) (st' := [(2, r), (0, a)]) (by decide +kernel) rfl ?_
    refine zwW_get (kd := 10) (bn := 2) (t := 2) (n := 3) (nx := 9) (by decide +kernel) G_r.2.1 rfl ?_
    obtain ⟨v2, ev2⟩ : ∃ z, z = fld h r 2 := ⟨_, rfl⟩
    rw [← ev2]
    have Gv2 : gA 5 h v2 := by rw [ev2]; exact G_r.2.2.2
    have lv2 := Gv2.1
    refine zwW_len (n := 5) (nx := 10) (by decide +kernel) Gv2.2 rfl ?_
    refine zwic_ge (q := 22) (nx := 13) (by decide +kernel) (fun c3 => ?_) (fun c3 => ?_)
    · refine zwW_p [(0, -1, 0)] (q := 23) (ls' := [(2, r), (0, a)]) (st' := [(0, -1)]) (by decide +kernel) rfl ?_
      refine zwW_ret (nx := 24) (a := 0) (b := 0) (by decide +kernel) rfl (Or.inl rfl) ?_
      exact ⟨rfl, by omega⟩
    · refine zwW_p [(1, 0, 2)] (q := 14) (ls' := [(2, r), (0, a)]) (st' := [(2, r)]) (by decide +kernel) rfl ?_
      refine zwW_get (kd := 10) (bn := 2) (t := 2) (n := 3) (nx := 17) (by decide +kernel) G_r.2.1 rfl ?_
      rw [← ev2]
      refine zwW_p [(1, 1, 0)] (q := 18) (ls' := [(2, r), (0, a)]) (st' := [(0, a), (2, v2)]) (by decide +kernel) rfl ?_
      refine zwX_ai C (n := 5) (nx := 19) (by decide +kernel) Gv2.2 Gv2.1 ⟨by omega, by omega⟩ ?_
      intro v5 ev5 lv5 uv5
      refine zwW_p [(24, 23, 0)] (q := 23) (ls' := [(2, r), (0, a)]) (st' := [(0, v5)]) (by decide +kernel) rfl ?_
      refine zwW_ret (nx := 24) (a := 0) (b := 0) (by decide +kernel) rfl (Or.inl rfl) ?_
      exact ⟨rfl, by omega⟩
-- WheelLand$Sheet.stepAt(I)I
theorem x255 {sc : List Int} (h : Hp) (C : CI h) (r a : Int) (G_r : gS h r) (q_a : -2147483648 ≤ a ∧ a ≤ 2147483647) : zwC sc 1 255 [(2, r), (0, a)] h (zwRt 0 (fun x g => h = g ∧ (-2147483648 ≤ x ∧ x ≤ 2147483647))) := by
  refine zwC_of (D := 0) 2 (by decide +kernel) rfl (ls := [(2, r), (0, a)]) rfl ?_
  have lw_r := G_r.1
  refine zwW_p [(1, 1, 0)] (q := 1) (ls' := [(2, r), (0, a)]) (st' := [(0, a)]) (by decide +kernel) rfl ?_
  refine zwif_lt (q := 22) (nx := 4) (by decide +kernel) (fun c1 => ?_) (fun c1 => ?_)
  · refine zwW_p [(0, -21, 0)] (q := 24) (ls' := [(2, r), (0, a)]) (st' := [(0, -21)]) (by decide +kernel) rfl ?_
    refine zwW_ret (nx := 25) (a := 0) (b := 0) (by decide +kernel) rfl (Or.inl rfl) ?_
    exact ⟨rfl, by omega⟩
  · refine zwW_p [(1, 1, 0), (1, 0, 2)] (q := 6) (ls' := [(2, r), (0, a)]) (st' := [(2, r), (0, a)]) (by decide +kernel) rfl ?_
    refine zwW_get (kd := 10) (bn := 1) (t := 2) (n := 3) (nx := 9) (by decide +kernel) G_r.2.1 rfl ?_
    obtain ⟨v2, ev2⟩ : ∃ z, z = fld h r 1 := ⟨_, rfl⟩
    rw [← ev2]
    obtain ⟨lv2, nv2, sv2⟩ : 365 < v2 ∧ ∃ n, sh h v2 = some (20, n) := by rw [ev2]; exact G_r.2.2.1
    have Gv2 : gA nv2 h v2 := ⟨lv2, sv2⟩
    refine zwW_len (n := nv2) (nx := 10) (by decide +kernel) Gv2.2 rfl ?_
    refine zwic_ge (q := 22) (nx := 13) (by decide +kernel) (fun c3 => ?_) (fun c3 => ?_)
    · refine zwW_p [(0, -21, 0)] (q := 24) (ls' := [(2, r), (0, a)]) (st' := [(0, -21)]) (by decide +kernel) rfl ?_
      refine zwW_ret (nx := 25) (a := 0) (b := 0) (by decide +kernel) rfl (Or.inl rfl) ?_
      exact ⟨rfl, by omega⟩
    · refine zwW_p [(1, 0, 2)] (q := 14) (ls' := [(2, r), (0, a)]) (st' := [(2, r)]) (by decide +kernel) rfl ?_
      refine zwW_get (kd := 10) (bn := 1) (t := 2) (n := 3) (nx := 17) (by decide +kernel) G_r.2.1 rfl ?_
      rw [← ev2]
      refine zwW_p [(1, 1, 0)] (q := 18) (ls' := [(2, r), (0, a)]) (st' := [(0, a), (2, v2)]) (by decide +kernel) rfl ?_
      refine zwX_ai C (n := nv2) (nx := 19) (by decide +kernel) Gv2.2 Gv2.1 ⟨by omega, by omega⟩ ?_
      intro v5 ev5 lv5 uv5
      refine zwW_p [(24, 24, 0)] (q := 24) (ls' := [(2, r), (0, a)]) (st' := [(0, v5)]) (by decide +kernel) rfl ?_
      refine zwW_ret (nx := 25) (a := 0) (b := 0) (by decide +kernel) rfl (Or.inl rfl) ?_
      exact ⟨rfl, by omega⟩
-- WheelLand$Rules.joined(IJJ)I
theorem x256 {sc : List Int} (h : Hp) (C : CI h) (a b c : Int) (q_a : -2147483648 ≤ a ∧ a ≤ 2147483647) (q_b : -2147483648 ≤ b ∧ b ≤ 2147483647) (q_c : -2147483648 ≤ c ∧ c ≤ 2147483647) : zwC sc 1 256 [(0, a), (1, b), (1, c)] h (zwRt 0 (fun x g => h = g ∧ (-2147483648 ≤ x ∧ x ≤ 2147483647))) := by
  refine zwC_of (D := 0) 7 (by decide +kernel) rfl (ls := [(0, a), (1, b), (9, 0), (1, c), (9, 0), (9, 0), (9, 0)]) rfl ?_
  refine zwW_p [(0, 0, 1), (2, 5, 1), (1, 0, 0)] (q := 4) (ls' := [(0, a), (1, b), (9, 0), (1, c), (9, 0), (1, 0), (9, 0)]) (st' := [(0, a)]) (by decide +kernel) rfl ?_
  refine zwW_sw (d := 194) (os := [18, 178, 19, 186, 42, 104, 43, 88, 45, 96, 47, 112, 60, 130, 61, 162, 62, 146]) (by decide +kernel) ?_
  refine ⟨fun c1 => ?_, fun c1 => ?_⟩
  · show zwW _ _ _ 178 _ _ _ _
    refine zwW_p [(1, 1, 1), (1, 3, 1)] (q := 180) (ls' := [(0, a), (1, b), (9, 0), (1, c), (9, 0), (1, 0), (9, 0)]) (st' := [(1, c), (1, b)]) (by decide +kernel) rfl ?_
    refine zwW_lany (a := 6) (nx := 181) (by decide +kernel) (by omega) ?_
    intro v2 qv2
    have lv2 := qv2.1; have uv2 := qv2.2
    refine zwW_p [(2, 5, 1), (24, 194, 0), (1, 5, 1), (0, 1000000, 1)] (q := 199) (ls' := [(0, a), (1, b), (9, 0), (1, c), (9, 0), (1, v2), (9, 0)]) (st' := [(1, 1000000), (1, v2)]) (by decide +kernel) rfl ?_
    refine zwW_lmin (nx := 202) (by decide +kernel) rfl ?_
    intro v3 ev3
    refine zwW_p [(0, -1000000, 1)] (q := 205) (ls' := [(0, a), (1, b), (9, 0), (1, c), (9, 0), (1, v2), (9, 0)]) (st' := [(1, -1000000), (1, v3)]) (by decide +kernel) rfl ?_
    refine zwW_lmax (nx := 208) (by decide +kernel) rfl ?_
    intro v4 ev4
    refine zwW_l2i (nx := 209) (by decide +kernel) ⟨by omega, by omega⟩ ?_
    refine zwW_ret (nx := 210) (a := 0) (b := 0) (by decide +kernel) rfl (Or.inl rfl) ?_
    exact ⟨rfl, by omega⟩
  refine ⟨fun c5 => ?_, fun c5 => ?_⟩
  · show zwW _ _ _ 186 _ _ _ _
    refine zwW_p [(1, 1, 1), (1, 3, 1)] (q := 188) (ls' := [(0, a), (1, b), (9, 0), (1, c), (9, 0), (1, 0), (9, 0)]) (st' := [(1, c), (1, b)]) (by decide +kernel) rfl ?_
    refine zwW_lany (a := 5) (nx := 189) (by decide +kernel) (by omega) ?_
    intro v6 qv6
    have lv6 := qv6.1; have uv6 := qv6.2
    refine zwW_p [(2, 5, 1), (24, 194, 0), (1, 5, 1), (0, 1000000, 1)] (q := 199) (ls' := [(0, a), (1, b), (9, 0), (1, c), (9, 0), (1, v6), (9, 0)]) (st' := [(1, 1000000), (1, v6)]) (by decide +kernel) rfl ?_
    refine zwW_lmin (nx := 202) (by decide +kernel) rfl ?_
    intro v7 ev7
    refine zwW_p [(0, -1000000, 1)] (q := 205) (ls' := [(0, a), (1, b), (9, 0), (1, c), (9, 0), (1, v6), (9, 0)]) (st' := [(1, -1000000), (1, v7)]) (by decide +kernel) rfl ?_
    refine zwW_lmax (nx := 208) (by decide +kernel) rfl ?_
    intro v8 ev8
    refine zwW_l2i (nx := 209) (by decide +kernel) ⟨by omega, by omega⟩ ?_
    refine zwW_ret (nx := 210) (a := 0) (b := 0) (by decide +kernel) rfl (Or.inl rfl) ?_
    exact ⟨rfl, by omega⟩
  refine ⟨fun c9 => ?_, fun c9 => ?_⟩
  · show zwW _ _ _ 104 _ _ _ _
    refine zwW_p [(1, 1, 1), (1, 3, 1)] (q := 106) (ls' := [(0, a), (1, b), (9, 0), (1, c), (9, 0), (1, 0), (9, 0)]) (st' := [(1, c), (1, b)]) (by decide +kernel) rfl ?_
    refine zwW_lmw (nx := 107) (by decide +kernel) ?_
    intro v10 ev10 lv10 uv10
    refine zwW_p [(2, 5, 1), (24, 194, 0), (1, 5, 1), (0, 1000000, 1)] (q := 199) (ls' := [(0, a), (1, b), (9, 0), (1, c), (9, 0), (1, v10), (9, 0)]) (st' := [(1, 1000000), (1, v10)]) (by decide +kernel) rfl ?_
    refine zwW_lmin (nx := 202) (by decide +kernel) rfl ?_
    intro v11 ev11
    refine zwW_p [(0, -1000000, 1)] (q := 205) (ls' := [(0, a), (1, b), (9, 0), (1, c), (9, 0), (1, v10), (9, 0)]) (st' := [(1, -1000000), (1, v11)]) (by decide +kernel) rfl ?_
    refine zwW_lmax (nx := 208) (by decide +kernel) rfl ?_
    intro v12 ev12
    refine zwW_l2i (nx := 209) (by decide +kernel) ⟨by omega, by omega⟩ ?_
    refine zwW_ret (nx := 210) (a := 0) (b := 0) (by decide +kernel) rfl (Or.inl rfl) ?_
    exact ⟨rfl, by omega⟩
  refine ⟨fun c13 => ?_, fun c13 => ?_⟩
  · show zwW _ _ _ 88 _ _ _ _
    refine zwW_p [(1, 1, 1), (1, 3, 1)] (q := 90) (ls' := [(0, a), (1, b), (9, 0), (1, c), (9, 0), (1, 0), (9, 0)]) (st' := [(1, c), (1, b)]) (by decide +kernel) rfl ?_
    refine zwW_ladd (nx := 91) (by decide +kernel) ⟨by omega, by omega⟩ ?_
    refine zwW_p [(2, 5, 1), (24, 194, 0), (1, 5, 1), (0, 1000000, 1)] (q := 199) (ls' := [(0, a), (1, b), (9, 0), (1, c), (9, 0), (1, (b + c)), (9, 0)]) (st' := [(1, 1000000), (1, (b + c))]) (by decide +kernel) rfl ?_
    refine zwW_lmin (nx := 202) (by decide +kernel) rfl ?_
    intro v15 ev15
    refine zwW_p [(0, -1000000, 1)] (q := 205) (ls' := [(0, a), (1, b), (9, 0), (1, c), (9, 0), (1, (b + c)), (9, 0)]) (st' := [(1, -1000000), (1, v15)]) (by decide +kernel) rfl ?_
    refine zwW_lmax (nx := 208) (by decide +kernel) rfl ?_
    intro v16 ev16
    refine zwW_l2i (nx := 209) (by decide +kernel) ⟨by omega, by omega⟩ ?_
    refine zwW_ret (nx := 210) (a := 0) (b := 0) (by decide +kernel) rfl (Or.inl rfl) ?_
    exact ⟨rfl, by omega⟩
  refine ⟨fun c17 => ?_, fun c17 => ?_⟩
  · show zwW _ _ _ 96 _ _ _ _
    refine zwW_p [(1, 1, 1), (1, 3, 1)] (q := 98) (ls' := [(0, a), (1, b), (9, 0), (1, c), (9, 0), (1, 0), (9, 0)]) (st' := [(1, c), (1, b)]) (by decide +kernel) rfl ?_
    refine zwW_lsub (nx := 99) (by decide +kernel) ⟨by omega, by omega⟩ ?_
    refine zwW_p [(2, 5, 1), (24, 194, 0), (1, 5, 1), (0, 1000000, 1)] (q := 199) (ls' := [(0, a), (1, b), (9, 0), (1, c), (9, 0), (1, (b - c)), (9, 0)]) (st' := [(1, 1000000), (1, (b - c))]) (by decide +kernel) rfl ?_
    refine zwW_lmin (nx := 202) (by decide +kernel) rfl ?_
    intro v19 ev19
    refine zwW_p [(0, -1000000, 1)] (q := 205) (ls' := [(0, a), (1, b), (9, 0), (1, c), (9, 0), (1, (b - c)), (9, 0)]) (st' := [(1, -1000000), (1, v19)]) (by decide +kernel) rfl ?_
    refine zwW_lmax (nx := 208) (by decide +kernel) rfl ?_
    intro v20 ev20
    refine zwW_l2i (nx := 209) (by decide +kernel) ⟨by omega, by omega⟩ ?_
    refine zwW_ret (nx := 210) (a := 0) (b := 0) (by decide +kernel) rfl (Or.inl rfl) ?_
    exact ⟨rfl, by omega⟩
  refine ⟨fun c21 => ?_, fun c21 => ?_⟩
  · show zwW _ _ _ 112 _ _ _ _
    refine zwW_p [(1, 3, 1), (0, 0, 1)] (q := 114) (ls' := [(0, a), (1, b), (9, 0), (1, c), (9, 0), (1, 0), (9, 0)]) (st' := [(1, 0), (1, c)]) (by decide +kernel) rfl ?_
    refine zwlc_ne (q := 122) (nx := 118) (m := 115) (by decide +kernel) (by decide +kernel) (fun c22 => ?_) (fun c22 => ?_)
    · refine zwW_p [(1, 1, 1), (1, 3, 1)] (q := 124) (ls' := [(0, a), (1, b), (9, 0), (1, c), (9, 0), (1, 0), (9, 0)]) (st' := [(1, c), (1, b)]) (by decide +kernel) rfl ?_
      refine zwW_lany (a := 3) (nx := 125) (by decide +kernel) (by omega) ?_
      intro v23 qv23
      have lv23 := qv23.1; have uv23 := qv23.2
      refine zwW_p [(2, 5, 1), (24, 194, 0), (1, 5, 1), (0, 1000000, 1)] (q := 199) (ls' := [(0, a), (1, b), (9, 0), (1, c), (9, 0), (1, v23), (9, 0)]) (st' := [(1, 1000000), (1, v23)]) (by decide +kernel) rfl ?_
      refine zwW_lmin (nx := 202) (by decide +kernel) rfl ?_
      intro v24 ev24
      refine zwW_p [(0, -1000000, 1)] (q := 205) (ls' := [(0, a), (1, b), (9, 0), (1, c), (9, 0), (1, v23), (9, 0)]) (st' := [(1, -1000000), (1, v24)]) (by decide +kernel) rfl ?_
      refine zwW_lmax (nx := 208) (by decide +kernel) rfl ?_
      intro v25 ev25
      refine zwW_l2i (nx := 209) (by decide +kernel) ⟨by omega, by omega⟩ ?_
      refine zwW_ret (nx := 210) (a := 0) (b := 0) (by decide +kernel) rfl (Or.inl rfl) ?_
      exact ⟨rfl, by omega⟩
    · refine zwW_p [(0, 0, 1), (24, 125, 0), (2, 5, 1), (24, 194, 0), (1, 5, 1), (0, 1000000, 1)] (q := 199) (ls' := [(0, a), (1, b), (9, 0), (1, c), (9, 0), (1, 0), (9, 0)]) (st' := [(1, 1000000), (1, 0)]) (by decide +kernel) rfl ?_
      refine zwW_lmin (nx := 202) (by decide +kernel) rfl ?_
      intro v26 ev26
      refine zwW_p [(0, -1000000, 1)] (q := 205) (ls' := [(0, a), (1, b), (9, 0), (1, c), (9, 0), (1, 0), (9, 0)]) (st' := [(1, -1000000), (1, v26)]) (by decide +kernel) rfl ?_
      refine zwW_lmax (nx := 208) (by decide +kernel) rfl ?_
      intro v27 ev27
      refine zwW_l2i (nx := 209) (by decide +kernel) ⟨by omega, by omega⟩ ?_
      refine zwW_ret (nx := 210) (a := 0) (b := 0) (by decide +kernel) rfl (Or.inl rfl) ?_
      exact ⟨rfl, by omega⟩
  refine ⟨fun c28 => ?_, fun c28 => ?_⟩
  · show zwW _ _ _ 130 _ _ _ _
    refine zwW_p [(1, 1, 1), (1, 3, 1)] (q := 132) (ls' := [(0, a), (1, b), (9, 0), (1, c), (9, 0), (1, 0), (9, 0)]) (st' := [(1, c), (1, b)]) (by decide +kernel) rfl ?_
    refine zwlc_ge (q := 140) (nx := 136) (m := 133) (by decide +kernel) (by decide +kernel) (fun c29 => ?_) (fun c29 => ?_)
    · refine zwW_p [(0, 0, 1), (2, 5, 1), (24, 194, 0), (1, 5, 1), (0, 1000000, 1)] (q := 199) (ls' := [(0, a), (1, b), (9, 0), (1, c), (9, 0), (1, 0), (9, 0)]) (st' := [(1, 1000000), (1, 0)]) (by decide +kernel) rfl ?_
      refine zwW_lmin (nx := 202) (by decide +kernel) rfl ?_
      intro v30 ev30
      refine zwW_p [(0, -1000000, 1)] (q := 205) (ls' := [(0, a), (1, b), (9, 0), (1, c), (9, 0), (1, 0), (9, 0)]) (st' := [(1, -1000000), (1, v30)]) (by decide +kernel) rfl ?_
      refine zwW_lmax (nx := 208) (by decide +kernel) rfl ?_
      intro v31 ev31
      refine zwW_l2i (nx := 209) (by decide +kernel) ⟨by omega, by omega⟩ ?_
      refine zwW_ret (nx := 210) (a := 0) (b := 0) (by decide +kernel) rfl (Or.inl rfl) ?_
      exact ⟨rfl, by omega⟩
    · refine zwW_p [(0, 1, 1), (24, 141, 0), (2, 5, 1), (24, 194, 0), (1, 5, 1), (0, 1000000, 1)] (q := 199) (ls' := [(0, a), (1, b), (9, 0), (1, c), (9, 0), (1, 1), (9, 0)]) (st' := [(1, 1000000), (1, 1)]) (by decide +kernel) rfl ?_
      refine zwW_lmin (nx := 202) (by decide +kernel) rfl ?_
      intro v32 ev32
      refine zwW_p [(0, -1000000, 1)] (q := 205) (ls' := [(0, a), (1, b), (9, 0), (1, c), (9, 0), (1, 1), (9, 0)]) (st' := [(1, -1000000), (1, v32)]) (by decide +kernel) rfl ?_
      refine zwW_lmax (nx := 208) (by decide +kernel) rfl ?_
      intro v33 ev33
      refine zwW_l2i (nx := 209) (by decide +kernel) ⟨by omega, by omega⟩ ?_
      refine zwW_ret (nx := 210) (a := 0) (b := 0) (by decide +kernel) rfl (Or.inl rfl) ?_
      exact ⟨rfl, by omega⟩
  refine ⟨fun c34 => ?_, fun c34 => ?_⟩
  · show zwW _ _ _ 162 _ _ _ _
    refine zwW_p [(1, 1, 1), (1, 3, 1)] (q := 164) (ls' := [(0, a), (1, b), (9, 0), (1, c), (9, 0), (1, 0), (9, 0)]) (st' := [(1, c), (1, b)]) (by decide +kernel) rfl ?_
    refine zwlc_ne (q := 172) (nx := 168) (m := 165) (by decide +kernel) (by decide +kernel) (fun c35 => ?_) (fun c35 => ?_)
    · refine zwW_p [(0, 0, 1), (2, 5, 1), (24, 194, 0), (1, 5, 1), (0, 1000000, 1)] (q := 199) (ls' := [(0, a), (1, b), (9, 0), (1, c), (9, 0), (1, 0), (9, 0)]) (st' := [(1, 1000000), (1, 0)]) (by decide +kernel) rfl ?_
      refine zwW_lmin (nx := 202) (by decide +kernel) rfl ?_
      intro v36 ev36
      refine zwW_p [(0, -1000000, 1)] (q := 205) (ls' := [(0, a), (1, b), (9, 0), (1, c), (9, 0), (1, 0), (9, 0)]) (st' := [(1, -1000000), (1, v36)]) (by decide +kernel) rfl ?_
      refine zwW_lmax (nx := 208) (by decide +kernel) rfl ?_
      intro v37 ev37
      refine zwW_l2i (nx := 209) (by decide +kernel) ⟨by omega, by omega⟩ ?_
      refine zwW_ret (nx := 210) (a := 0) (b := 0) (by decide +kernel) rfl (Or.inl rfl) ?_
      exact ⟨rfl, by omega⟩
    · refine zwW_p [(0, 1, 1), (24, 173, 0), (2, 5, 1), (24, 194, 0), (1, 5, 1), (0, 1000000, 1)] (q := 199) (ls' := [(0, a), (1, b), (9, 0), (1, c), (9, 0), (1, 1), (9, 0)]) (st' := [(1, 1000000), (1, 1)]) (by decide +kernel) rfl ?_
      refine zwW_lmin (nx := 202) (by decide +kernel) rfl ?_
      intro v38 ev38
      refine zwW_p [(0, -1000000, 1)] (q := 205) (ls' := [(0, a), (1, b), (9, 0), (1, c), (9, 0), (1, 1), (9, 0)]) (st' := [(1, -1000000), (1, v38)]) (by decide +kernel) rfl ?_
      refine zwW_lmax (nx := 208) (by decide +kernel) rfl ?_
      intro v39 ev39
      refine zwW_l2i (nx := 209) (by decide +kernel) ⟨by omega, by omega⟩ ?_
      refine zwW_ret (nx := 210) (a := 0) (b := 0) (by decide +kernel) rfl (Or.inl rfl) ?_
      exact ⟨rfl, by omega⟩
  refine ⟨fun c40 => ?_, fun c40 => ?_⟩
  · show zwW _ _ _ 146 _ _ _ _
    refine zwW_p [(1, 1, 1), (1, 3, 1)] (q := 148) (ls' := [(0, a), (1, b), (9, 0), (1, c), (9, 0), (1, 0), (9, 0)]) (st' := [(1, c), (1, b)]) (by decide +kernel) rfl ?_
    refine zwlc_le (q := 156) (nx := 152) (m := 149) (by decide +kernel) (by decide +kernel) (fun c41 => ?_) (fun c41 => ?_)
    · refine zwW_p [(0, 0, 1), (2, 5, 1), (24, 194, 0), (1, 5, 1), (0, 1000000, 1)] (q := 199) (ls' := [(0, a), (1, b), (9, 0), (1, c), (9, 0), (1, 0), (9, 0)]) (st' := [(1, 1000000), (1, 0)]) (by decide +kernel) rfl ?_
      refine zwW_lmin (nx := 202) (by decide +kernel) rfl ?_
      intro v42 ev42
      refine zwW_p [(0, -1000000, 1)] (q := 205) (ls' := [(0, a), (1, b), (9, 0), (1, c), (9, 0), (1, 0), (9, 0)]) (st' := [(1, -1000000), (1, v42)]) (by decide +kernel) rfl ?_
      refine zwW_lmax (nx := 208) (by decide +kernel) rfl ?_
      intro v43 ev43
      refine zwW_l2i (nx := 209) (by decide +kernel) ⟨by omega, by omega⟩ ?_
      refine zwW_ret (nx := 210) (a := 0) (b := 0) (by decide +kernel) rfl (Or.inl rfl) ?_
      exact ⟨rfl, by omega⟩
    · refine zwW_p [(0, 1, 1), (24, 157, 0), (2, 5, 1), (24, 194, 0), (1, 5, 1), (0, 1000000, 1)] (q := 199) (ls' := [(0, a), (1, b), (9, 0), (1, c), (9, 0), (1, 1), (9, 0)]) (st' := [(1, 1000000), (1, 1)]) (by decide +kernel) rfl ?_
      refine zwW_lmin (nx := 202) (by decide +kernel) rfl ?_
      intro v44 ev44
      refine zwW_p [(0, -1000000, 1)] (q := 205) (ls' := [(0, a), (1, b), (9, 0), (1, c), (9, 0), (1, 1), (9, 0)]) (st' := [(1, -1000000), (1, v44)]) (by decide +kernel) rfl ?_
      refine zwW_lmax (nx := 208) (by decide +kernel) rfl ?_
      intro v45 ev45
      refine zwW_l2i (nx := 209) (by decide +kernel) ⟨by omega, by omega⟩ ?_
      refine zwW_ret (nx := 210) (a := 0) (b := 0) (by decide +kernel) rfl (Or.inl rfl) ?_
      exact ⟨rfl, by omega⟩
  show zwW _ _ _ 194 _ _ _ _
  refine zwW_p [(1, 5, 1), (0, 1000000, 1)] (q := 199) (ls' := [(0, a), (1, b), (9, 0), (1, c), (9, 0), (1, 0), (9, 0)]) (st' := [(1, 1000000), (1, 0)]) (by decide +kernel) rfl ?_
  refine zwW_lmin (nx := 202) (by decide +kernel) rfl ?_
  intro v46 ev46
  refine zwW_p [(0, -1000000, 1)] (q := 205) (ls' := [(0, a), (1, b), (9, 0), (1, c), (9, 0), (1, 0), (9, 0)]) (st' := [(1, -1000000), (1, v46)]) (by decide +kernel) rfl ?_
  refine zwW_lmax (nx := 208) (by decide +kernel) rfl ?_
  intro v47 ev47
  refine zwW_l2i (nx := 209) (by decide +kernel) ⟨by omega, by omega⟩ ?_
  refine zwW_ret (nx := 210) (a := 0) (b := 0) (by decide +kernel) rfl (Or.inl rfl) ?_
  exact ⟨rfl, by omega⟩
def msx224 : Zms := [(18, 18, 0, 400)]
-- WheelLand$Rules.run(LWheelLand$Sheet;I)I
theorem x224 {sc : List Int} (h : Hp) (C : CI h) (r a : Int) (G_r : gS h r) (q_a : -2147483648 ≤ a ∧ a ≤ 2147483647) : zwC sc 2 224 [(2, 13), (2, r), (0, a)] h (zwRt 0 (fun x g => CI g ∧ zXR msx224 (0) (0) h g ∧ (-2147483648 ≤ x ∧ x ≤ 2147483647))) := by
  refine zwC_of (D := 1) 7 (by decide +kernel) rfl (ls := [(2, 13), (2, r), (0, a), (9, 0), (9, 0), (9, 0), (9, 0)]) rfl ?_
  have lw_r := G_r.1
  have X : zXR msx224 0 0 h h := zXR.rf _ _
  refine zwW_p [(0, 0, 0), (2, 3, 0), (1, 1, 2), (1, 2, 0)] (q := 4) (ls' := [(2, 13), (2, r), (0, a), (0, 0), (9, 0), (9, 0), (9, 0)]) (st' := [(0, a), (2, r)]) (by decide +kernel) rfl ?_
  refine zwW_cv (op := 60) (k' := 206) (n := 1) (kd := 10) (m := 3) (nx := 7) (r := r) (tl := [(0, a)]) (st' := []) (by decide +kernel) rfl (by decide +kernel) G_r.2.1 (x206 h C r a G_r (by omega)) rfl ?_
  rintro v1 _ ⟨rfl, f2⟩
  refine zwW_p [(2, 4, 0), (1, 1, 2), (1, 4, 0)] (q := 12) (ls' := [(2, 13), (2, r), (0, a), (0, 0), (0, v1), (9, 0), (9, 0)]) (st' := [(0, v1), (2, r)]) (by decide +kernel) rfl ?_
  refine zwW_cv (op := 60) (k' := 255) (n := 1) (kd := 10) (m := 3) (nx := 15) (r := r) (tl := [(0, v1)]) (st' := []) (by decide +kernel) rfl (by decide +kernel) G_r.2.1 (x255 h C r v1 G_r (by omega)) rfl ?_
  rintro v3 _ ⟨rfl, f4⟩
  refine zwW_p [(2, 5, 0), (0, 0, 0), (2, 6, 0)] (q := 20) (ls' := [(2, 13), (2, r), (0, a), (0, 0), (0, v1), (0, v3), (0, 0)]) (st' := []) (by decide +kernel) rfl ?_
  have L5 : ∀ (n : Nat) (tL5 pL5 qL5 kL5 : Int) (hL5 : Hp), n = ((1000 - kL5)).toNat → (0 ≤ tL5 ∧ tL5 ≤ 400) → (-2147483648 ≤ pL5 ∧ pL5 ≤ 2147483647) → (-2147483648 ≤ qL5 ∧ qL5 ≤ 2147483647) → (0 ≤ kL5 ∧ kL5 ≤ 1000) → (gS hL5 r) → CI hL5 → zXR msx224 (0) (0) h hL5 → zwW sc (1) 224 20 [(2, 13), (2, r), (0, a), (0, tL5), (0, pL5), (0, qL5), (0, kL5)] [] hL5 (zwRt 0 (fun x g => CI g ∧ zXR msx224 (0) (0) h g ∧ (-2147483648 ≤ x ∧ x ≤ 2147483647))) := by
    intro n
    induction n using Nat.strongRecOn with
    | ind n IHL5 =>
      intro tL5 pL5 qL5 kL5 hL5 hnL5 iL5_0 iL5_1 iL5_2 iL5_3 gL5_0 ChL5 XhL5
      refine zwW_p [(1, 6, 0), (0, 400, 0)] (q := 25) (ls' := [(2, 13), (2, r), (0, a), (0, tL5), (0, pL5), (0, qL5), (0, kL5)]) (st' := [(0, 400), (0, kL5)]) (by decide +kernel) rfl ?_
      refine zwic_ge (q := 178) (nx := 28) (by decide +kernel) (fun c6 => ?_) (fun c6 => ?_)
      · refine zwW_p [(1, 3, 0)] (q := 179) (ls' := [(2, 13), (2, r), (0, a), (0, tL5), (0, pL5), (0, qL5), (0, kL5)]) (st' := [(0, tL5)]) (by decide +kernel) rfl ?_
        refine zwif_le (q := 191) (nx := 182) (by decide +kernel) (fun c7 => ?_) (fun c7 => ?_)
        · refine zwW_p [(0, 0, 0)] (q := 192) (ls' := [(2, 13), (2, r), (0, a), (0, tL5), (0, pL5), (0, qL5), (0, kL5)]) (st' := [(0, 0)]) (by decide +kernel) rfl ?_
          refine zwW_ret (nx := 193) (a := 0) (b := 0) (by decide +kernel) rfl (Or.inl rfl) ?_
          exact ⟨ChL5, XhL5.le (by decide) (by decide), by omega⟩
        · refine zwW_p [(1, 0, 2)] (q := 183) (ls' := [(2, 13), (2, r), (0, a), (0, tL5), (0, pL5), (0, qL5), (0, kL5)]) (st' := [(2, 13)]) (by decide +kernel) rfl ?_
          refine zwW_gc ChL5.1 (kd := 9) (bn := 5) (n := 6) (c := 18) (nx := 186) (by decide +kernel) ?_
          refine zwW_p [(0, 0, 0)] (q := 187) (ls' := [(2, 13), (2, r), (0, a), (0, tL5), (0, pL5), (0, qL5), (0, kL5)]) (st' := [(0, 0), (2, 18)]) (by decide +kernel) rfl ?_
          refine zwW_al ChL5.1 (a1 := 18) (a2 := 18) (kd := 20) (n := 400) (t := 0) (lo := -2147483648) (hi := 2147483647) (nx := 188) (by decide +kernel) ⟨by decide, by decide⟩ ⟨by decide, by decide⟩ ?_
          intro v8 ev8 lv8 uv8
          refine zwW_p [(24, 192, 0)] (q := 192) (ls' := [(2, 13), (2, r), (0, a), (0, tL5), (0, pL5), (0, qL5), (0, kL5)]) (st' := [(0, v8)]) (by decide +kernel) rfl ?_
          refine zwW_ret (nx := 193) (a := 0) (b := 0) (by decide +kernel) rfl (Or.inl rfl) ?_
          exact ⟨ChL5, XhL5.le (by decide) (by decide), by omega⟩
      · refine zwW_p [(1, 5, 0), (0, -21, 0)] (q := 32) (ls' := [(2, 13), (2, r), (0, a), (0, tL5), (0, pL5), (0, qL5), (0, kL5)]) (st' := [(0, -21), (0, qL5)]) (by decide +kernel) rfl ?_
        refine zwic_eq (q := 178) (nx := 35) (by decide +kernel) (fun c9 => ?_) (fun c9 => ?_)
        · refine zwW_p [(1, 3, 0)] (q := 179) (ls' := [(2, 13), (2, r), (0, a), (0, tL5), (0, pL5), (0, qL5), (0, kL5)]) (st' := [(0, tL5)]) (by decide +kernel) rfl ?_
          refine zwif_le (q := 191) (nx := 182) (by decide +kernel) (fun c10 => ?_) (fun c10 => ?_)
          · refine zwW_p [(0, 0, 0)] (q := 192) (ls' := [(2, 13), (2, r), (0, a), (0, tL5), (0, pL5), (0, qL5), (0, kL5)]) (st' := [(0, 0)]) (by decide +kernel) rfl ?_
            refine zwW_ret (nx := 193) (a := 0) (b := 0) (by decide +kernel) rfl (Or.inl rfl) ?_
            exact ⟨ChL5, XhL5.le (by decide) (by decide), by omega⟩
          · refine zwW_p [(1, 0, 2)] (q := 183) (ls' := [(2, 13), (2, r), (0, a), (0, tL5), (0, pL5), (0, qL5), (0, kL5)]) (st' := [(2, 13)]) (by decide +kernel) rfl ?_
            refine zwW_gc ChL5.1 (kd := 9) (bn := 5) (n := 6) (c := 18) (nx := 186) (by decide +kernel) ?_
            refine zwW_p [(0, 0, 0)] (q := 187) (ls' := [(2, 13), (2, r), (0, a), (0, tL5), (0, pL5), (0, qL5), (0, kL5)]) (st' := [(0, 0), (2, 18)]) (by decide +kernel) rfl ?_
            refine zwW_al ChL5.1 (a1 := 18) (a2 := 18) (kd := 20) (n := 400) (t := 0) (lo := -2147483648) (hi := 2147483647) (nx := 188) (by decide +kernel) ⟨by decide, by decide⟩ ⟨by decide, by decide⟩ ?_
            intro v11 ev11 lv11 uv11
            refine zwW_p [(24, 192, 0)] (q := 192) (ls' := [(2, 13), (2, r), (0, a), (0, tL5), (0, pL5), (0, qL5), (0, kL5)]) (st' := [(0, v11)]) (by decide +kernel) rfl ?_
            refine zwW_ret (nx := 193) (a := 0) (b := 0) (by decide +kernel) rfl (Or.inl rfl) ?_
            exact ⟨ChL5, XhL5.le (by decide) (by decide), by omega⟩
        · refine zwW_p [(1, 3, 0), (1, 0, 2)] (q := 37) (ls' := [(2, 13), (2, r), (0, a), (0, tL5), (0, pL5), (0, qL5), (0, kL5)]) (st' := [(2, 13), (0, tL5)]) (by decide +kernel) rfl ?_
          refine zwW_gc ChL5.1 (kd := 9) (bn := 5) (n := 6) (c := 18) (nx := 40) (by decide +kernel) ?_
          refine zwW_len (kd := 20) (n := 400) (nx := 41) (by decide +kernel) (ChL5.1.s (a1 := 18) (a2 := 18) (by decide +kernel) (by omega) (by omega)) rfl ?_
          refine zwic_ge (q := 178) (nx := 44) (by decide +kernel) (fun c12 => ?_) (fun c12 => ?_)
          · refine zwW_p [(1, 3, 0)] (q := 179) (ls' := [(2, 13), (2, r), (0, a), (0, tL5), (0, pL5), (0, qL5), (0, kL5)]) (st' := [(0, tL5)]) (by decide +kernel) rfl ?_
            refine zwif_le (q := 191) (nx := 182) (by decide +kernel) (fun c13 => ?_) (fun c13 => ?_)
            · exfalso; omega
            · refine zwW_p [(1, 0, 2)] (q := 183) (ls' := [(2, 13), (2, r), (0, a), (0, tL5), (0, pL5), (0, qL5), (0, kL5)]) (st' := [(2, 13)]) (by decide +kernel) rfl ?_
              refine zwW_gc ChL5.1 (kd := 9) (bn := 5) (n := 6) (c := 18) (nx := 186) (by decide +kernel) ?_
              refine zwW_p [(0, 0, 0)] (q := 187) (ls' := [(2, 13), (2, r), (0, a), (0, tL5), (0, pL5), (0, qL5), (0, kL5)]) (st' := [(0, 0), (2, 18)]) (by decide +kernel) rfl ?_
              refine zwW_al ChL5.1 (a1 := 18) (a2 := 18) (kd := 20) (n := 400) (t := 0) (lo := -2147483648) (hi := 2147483647) (nx := 188) (by decide +kernel) ⟨by decide, by decide⟩ ⟨by decide, by decide⟩ ?_
              intro v14 ev14 lv14 uv14
              refine zwW_p [(24, 192, 0)] (q := 192) (ls' := [(2, 13), (2, r), (0, a), (0, tL5), (0, pL5), (0, qL5), (0, kL5)]) (st' := [(0, v14)]) (by decide +kernel) rfl ?_
              refine zwW_ret (nx := 193) (a := 0) (b := 0) (by decide +kernel) rfl (Or.inl rfl) ?_
              exact ⟨ChL5, XhL5.le (by decide) (by decide), by omega⟩
          · refine zwW_p [(1, 5, 0)] (q := 46) (ls' := [(2, 13), (2, r), (0, a), (0, tL5), (0, pL5), (0, qL5), (0, kL5)]) (st' := [(0, qL5)]) (by decide +kernel) rfl ?_
            refine zwif_lt (q := 63) (nx := 49) (by decide +kernel) (fun c15 => ?_) (fun c15 => ?_)
            · refine zwW_p [(1, 5, 0), (0, -13, 0)] (q := 67) (ls' := [(2, 13), (2, r), (0, a), (0, tL5), (0, pL5), (0, qL5), (0, kL5)]) (st' := [(0, -13), (0, qL5)]) (by decide +kernel) rfl ?_
              refine zwic_lt (q := 91) (nx := 70) (by decide +kernel) (fun c16 => ?_) (fun c16 => ?_)
              · refine zwW_p [(1, 5, 0), (0, -20, 0)] (q := 95) (ls' := [(2, 13), (2, r), (0, a), (0, tL5), (0, pL5), (0, qL5), (0, kL5)]) (st' := [(0, -20), (0, qL5)]) (by decide +kernel) rfl ?_
                refine zwic_ne (q := 123) (nx := 98) (by decide +kernel) (fun c17 => ?_) (fun c17 => ?_)
                · refine zwW_p [(1, 3, 0), (0, 1, 0)] (q := 125) (ls' := [(2, 13), (2, r), (0, a), (0, tL5), (0, pL5), (0, qL5), (0, kL5)]) (st' := [(0, 1), (0, tL5)]) (by decide +kernel) rfl ?_
                  refine zwic_le (q := 161) (nx := 128) (by decide +kernel) (fun c18 => ?_) (fun c18 => ?_)
                  · refine zwW_icw (i := 4) (c := 1) (x := pL5) (nx := 164) (fun z => [(2, 13), (2, r), (0, a), (0, tL5), (0, z), (0, qL5), (0, kL5)]) (by decide +kernel) rfl (fun _ => rfl) ?_
                    intro v19 ev19 lv19 uv19
                    refine zwW_p [(1, 1, 2), (1, 4, 0)] (q := 167) (ls' := [(2, 13), (2, r), (0, a), (0, tL5), (0, v19), (0, qL5), (0, kL5)]) (st' := [(0, v19), (2, r)]) (by decide +kernel) rfl ?_
                    refine zwW_cv (op := 60) (k' := 255) (n := 1) (kd := 10) (m := 3) (nx := 170) (r := r) (tl := [(0, v19)]) (st' := []) (by decide +kernel) rfl (by decide +kernel) gL5_0.2.1 (x255 hL5 ChL5 r v19 gL5_0 (by omega)) rfl ?_
                    rintro v20 _ ⟨rfl, f21⟩
                    refine zwW_p [(2, 5, 0)] (q := 172) (ls' := [(2, 13), (2, r), (0, a), (0, tL5), (0, v19), (0, v20), (0, kL5)]) (st' := []) (by decide +kernel) rfl ?_
                    refine zwW_inc (i := 6) (c := 1) (x := kL5) (nx := 175) (by decide +kernel) rfl ⟨by omega, by omega⟩ (ls' := [(2, 13), (2, r), (0, a), (0, tL5), (0, v19), (0, v20), (0, (kL5 + 1))]) rfl ?_
                    refine zwW_p [(24, 20, 0)] (q := 20) (ls' := [(2, 13), (2, r), (0, a), (0, tL5), (0, v19), (0, v20), (0, (kL5 + 1))]) (st' := []) (by decide +kernel) rfl ?_
                    exact IHL5 ((1000 - (kL5 + 1))).toNat (by omega) tL5 v19 v20 (kL5 + 1) hL5 rfl (by omega) (by omega) (by omega) (by omega) gL5_0 ChL5 (XhL5.le (by decide) (by decide))
                  · refine zwW_inc (i := 3) (c := -1) (x := tL5) (nx := 131) (by decide +kernel) rfl ⟨by omega, by omega⟩ (ls' := [(2, 13), (2, r), (0, a), (0, (tL5 + (-1))), (0, pL5), (0, qL5), (0, kL5)]) rfl ?_
                    refine zwW_p [(1, 0, 2)] (q := 132) (ls' := [(2, 13), (2, r), (0, a), (0, (tL5 + (-1))), (0, pL5), (0, qL5), (0, kL5)]) (st' := [(2, 13)]) (by decide +kernel) rfl ?_
                    refine zwW_gc ChL5.1 (kd := 9) (bn := 5) (n := 6) (c := 18) (nx := 135) (by decide +kernel) ?_
                    refine zwW_p [(1, 3, 0), (0, 1, 0)] (q := 137) (ls' := [(2, 13), (2, r), (0, a), (0, (tL5 + (-1))), (0, pL5), (0, qL5), (0, kL5)]) (st' := [(0, 1), (0, (tL5 + (-1))), (2, 18)]) (by decide +kernel) rfl ?_
                    refine zwW_sub (nx := 138) (by decide +kernel) ⟨by omega, by omega⟩ ?_
                    refine zwW_p [(1, 5, 0)] (q := 140) (ls' := [(2, 13), (2, r), (0, a), (0, (tL5 + (-1))), (0, pL5), (0, qL5), (0, kL5)]) (st' := [(0, qL5), (0, ((tL5 + (-1)) - 1)), (2, 18)]) (by decide +kernel) rfl ?_
                    refine zwW_ngw (nx := 141) (by decide +kernel) ?_
                    intro v22 ev22 lv22 uv22
                    refine zwW_p [(1, 0, 2)] (q := 142) (ls' := [(2, 13), (2, r), (0, a), (0, (tL5 + (-1))), (0, pL5), (0, qL5), (0, kL5)]) (st' := [(2, 13), (0, v22), (0, ((tL5 + (-1)) - 1)), (2, 18)]) (by decide +kernel) rfl ?_
                    refine zwW_gc ChL5.1 (kd := 9) (bn := 5) (n := 6) (c := 18) (nx := 145) (by decide +kernel) ?_
                    refine zwW_p [(1, 3, 0), (0, 1, 0)] (q := 147) (ls' := [(2, 13), (2, r), (0, a), (0, (tL5 + (-1))), (0, pL5), (0, qL5), (0, kL5)]) (st' := [(0, 1), (0, (tL5 + (-1))), (2, 18), (0, v22), (0, ((tL5 + (-1)) - 1)), (2, 18)]) (by decide +kernel) rfl ?_
                    refine zwW_sub (nx := 148) (by decide +kernel) ⟨by omega, by omega⟩ ?_
                    refine zwW_al ChL5.1 (a1 := 18) (a2 := 18) (kd := 20) (n := 400) (t := 0) (lo := -2147483648) (hi := 2147483647) (nx := 149) (by decide +kernel) ⟨by decide, by decide⟩ ⟨by omega, by omega⟩ ?_
                    intro v23 ev23 lv23 uv23
                    refine zwW_p [(7, 0, 0), (1, 0, 2)] (q := 151) (ls' := [(2, 13), (2, r), (0, a), (0, (tL5 + (-1))), (0, pL5), (0, qL5), (0, kL5)]) (st' := [(2, 13), (1, v23), (0, v22), (0, ((tL5 + (-1)) - 1)), (2, 18)]) (by decide +kernel) rfl ?_
                    refine zwW_gc ChL5.1 (kd := 9) (bn := 5) (n := 6) (c := 18) (nx := 154) (by decide +kernel) ?_
                    refine zwW_p [(1, 3, 0)] (q := 155) (ls' := [(2, 13), (2, r), (0, a), (0, (tL5 + (-1))), (0, pL5), (0, qL5), (0, kL5)]) (st' := [(0, (tL5 + (-1))), (2, 18), (1, v23), (0, v22), (0, ((tL5 + (-1)) - 1)), (2, 18)]) (by decide +kernel) rfl ?_
                    refine zwW_al ChL5.1 (a1 := 18) (a2 := 18) (kd := 20) (n := 400) (t := 0) (lo := -2147483648) (hi := 2147483647) (nx := 156) (by decide +kernel) ⟨by decide, by decide⟩ ⟨by omega, by omega⟩ ?_
                    intro v24 ev24 lv24 uv24
                    refine zwW_p [(7, 0, 0)] (q := 157) (ls' := [(2, 13), (2, r), (0, a), (0, (tL5 + (-1))), (0, pL5), (0, qL5), (0, kL5)]) (st' := [(1, v24), (1, v23), (0, v22), (0, ((tL5 + (-1)) - 1)), (2, 18)]) (by decide +kernel) rfl ?_
                    refine zwW_cs (k' := 256) (n := 3) (nx := 160) (as := [(0, v22), (1, v23), (1, v24)]) (st' := [(0, ((tL5 + (-1)) - 1)), (2, 18)]) (by decide +kernel) rfl (x256 hL5 ChL5 v22 v23 v24 (by omega) (by omega) (by omega)) rfl ?_
                    rintro v25 _ ⟨rfl, f26⟩
                    refine zwW_as ChL5.1 (a1 := 18) (a2 := 18) (n := 400) (lo := -2147483648) (hi := 2147483647) (nx := 161) (by decide +kernel) ⟨by decide, by decide⟩ ⟨by omega, by omega⟩ ⟨by omega, by omega⟩ ?_
                    intro h27 eh27 Ih27
                    have Ch27 : CI h27 := ChL5.wc eh27 Ih27 (by decide) (by decide)
                    have Qh27 : zXR [(18, 18, 0, 400)] 0 0 hL5 h27 := zXR.wc eh27 rfl ⟨by decide, by decide, Or.inl (by decide)⟩ ⟨by omega, by omega⟩
                    have Xh27 : zXR msx224 (0) (0) h h27 := XhL5.tr (c2 := 0) (s2 := 0) Qh27 (by decide +kernel) (by decide) (by decide)
                    have Gh27_0 : gS h27 r := gL5_0.x Qh27
                    refine zwW_icw (i := 4) (c := 1) (x := pL5) (nx := 164) (fun z => [(2, 13), (2, r), (0, a), (0, (tL5 + (-1))), (0, z), (0, qL5), (0, kL5)]) (by decide +kernel) rfl (fun _ => rfl) ?_
                    intro v28 ev28 lv28 uv28
                    refine zwW_p [(1, 1, 2), (1, 4, 0)] (q := 167) (ls' := [(2, 13), (2, r), (0, a), (0, (tL5 + (-1))), (0, v28), (0, qL5), (0, kL5)]) (st' := [(0, v28), (2, r)]) (by decide +kernel) rfl ?_
                    refine zwW_cv (op := 60) (k' := 255) (n := 1) (kd := 10) (m := 3) (nx := 170) (r := r) (tl := [(0, v28)]) (st' := []) (by decide +kernel) rfl (by decide +kernel) Gh27_0.2.1 (x255 h27 Ch27 r v28 Gh27_0 (by omega)) rfl ?_
                    rintro v29 _ ⟨rfl, f30⟩
                    refine zwW_p [(2, 5, 0)] (q := 172) (ls' := [(2, 13), (2, r), (0, a), (0, (tL5 + (-1))), (0, v28), (0, v29), (0, kL5)]) (st' := []) (by decide +kernel) rfl ?_
                    refine zwW_inc (i := 6) (c := 1) (x := kL5) (nx := 175) (by decide +kernel) rfl ⟨by omega, by omega⟩ (ls' := [(2, 13), (2, r), (0, a), (0, (tL5 + (-1))), (0, v28), (0, v29), (0, (kL5 + 1))]) rfl ?_
                    refine zwW_p [(24, 20, 0)] (q := 20) (ls' := [(2, 13), (2, r), (0, a), (0, (tL5 + (-1))), (0, v28), (0, v29), (0, (kL5 + 1))]) (st' := []) (by decide +kernel) rfl ?_
                    exact IHL5 ((1000 - (kL5 + 1))).toNat (by omega) (tL5 + (-1)) v28 v29 (kL5 + 1) h27 rfl (by omega) (by omega) (by omega) (by omega) Gh27_0 Ch27 (Xh27.le (by decide) (by decide))
                · refine zwW_p [(1, 3, 0)] (q := 99) (ls' := [(2, 13), (2, r), (0, a), (0, tL5), (0, pL5), (0, qL5), (0, kL5)]) (st' := [(0, tL5)]) (by decide +kernel) rfl ?_
                  refine zwif_le (q := 123) (nx := 102) (by decide +kernel) (fun c31 => ?_) (fun c31 => ?_)
                  · refine zwW_p [(1, 3, 0), (0, 1, 0)] (q := 125) (ls' := [(2, 13), (2, r), (0, a), (0, tL5), (0, pL5), (0, qL5), (0, kL5)]) (st' := [(0, 1), (0, tL5)]) (by decide +kernel) rfl ?_
                    refine zwic_le (q := 161) (nx := 128) (by decide +kernel) (fun c32 => ?_) (fun c32 => ?_)
                    · refine zwW_icw (i := 4) (c := 1) (x := pL5) (nx := 164) (fun z => [(2, 13), (2, r), (0, a), (0, tL5), (0, z), (0, qL5), (0, kL5)]) (by decide +kernel) rfl (fun _ => rfl) ?_
                      intro v33 ev33 lv33 uv33
                      refine zwW_p [(1, 1, 2), (1, 4, 0)] (q := 167) (ls' := [(2, 13), (2, r), (0, a), (0, tL5), (0, v33), (0, qL5), (0, kL5)]) (st' := [(0, v33), (2, r)]) (by decide +kernel) rfl ?_
                      refine zwW_cv (op := 60) (k' := 255) (n := 1) (kd := 10) (m := 3) (nx := 170) (r := r) (tl := [(0, v33)]) (st' := []) (by decide +kernel) rfl (by decide +kernel) gL5_0.2.1 (x255 hL5 ChL5 r v33 gL5_0 (by omega)) rfl ?_
                      rintro v34 _ ⟨rfl, f35⟩
                      refine zwW_p [(2, 5, 0)] (q := 172) (ls' := [(2, 13), (2, r), (0, a), (0, tL5), (0, v33), (0, v34), (0, kL5)]) (st' := []) (by decide +kernel) rfl ?_
                      refine zwW_inc (i := 6) (c := 1) (x := kL5) (nx := 175) (by decide +kernel) rfl ⟨by omega, by omega⟩ (ls' := [(2, 13), (2, r), (0, a), (0, tL5), (0, v33), (0, v34), (0, (kL5 + 1))]) rfl ?_
                      refine zwW_p [(24, 20, 0)] (q := 20) (ls' := [(2, 13), (2, r), (0, a), (0, tL5), (0, v33), (0, v34), (0, (kL5 + 1))]) (st' := []) (by decide +kernel) rfl ?_
                      exact IHL5 ((1000 - (kL5 + 1))).toNat (by omega) tL5 v33 v34 (kL5 + 1) hL5 rfl (by omega) (by omega) (by omega) (by omega) gL5_0 ChL5 (XhL5.le (by decide) (by decide))
                    · exfalso; omega
                  · refine zwW_p [(1, 0, 2)] (q := 103) (ls' := [(2, 13), (2, r), (0, a), (0, tL5), (0, pL5), (0, qL5), (0, kL5)]) (st' := [(2, 13)]) (by decide +kernel) rfl ?_
                    refine zwW_gc ChL5.1 (kd := 9) (bn := 5) (n := 6) (c := 18) (nx := 106) (by decide +kernel) ?_
                    refine zwW_p [(1, 3, 0), (0, 1, 0)] (q := 108) (ls' := [(2, 13), (2, r), (0, a), (0, tL5), (0, pL5), (0, qL5), (0, kL5)]) (st' := [(0, 1), (0, tL5), (2, 18)]) (by decide +kernel) rfl ?_
                    refine zwW_sub (nx := 109) (by decide +kernel) ⟨by omega, by omega⟩ ?_
                    refine zwW_p [(0, 1, 0), (1, 0, 2)] (q := 111) (ls' := [(2, 13), (2, r), (0, a), (0, tL5), (0, pL5), (0, qL5), (0, kL5)]) (st' := [(2, 13), (0, 1), (0, (tL5 - 1)), (2, 18)]) (by decide +kernel) rfl ?_
                    refine zwW_gc ChL5.1 (kd := 9) (bn := 5) (n := 6) (c := 18) (nx := 114) (by decide +kernel) ?_
                    refine zwW_p [(1, 3, 0), (0, 1, 0)] (q := 116) (ls' := [(2, 13), (2, r), (0, a), (0, tL5), (0, pL5), (0, qL5), (0, kL5)]) (st' := [(0, 1), (0, tL5), (2, 18), (0, 1), (0, (tL5 - 1)), (2, 18)]) (by decide +kernel) rfl ?_
                    refine zwW_sub (nx := 117) (by decide +kernel) ⟨by omega, by omega⟩ ?_
                    refine zwW_al ChL5.1 (a1 := 18) (a2 := 18) (kd := 20) (n := 400) (t := 0) (lo := -2147483648) (hi := 2147483647) (nx := 118) (by decide +kernel) ⟨by decide, by decide⟩ ⟨by omega, by omega⟩ ?_
                    intro v36 ev36 lv36 uv36
                    refine zwW_sbw (nx := 119) (by decide +kernel) ?_
                    intro v37 ev37 lv37 uv37
                    refine zwW_as ChL5.1 (a1 := 18) (a2 := 18) (n := 400) (lo := -2147483648) (hi := 2147483647) (nx := 120) (by decide +kernel) ⟨by decide, by decide⟩ ⟨by omega, by omega⟩ ⟨by omega, by omega⟩ ?_
                    intro h38 eh38 Ih38
                    have Ch38 : CI h38 := ChL5.wc eh38 Ih38 (by decide) (by decide)
                    have Qh38 : zXR [(18, 18, 0, 400)] 0 0 hL5 h38 := zXR.wc eh38 rfl ⟨by decide, by decide, Or.inl (by decide)⟩ ⟨by omega, by omega⟩
                    have Xh38 : zXR msx224 (0) (0) h h38 := XhL5.tr (c2 := 0) (s2 := 0) Qh38 (by decide +kernel) (by decide) (by decide)
                    have Gh38_0 : gS h38 r := gL5_0.x Qh38
                    refine zwW_p [(24, 161, 0)] (q := 161) (ls' := [(2, 13), (2, r), (0, a), (0, tL5), (0, pL5), (0, qL5), (0, kL5)]) (st' := []) (by decide +kernel) rfl ?_
                    refine zwW_icw (i := 4) (c := 1) (x := pL5) (nx := 164) (fun z => [(2, 13), (2, r), (0, a), (0, tL5), (0, z), (0, qL5), (0, kL5)]) (by decide +kernel) rfl (fun _ => rfl) ?_
                    intro v39 ev39 lv39 uv39
                    refine zwW_p [(1, 1, 2), (1, 4, 0)] (q := 167) (ls' := [(2, 13), (2, r), (0, a), (0, tL5), (0, v39), (0, qL5), (0, kL5)]) (st' := [(0, v39), (2, r)]) (by decide +kernel) rfl ?_
                    refine zwW_cv (op := 60) (k' := 255) (n := 1) (kd := 10) (m := 3) (nx := 170) (r := r) (tl := [(0, v39)]) (st' := []) (by decide +kernel) rfl (by decide +kernel) Gh38_0.2.1 (x255 h38 Ch38 r v39 Gh38_0 (by omega)) rfl ?_
                    rintro v40 _ ⟨rfl, f41⟩
                    refine zwW_p [(2, 5, 0)] (q := 172) (ls' := [(2, 13), (2, r), (0, a), (0, tL5), (0, v39), (0, v40), (0, kL5)]) (st' := []) (by decide +kernel) rfl ?_
                    refine zwW_inc (i := 6) (c := 1) (x := kL5) (nx := 175) (by decide +kernel) rfl ⟨by omega, by omega⟩ (ls' := [(2, 13), (2, r), (0, a), (0, tL5), (0, v39), (0, v40), (0, (kL5 + 1))]) rfl ?_
                    refine zwW_p [(24, 20, 0)] (q := 20) (ls' := [(2, 13), (2, r), (0, a), (0, tL5), (0, v39), (0, v40), (0, (kL5 + 1))]) (st' := []) (by decide +kernel) rfl ?_
                    exact IHL5 ((1000 - (kL5 + 1))).toNat (by omega) tL5 v39 v40 (kL5 + 1) h38 rfl (by omega) (by omega) (by omega) (by omega) Gh38_0 Ch38 (Xh38.le (by decide) (by decide))
              · refine zwW_p [(1, 0, 2)] (q := 71) (ls' := [(2, 13), (2, r), (0, a), (0, tL5), (0, pL5), (0, qL5), (0, kL5)]) (st' := [(2, 13)]) (by decide +kernel) rfl ?_
                refine zwW_gc ChL5.1 (kd := 9) (bn := 5) (n := 6) (c := 18) (nx := 74) (by decide +kernel) ?_
                refine zwW_p [(1, 3, 0), (1, 0, 2)] (q := 76) (ls' := [(2, 13), (2, r), (0, a), (0, tL5), (0, pL5), (0, qL5), (0, kL5)]) (st' := [(2, 13), (0, tL5), (2, 18)]) (by decide +kernel) rfl ?_
                refine zwW_gc ChL5.1 (kd := 9) (bn := 4) (n := 6) (c := 17) (nx := 79) (by decide +kernel) ?_
                refine zwW_p [(0, -1, 0), (1, 5, 0)] (q := 82) (ls' := [(2, 13), (2, r), (0, a), (0, tL5), (0, pL5), (0, qL5), (0, kL5)]) (st' := [(0, qL5), (0, -1), (2, 17), (0, tL5), (2, 18)]) (by decide +kernel) rfl ?_
                refine zwW_sub (nx := 83) (by decide +kernel) ⟨by omega, by omega⟩ ?_
                refine zwW_al ChL5.1 (a1 := 17) (a2 := 17) (kd := 20) (n := 13) (t := 0) (lo := -2147483648) (hi := 2147483647) (nx := 84) (by decide +kernel) ⟨by decide, by decide⟩ ⟨by omega, by omega⟩ ?_
                intro v42 ev42 lv42 uv42
                refine zwW_as ChL5.1 (a1 := 18) (a2 := 18) (n := 400) (lo := -2147483648) (hi := 2147483647) (nx := 85) (by decide +kernel) ⟨by decide, by decide⟩ ⟨by omega, by omega⟩ ⟨by omega, by omega⟩ ?_
                intro h43 eh43 Ih43
                have Ch43 : CI h43 := ChL5.wc eh43 Ih43 (by decide) (by decide)
                have Qh43 : zXR [(18, 18, 0, 400)] 0 0 hL5 h43 := zXR.wc eh43 rfl ⟨by decide, by decide, Or.inl (by decide)⟩ ⟨by omega, by omega⟩
                have Xh43 : zXR msx224 (0) (0) h h43 := XhL5.tr (c2 := 0) (s2 := 0) Qh43 (by decide +kernel) (by decide) (by decide)
                have Gh43_0 : gS h43 r := gL5_0.x Qh43
                refine zwW_inc (i := 3) (c := 1) (x := tL5) (nx := 88) (by decide +kernel) rfl ⟨by omega, by omega⟩ (ls' := [(2, 13), (2, r), (0, a), (0, (tL5 + 1)), (0, pL5), (0, qL5), (0, kL5)]) rfl ?_
                refine zwW_p [(24, 161, 0)] (q := 161) (ls' := [(2, 13), (2, r), (0, a), (0, (tL5 + 1)), (0, pL5), (0, qL5), (0, kL5)]) (st' := []) (by decide +kernel) rfl ?_
                refine zwW_icw (i := 4) (c := 1) (x := pL5) (nx := 164) (fun z => [(2, 13), (2, r), (0, a), (0, (tL5 + 1)), (0, z), (0, qL5), (0, kL5)]) (by decide +kernel) rfl (fun _ => rfl) ?_
                intro v44 ev44 lv44 uv44
                refine zwW_p [(1, 1, 2), (1, 4, 0)] (q := 167) (ls' := [(2, 13), (2, r), (0, a), (0, (tL5 + 1)), (0, v44), (0, qL5), (0, kL5)]) (st' := [(0, v44), (2, r)]) (by decide +kernel) rfl ?_
                refine zwW_cv (op := 60) (k' := 255) (n := 1) (kd := 10) (m := 3) (nx := 170) (r := r) (tl := [(0, v44)]) (st' := []) (by decide +kernel) rfl (by decide +kernel) Gh43_0.2.1 (x255 h43 Ch43 r v44 Gh43_0 (by omega)) rfl ?_
                rintro v45 _ ⟨rfl, f46⟩
                refine zwW_p [(2, 5, 0)] (q := 172) (ls' := [(2, 13), (2, r), (0, a), (0, (tL5 + 1)), (0, v44), (0, v45), (0, kL5)]) (st' := []) (by decide +kernel) rfl ?_
                refine zwW_inc (i := 6) (c := 1) (x := kL5) (nx := 175) (by decide +kernel) rfl ⟨by omega, by omega⟩ (ls' := [(2, 13), (2, r), (0, a), (0, (tL5 + 1)), (0, v44), (0, v45), (0, (kL5 + 1))]) rfl ?_
                refine zwW_p [(24, 20, 0)] (q := 20) (ls' := [(2, 13), (2, r), (0, a), (0, (tL5 + 1)), (0, v44), (0, v45), (0, (kL5 + 1))]) (st' := []) (by decide +kernel) rfl ?_
                exact IHL5 ((1000 - (kL5 + 1))).toNat (by omega) (tL5 + 1) v44 v45 (kL5 + 1) h43 rfl (by omega) (by omega) (by omega) (by omega) Gh43_0 Ch43 (Xh43.le (by decide) (by decide))
            · refine zwW_p [(1, 0, 2)] (q := 50) (ls' := [(2, 13), (2, r), (0, a), (0, tL5), (0, pL5), (0, qL5), (0, kL5)]) (st' := [(2, 13)]) (by decide +kernel) rfl ?_
              refine zwW_gc ChL5.1 (kd := 9) (bn := 5) (n := 6) (c := 18) (nx := 53) (by decide +kernel) ?_
              refine zwW_p [(1, 3, 0), (1, 5, 0)] (q := 56) (ls' := [(2, 13), (2, r), (0, a), (0, tL5), (0, pL5), (0, qL5), (0, kL5)]) (st' := [(0, qL5), (0, tL5), (2, 18)]) (by decide +kernel) rfl ?_
              refine zwW_as ChL5.1 (a1 := 18) (a2 := 18) (n := 400) (lo := -2147483648) (hi := 2147483647) (nx := 57) (by decide +kernel) ⟨by decide, by decide⟩ ⟨by omega, by omega⟩ ⟨by omega, by omega⟩ ?_
              intro h47 eh47 Ih47
              have Ch47 : CI h47 := ChL5.wc eh47 Ih47 (by decide) (by decide)
              have Qh47 : zXR [(18, 18, 0, 400)] 0 0 hL5 h47 := zXR.wc eh47 rfl ⟨by decide, by decide, Or.inl (by decide)⟩ ⟨by omega, by omega⟩
              have Xh47 : zXR msx224 (0) (0) h h47 := XhL5.tr (c2 := 0) (s2 := 0) Qh47 (by decide +kernel) (by decide) (by decide)
              have Gh47_0 : gS h47 r := gL5_0.x Qh47
              refine zwW_inc (i := 3) (c := 1) (x := tL5) (nx := 60) (by decide +kernel) rfl ⟨by omega, by omega⟩ (ls' := [(2, 13), (2, r), (0, a), (0, (tL5 + 1)), (0, pL5), (0, qL5), (0, kL5)]) rfl ?_
              refine zwW_p [(24, 161, 0)] (q := 161) (ls' := [(2, 13), (2, r), (0, a), (0, (tL5 + 1)), (0, pL5), (0, qL5), (0, kL5)]) (st' := []) (by decide +kernel) rfl ?_
              refine zwW_icw (i := 4) (c := 1) (x := pL5) (nx := 164) (fun z => [(2, 13), (2, r), (0, a), (0, (tL5 + 1)), (0, z), (0, qL5), (0, kL5)]) (by decide +kernel) rfl (fun _ => rfl) ?_
              intro v48 ev48 lv48 uv48
              refine zwW_p [(1, 1, 2), (1, 4, 0)] (q := 167) (ls' := [(2, 13), (2, r), (0, a), (0, (tL5 + 1)), (0, v48), (0, qL5), (0, kL5)]) (st' := [(0, v48), (2, r)]) (by decide +kernel) rfl ?_
              refine zwW_cv (op := 60) (k' := 255) (n := 1) (kd := 10) (m := 3) (nx := 170) (r := r) (tl := [(0, v48)]) (st' := []) (by decide +kernel) rfl (by decide +kernel) Gh47_0.2.1 (x255 h47 Ch47 r v48 Gh47_0 (by omega)) rfl ?_
              rintro v49 _ ⟨rfl, f50⟩
              refine zwW_p [(2, 5, 0)] (q := 172) (ls' := [(2, 13), (2, r), (0, a), (0, (tL5 + 1)), (0, v48), (0, v49), (0, kL5)]) (st' := []) (by decide +kernel) rfl ?_
              refine zwW_inc (i := 6) (c := 1) (x := kL5) (nx := 175) (by decide +kernel) rfl ⟨by omega, by omega⟩ (ls' := [(2, 13), (2, r), (0, a), (0, (tL5 + 1)), (0, v48), (0, v49), (0, (kL5 + 1))]) rfl ?_
              refine zwW_p [(24, 20, 0)] (q := 20) (ls' := [(2, 13), (2, r), (0, a), (0, (tL5 + 1)), (0, v48), (0, v49), (0, (kL5 + 1))]) (st' := []) (by decide +kernel) rfl ?_
              exact IHL5 ((1000 - (kL5 + 1))).toNat (by omega) (tL5 + 1) v48 v49 (kL5 + 1) h47 rfl (by omega) (by omega) (by omega) (by omega) Gh47_0 Ch47 (Xh47.le (by decide) (by decide))
  exact L5 _ 0 v1 v3 0 h rfl (by omega) (by omega) (by omega) (by omega) G_r C (X.le (by decide) (by decide))
-- WheelLand$Rules.inForce(II)LWheelLand$Sheet;
theorem x125 {sc : List Int} (h : Hp) (C : CI h) (a b : Int) (q_a : -2147483648 ≤ a ∧ a ≤ 2147483647) (q_b : -2147483648 ≤ b ∧ b ≤ 2147483647) : zwC sc 2 125 [(2, 13), (0, a), (0, b)] h (zwRt 2 (fun x g => h = g ∧ ((x = 0) ∨ (gS h x)))) := by
  refine zwC_of (D := 1) 7 (by decide +kernel) rfl (ls := [(2, 13), (0, a), (0, b), (9, 0), (9, 0), (9, 0), (9, 0)]) rfl ?_
  refine zwW_p [(0, 0, 2), (2, 3, 2), (0, 0, 0), (2, 4, 0), (0, 0, 0), (2, 5, 0)] (q := 8) (ls' := [(2, 13), (0, a), (0, b), (2, 0), (0, 0), (0, 0), (9, 0)]) (st' := []) (by decide +kernel) rfl ?_
  have L1 : ∀ (n : Nat) (wL1 kL1 r3L1 : Int) (w6L1 : Vl), n = ((1000 - kL1)).toNat → (-2147483648 ≤ wL1 ∧ wL1 ≤ 2147483647) → (0 ≤ kL1 ∧ kL1 ≤ 12) → ((r3L1 = 0 ∨ gS h r3L1)) → zwW sc (1) 125 8 [(2, 13), (0, a), (0, b), (2, r3L1), (0, wL1), (0, kL1), w6L1] [] h (zwRt 2 (fun x g => h = g ∧ ((x = 0) ∨ (gS h x)))) := by
    intro n
    induction n using Nat.strongRecOn with
    | ind n IHL1 =>
      intro wL1 kL1 r3L1 w6L1 hnL1 iL1_0 iL1_1 gL1_0
      have lw_r3L1 : 0 ≤ r3L1 := by
        rcases gL1_0 with z | z
        · omega
        · have := z.1
          omega
      refine zwW_p [(1, 5, 0), (1, 0, 2)] (q := 11) (ls' := [(2, 13), (0, a), (0, b), (2, r3L1), (0, wL1), (0, kL1), w6L1]) (st' := [(2, 13), (0, kL1)]) (by decide +kernel) rfl ?_
      refine zwW_gs C.1 (kd := 9) (bn := 1) (n := 6) (t := 0) (lo := 0) (hi := 12) (nx := 14) (by decide +kernel) ?_
      intro v2 ev2 lv2 uv2
      refine zwic_ge (q := 92) (nx := 17) (by decide +kernel) (fun c3 => ?_) (fun c3 => ?_)
      · refine zwW_p [(1, 3, 2)] (q := 93) (ls' := [(2, 13), (0, a), (0, b), (2, r3L1), (0, wL1), (0, kL1), w6L1]) (st' := [(2, r3L1)]) (by decide +kernel) rfl ?_
        refine zwW_ret (nx := 94) (a := 0) (b := 2) (by decide +kernel) rfl (Or.inl rfl) ?_
        exact ⟨rfl, gL1_0⟩
      · refine zwW_p [(1, 5, 0), (1, 0, 2)] (q := 20) (ls' := [(2, 13), (0, a), (0, b), (2, r3L1), (0, wL1), (0, kL1), w6L1]) (st' := [(2, 13), (0, kL1)]) (by decide +kernel) rfl ?_
        refine zwW_gc C.1 (kd := 9) (bn := 2) (n := 6) (c := 15) (nx := 23) (by decide +kernel) ?_
        refine zwW_len (kd := 24) (n := 12) (nx := 24) (by decide +kernel) (C.1.s (a1 := 15) (a2 := 15) (by decide +kernel) (by omega) (by omega)) rfl ?_
        refine zwic_ge (q := 92) (nx := 27) (by decide +kernel) (fun c4 => ?_) (fun c4 => ?_)
        · exfalso; omega
        · refine zwW_p [(1, 0, 2)] (q := 28) (ls' := [(2, 13), (0, a), (0, b), (2, r3L1), (0, wL1), (0, kL1), w6L1]) (st' := [(2, 13)]) (by decide +kernel) rfl ?_
          refine zwW_gc C.1 (kd := 9) (bn := 2) (n := 6) (c := 15) (nx := 31) (by decide +kernel) ?_
          refine zwW_p [(1, 5, 0)] (q := 33) (ls' := [(2, 13), (0, a), (0, b), (2, r3L1), (0, wL1), (0, kL1), w6L1]) (st' := [(0, kL1), (2, 15)]) (by decide +kernel) rfl ?_
          refine zwW_al C.1 (a1 := 15) (a2 := 15) (kd := 24) (n := 12) (t := 2) (lo := 0) (hi := 2147483647) (nx := 34) (by decide +kernel) ⟨by decide, by decide⟩ ⟨by omega, by omega⟩ ?_
          intro v5 ev5 lv5 uv5
          have Gv5 : v5 = 0 ∨ gS h v5 := by rw [ev5]; exact C.2.2.2.2 kL1.toNat (by omega)
          refine zwW_p [(2, 6, 2), (1, 0, 2)] (q := 37) (ls' := [(2, 13), (0, a), (0, b), (2, r3L1), (0, wL1), (0, kL1), (2, v5)]) (st' := [(2, 13)]) (by decide +kernel) rfl ?_
          refine zwW_gc C.1 (kd := 9) (bn := 3) (n := 6) (c := 16) (nx := 40) (by decide +kernel) ?_
          refine zwW_p [(1, 5, 0)] (q := 42) (ls' := [(2, 13), (0, a), (0, b), (2, r3L1), (0, wL1), (0, kL1), (2, v5)]) (st' := [(0, kL1), (2, 16)]) (by decide +kernel) rfl ?_
          refine zwW_al C.1 (a1 := 16) (a2 := 16) (kd := 20) (n := 12) (t := 0) (lo := -2147483648) (hi := 2147483647) (nx := 43) (by decide +kernel) ⟨by decide, by decide⟩ ⟨by omega, by omega⟩ ?_
          intro v6 ev6 lv6 uv6
          refine zwW_p [(1, 2, 0)] (q := 44) (ls' := [(2, 13), (0, a), (0, b), (2, r3L1), (0, wL1), (0, kL1), (2, v5)]) (st' := [(0, b), (0, v6)]) (by decide +kernel) rfl ?_
          refine zwic_gt (q := 86) (nx := 47) (by decide +kernel) (fun c7 => ?_) (fun c7 => ?_)
          · refine zwW_inc (i := 5) (c := 1) (x := kL1) (nx := 89) (by decide +kernel) rfl ⟨by omega, by omega⟩ (ls' := [(2, 13), (0, a), (0, b), (2, r3L1), (0, wL1), (0, (kL1 + 1)), (2, v5)]) rfl ?_
            refine zwW_p [(24, 8, 0)] (q := 8) (ls' := [(2, 13), (0, a), (0, b), (2, r3L1), (0, wL1), (0, (kL1 + 1)), (2, v5)]) (st' := []) (by decide +kernel) rfl ?_
            exact IHL1 ((1000 - (kL1 + 1))).toNat (by omega) wL1 (kL1 + 1) r3L1 (2, v5) rfl (by omega) (by omega) gL1_0
          · refine zwW_p [(1, 0, 2)] (q := 48) (ls' := [(2, 13), (0, a), (0, b), (2, r3L1), (0, wL1), (0, kL1), (2, v5)]) (st' := [(2, 13)]) (by decide +kernel) rfl ?_
            refine zwW_gc C.1 (kd := 9) (bn := 3) (n := 6) (c := 16) (nx := 51) (by decide +kernel) ?_
            refine zwW_p [(1, 5, 0)] (q := 53) (ls' := [(2, 13), (0, a), (0, b), (2, r3L1), (0, wL1), (0, kL1), (2, v5)]) (st' := [(0, kL1), (2, 16)]) (by decide +kernel) rfl ?_
            refine zwW_al C.1 (a1 := 16) (a2 := 16) (kd := 20) (n := 12) (t := 0) (lo := -2147483648) (hi := 2147483647) (nx := 54) (by decide +kernel) ⟨by decide, by decide⟩ ⟨by omega, by omega⟩ ?_
            intro v8 ev8 lv8 uv8
            refine zwW_p [(1, 4, 0)] (q := 56) (ls' := [(2, 13), (0, a), (0, b), (2, r3L1), (0, wL1), (0, kL1), (2, v5)]) (st' := [(0, wL1), (0, v8)]) (by decide +kernel) rfl ?_
            refine zwic_lt (q := 86) (nx := 59) (by decide +kernel) (fun c9 => ?_) (fun c9 => ?_)
            · refine zwW_inc (i := 5) (c := 1) (x := kL1) (nx := 89) (by decide +kernel) rfl ⟨by omega, by omega⟩ (ls' := [(2, 13), (0, a), (0, b), (2, r3L1), (0, wL1), (0, (kL1 + 1)), (2, v5)]) rfl ?_
              refine zwW_p [(24, 8, 0)] (q := 8) (ls' := [(2, 13), (0, a), (0, b), (2, r3L1), (0, wL1), (0, (kL1 + 1)), (2, v5)]) (st' := []) (by decide +kernel) rfl ?_
              exact IHL1 ((1000 - (kL1 + 1))).toNat (by omega) wL1 (kL1 + 1) r3L1 (2, v5) rfl (by omega) (by omega) gL1_0
            · refine zwW_p [(1, 6, 2)] (q := 61) (ls' := [(2, 13), (0, a), (0, b), (2, r3L1), (0, wL1), (0, kL1), (2, v5)]) (st' := [(2, v5)]) (by decide +kernel) rfl ?_
              refine zwnu_eq (q := 86) (nx := 64) (by decide +kernel) (by omega) (fun c10 => ?_) (fun c10 => ?_)
              · refine zwW_inc (i := 5) (c := 1) (x := kL1) (nx := 89) (by decide +kernel) rfl ⟨by omega, by omega⟩ (ls' := [(2, 13), (0, a), (0, b), (2, r3L1), (0, wL1), (0, (kL1 + 1)), (2, v5)]) rfl ?_
                refine zwW_p [(24, 8, 0)] (q := 8) (ls' := [(2, 13), (0, a), (0, b), (2, r3L1), (0, wL1), (0, (kL1 + 1)), (2, v5)]) (st' := []) (by decide +kernel) rfl ?_
                exact IHL1 ((1000 - (kL1 + 1))).toNat (by omega) wL1 (kL1 + 1) r3L1 (2, v5) rfl (by omega) (by omega) gL1_0
              · have G11 : gS h v5 := Gv5.resolve_left (by omega)
                have lG11 := G11.1
                refine zwW_p [(1, 6, 2), (1, 1, 0)] (q := 67) (ls' := [(2, 13), (0, a), (0, b), (2, r3L1), (0, wL1), (0, kL1), (2, v5)]) (st' := [(0, a), (2, v5)]) (by decide +kernel) rfl ?_
                refine zwW_cv (op := 60) (k' := 206) (n := 1) (kd := 10) (m := 3) (nx := 70) (r := v5) (tl := [(0, a)]) (st' := []) (by decide +kernel) rfl (by decide +kernel) G11.2.1 (x206 h C v5 a G11 (by omega)) rfl ?_
                rintro v12 _ ⟨rfl, f13⟩
                refine zwW_p [(0, -1, 0)] (q := 71) (ls' := [(2, 13), (0, a), (0, b), (2, r3L1), (0, wL1), (0, kL1), (2, v5)]) (st' := [(0, -1), (0, v12)]) (by decide +kernel) rfl ?_
                refine zwic_eq (q := 86) (nx := 74) (by decide +kernel) (fun c14 => ?_) (fun c14 => ?_)
                · refine zwW_inc (i := 5) (c := 1) (x := kL1) (nx := 89) (by decide +kernel) rfl ⟨by omega, by omega⟩ (ls' := [(2, 13), (0, a), (0, b), (2, r3L1), (0, wL1), (0, (kL1 + 1)), (2, v5)]) rfl ?_
                  refine zwW_p [(24, 8, 0)] (q := 8) (ls' := [(2, 13), (0, a), (0, b), (2, r3L1), (0, wL1), (0, (kL1 + 1)), (2, v5)]) (st' := []) (by decide +kernel) rfl ?_
                  exact IHL1 ((1000 - (kL1 + 1))).toNat (by omega) wL1 (kL1 + 1) r3L1 (2, v5) rfl (by omega) (by omega) gL1_0
                · refine zwW_p [(1, 0, 2)] (q := 75) (ls' := [(2, 13), (0, a), (0, b), (2, r3L1), (0, wL1), (0, kL1), (2, v5)]) (st' := [(2, 13)]) (by decide +kernel) rfl ?_
                  refine zwW_gc C.1 (kd := 9) (bn := 3) (n := 6) (c := 16) (nx := 78) (by decide +kernel) ?_
                  refine zwW_p [(1, 5, 0)] (q := 80) (ls' := [(2, 13), (0, a), (0, b), (2, r3L1), (0, wL1), (0, kL1), (2, v5)]) (st' := [(0, kL1), (2, 16)]) (by decide +kernel) rfl ?_
                  refine zwW_al C.1 (a1 := 16) (a2 := 16) (kd := 20) (n := 12) (t := 0) (lo := -2147483648) (hi := 2147483647) (nx := 81) (by decide +kernel) ⟨by decide, by decide⟩ ⟨by omega, by omega⟩ ?_
                  intro v15 ev15 lv15 uv15
                  refine zwW_p [(2, 4, 0), (1, 6, 2), (2, 3, 2)] (q := 86) (ls' := [(2, 13), (0, a), (0, b), (2, v5), (0, v15), (0, kL1), (2, v5)]) (st' := []) (by decide +kernel) rfl ?_
                  refine zwW_inc (i := 5) (c := 1) (x := kL1) (nx := 89) (by decide +kernel) rfl ⟨by omega, by omega⟩ (ls' := [(2, 13), (0, a), (0, b), (2, v5), (0, v15), (0, (kL1 + 1)), (2, v5)]) rfl ?_
                  refine zwW_p [(24, 8, 0)] (q := 8) (ls' := [(2, 13), (0, a), (0, b), (2, v5), (0, v15), (0, (kL1 + 1)), (2, v5)]) (st' := []) (by decide +kernel) rfl ?_
                  exact IHL1 ((1000 - (kL1 + 1))).toNat (by omega) v15 (kL1 + 1) v5 (2, v5) rfl (by omega) (by omega) (Or.inr G11)
  exact L1 _ 0 0 0 (9, 0) rfl (by omega) (by omega) (Or.inl rfl)
def msx172 : Zms := [(18, 18, 0, 400)]
-- WheelLand$Rules.answer(II)I
theorem x172 {sc : List Int} (h : Hp) (C : CI h) (a b : Int) (q_a : -2147483648 ≤ a ∧ a ≤ 2147483647) (q_b : -2147483648 ≤ b ∧ b ≤ 2147483647) : zwC sc 3 172 [(2, 13), (0, a), (0, b)] h (zwRt 0 (fun x g => CI g ∧ zXR msx172 (0) (0) h g ∧ (-2147483648 ≤ x ∧ x ≤ 2147483647))) := by
  refine zwC_of (D := 2) 4 (by decide +kernel) rfl (ls := [(2, 13), (0, a), (0, b), (9, 0)]) rfl ?_
  have X : zXR msx172 0 0 h h := zXR.rf _ _
  refine zwW_p [(1, 0, 2), (1, 1, 0), (1, 2, 0)] (q := 3) (ls' := [(2, 13), (0, a), (0, b), (9, 0)]) (st' := [(0, b), (0, a), (2, 13)]) (by decide +kernel) rfl ?_
  refine zwW_cm C.1 (op := 60) (k' := 125) (n := 2) (kd := 9) (m := 6) (nx := 6) (r := 13) (tl := [(0, a), (0, b)]) (st' := []) (by decide +kernel) rfl (by decide +kernel) rfl (x125 h C a b (by omega) (by omega)) ?_
  rintro v2 _ ⟨rfl, rfl | Gv2⟩
  · refine zwW_p [(2, 3, 2), (1, 3, 2)] (q := 8) (ls' := [(2, 13), (0, a), (0, b), (2, 0)]) (st' := [(2, 0)]) (by decide +kernel) rfl ?_
    refine zwnu_ne (q := 26) (nx := 11) (by decide +kernel) (by decide) (fun c3 => ?_) (fun c3 => ?_)
    · exfalso; omega
    · refine zwW_p [(1, 1, 0)] (q := 12) (ls' := [(2, 13), (0, a), (0, b), (2, 0)]) (st' := [(0, a)]) (by decide +kernel) rfl ?_
      refine zwif_eq (q := 20) (nx := 15) (by decide +kernel) (fun c4 => ?_) (fun c4 => ?_)
      · refine zwW_p [(0, 0, 0), (24, 25, 0)] (q := 25) (ls' := [(2, 13), (0, a), (0, b), (2, 0)]) (st' := [(0, 0)]) (by decide +kernel) rfl ?_
        refine zwW_ret (nx := 26) (a := 0) (b := 0) (by decide +kernel) rfl (Or.inl rfl) ?_
        exact ⟨C, X.le (by decide) (by decide), by omega⟩
      · refine zwW_p [(1, 1, 0), (0, 2, 0)] (q := 17) (ls' := [(2, 13), (0, a), (0, b), (2, 0)]) (st' := [(0, 2), (0, a)]) (by decide +kernel) rfl ?_
        refine zwic_ne (q := 24) (nx := 20) (by decide +kernel) (fun c5 => ?_) (fun c5 => ?_)
        · refine zwW_p [(0, 1, 0)] (q := 25) (ls' := [(2, 13), (0, a), (0, b), (2, 0)]) (st' := [(0, 1)]) (by decide +kernel) rfl ?_
          refine zwW_ret (nx := 26) (a := 0) (b := 0) (by decide +kernel) rfl (Or.inl rfl) ?_
          exact ⟨C, X.le (by decide) (by decide), by omega⟩
        · refine zwW_p [(0, 0, 0), (24, 25, 0)] (q := 25) (ls' := [(2, 13), (0, a), (0, b), (2, 0)]) (st' := [(0, 0)]) (by decide +kernel) rfl ?_
          refine zwW_ret (nx := 26) (a := 0) (b := 0) (by decide +kernel) rfl (Or.inl rfl) ?_
          exact ⟨C, X.le (by decide) (by decide), by omega⟩
  · have lv2 := Gv2.1
    refine zwW_p [(2, 3, 2), (1, 3, 2)] (q := 8) (ls' := [(2, 13), (0, a), (0, b), (2, v2)]) (st' := [(2, v2)]) (by decide +kernel) rfl ?_
    refine zwnu_ne (q := 26) (nx := 11) (by decide +kernel) (by omega) (fun c6 => ?_) (fun c6 => ?_)
    · refine zwW_p [(1, 0, 2), (1, 3, 2), (1, 1, 0)] (q := 29) (ls' := [(2, 13), (0, a), (0, b), (2, v2)]) (st' := [(0, a), (2, v2), (2, 13)]) (by decide +kernel) rfl ?_
      refine zwW_cm C.1 (op := 60) (k' := 224) (n := 2) (kd := 9) (m := 6) (nx := 32) (r := 13) (tl := [(2, v2), (0, a)]) (st' := []) (by decide +kernel) rfl (by decide +kernel) rfl (x224 h C v2 a Gv2 (by omega)) ?_
      rintro v8 h9 ⟨Ch9, Qh9, f7⟩
      have Xh9 : zXR msx172 (0) (0) h h9 := X.tr (c2 := 0) (s2 := 0) Qh9 (by decide +kernel) (by decide) (by decide)
      have Gh9_0 : gS h9 v2 := Gv2.x Qh9
      refine zwW_ret (nx := 33) (a := 0) (b := 0) (by decide +kernel) rfl (Or.inl rfl) ?_
      exact ⟨Ch9, Xh9.le (by decide) (by decide), by omega⟩
    · exfalso; omega
def msx124 : Zms := [(13, 13, 1, 2), (15, 15, 0, 12), (16, 16, 0, 12)]
-- WheelLand$Rules.enforce(LWheelLand$Sheet;I)V
theorem x124 {sc : List Int} (h : Hp) (C : CI h) (r a : Int) (G_r : gS h r) (q_a : -2147483648 ≤ a ∧ a ≤ 2147483647) (hl : h.length ≤ 999990000) : zwC sc 1 124 [(2, 13), (2, r), (0, a)] h (zwRv (fun g => CI g ∧ zXR msx124 (0) (0) h g)) := by
  refine zwC_of (D := 0) 3 (by decide +kernel) rfl (ls := [(2, 13), (2, r), (0, a)]) rfl ?_
  have lw_r := G_r.1
  have X : zXR msx124 0 0 h h := zXR.rf _ _
  refine zwW_p [(1, 0, 2)] (q := 1) (ls' := [(2, 13), (2, r), (0, a)]) (st' := [(2, 13)]) (by decide +kernel) rfl ?_
  refine zwW_gs C.1 (kd := 9) (bn := 1) (n := 6) (t := 0) (lo := 0) (hi := 12) (nx := 4) (by decide +kernel) ?_
  intro v1 ev1 lv1 uv1
  refine zwW_p [(1, 0, 2)] (q := 5) (ls' := [(2, 13), (2, r), (0, a)]) (st' := [(2, 13), (0, v1)]) (by decide +kernel) rfl ?_
  refine zwW_gc C.1 (kd := 9) (bn := 2) (n := 6) (c := 15) (nx := 8) (by decide +kernel) ?_
  refine zwW_len (kd := 24) (n := 12) (nx := 9) (by decide +kernel) (C.1.s (a1 := 15) (a2 := 15) (by decide +kernel) (by omega) (by omega)) rfl ?_
  refine zwic_ge (q := 42) (nx := 12) (by decide +kernel) (fun c2 => ?_) (fun c2 => ?_)
  · refine zwW_retv (nx := 43) (a := 0) (b := 0) (by decide +kernel) ?_
    exact ⟨C, X.le (by decide) (by decide)⟩
  · refine zwW_p [(1, 0, 2)] (q := 13) (ls' := [(2, 13), (2, r), (0, a)]) (st' := [(2, 13)]) (by decide +kernel) rfl ?_
    refine zwW_gc C.1 (kd := 9) (bn := 2) (n := 6) (c := 15) (nx := 16) (by decide +kernel) ?_
    refine zwW_p [(1, 0, 2)] (q := 17) (ls' := [(2, 13), (2, r), (0, a)]) (st' := [(2, 13), (2, 15)]) (by decide +kernel) rfl ?_
    refine zwW_gs C.1 (kd := 9) (bn := 1) (n := 6) (t := 0) (lo := 0) (hi := 12) (nx := 20) (by decide +kernel) ?_
    intro v3 ev3 lv3 uv3
    refine zwW_p [(1, 1, 2)] (q := 21) (ls' := [(2, 13), (2, r), (0, a)]) (st' := [(2, r), (0, v3), (2, 15)]) (by decide +kernel) rfl ?_
    refine zwW_ast (a := 24) (kd := 24) (n := 12) (x := r) (nx := 22) (by decide +kernel) (C.1.s (a1 := 15) (a2 := 15) (by decide +kernel) (by decide) (by decide)) rfl (by omega) (by omega) (kept24 G_r) ?_
    rintro h4 eh4
    obtain ⟨Ch4, Qh4⟩ := C.ws (i := v3.toNat) G_r (by omega) (by omega) eh4
    have Xh4 : zXR msx124 (0) (0) h h4 := X.tr (c2 := 0) (s2 := 0) Qh4 (by decide +kernel) (by decide) (by decide)
    have Gh4_0 : gS h4 r := G_r.x Qh4
    have th4_13_1 : fld h4 13 1 = fld h 13 1 := Qh4.f (a1 := 13) (a2 := 13) (j1 := 1) (j2 := 2) (by decide +kernel) ⟨by decide, by decide⟩ ⟨by decide, by decide⟩ ⟨by decide, by decide⟩
    refine zwW_p [(1, 0, 2)] (q := 23) (ls' := [(2, 13), (2, r), (0, a)]) (st' := [(2, 13)]) (by decide +kernel) rfl ?_
    refine zwW_gc Ch4.1 (kd := 9) (bn := 3) (n := 6) (c := 16) (nx := 26) (by decide +kernel) ?_
    refine zwW_p [(1, 0, 2)] (q := 27) (ls' := [(2, 13), (2, r), (0, a)]) (st' := [(2, 13), (2, 16)]) (by decide +kernel) rfl ?_
    refine zwW_gs Ch4.1 (kd := 9) (bn := 1) (n := 6) (t := 0) (lo := 0) (hi := 12) (nx := 30) (by decide +kernel) ?_
    intro v5 ev5 lv5 uv5
    refine zwW_p [(1, 2, 0)] (q := 31) (ls' := [(2, 13), (2, r), (0, a)]) (st' := [(0, a), (0, v5), (2, 16)]) (by decide +kernel) rfl ?_
    refine zwW_as Ch4.1 (a1 := 16) (a2 := 16) (n := 12) (lo := -2147483648) (hi := 2147483647) (nx := 32) (by decide +kernel) ⟨by decide, by decide⟩ ⟨by omega, by omega⟩ ⟨by omega, by omega⟩ ?_
    intro h6 eh6 Ih6
    have Ch6 : CI h6 := Ch4.wc eh6 Ih6 (by decide) (by decide)
    have Qh6 : zXR [(16, 16, 0, 12)] 0 0 h4 h6 := zXR.wc eh6 rfl ⟨by decide, by decide, Or.inl (by decide)⟩ ⟨by omega, by omega⟩
    have Xh6 : zXR msx124 (0) (0) h h6 := Xh4.tr (c2 := 0) (s2 := 0) Qh6 (by decide +kernel) (by decide) (by decide)
    have Gh6_0 : gS h6 r := Gh4_0.x Qh6
    have th6_13_1 : fld h6 13 1 = fld h4 13 1 := Qh6.f (a1 := 13) (a2 := 13) (j1 := 1) (j2 := 2) (by decide +kernel) ⟨by decide, by decide⟩ ⟨by decide, by decide⟩ ⟨by decide, by decide⟩
    refine zwW_p [(1, 0, 2), (12, 0, 0)] (q := 34) (ls' := [(2, 13), (2, r), (0, a)]) (st' := [(2, 13), (2, 13)]) (by decide +kernel) rfl ?_
    refine zwW_gs Ch6.1 (kd := 9) (bn := 1) (n := 6) (t := 0) (lo := 0) (hi := 12) (nx := 37) (by decide +kernel) ?_
    intro v7 ev7 lv7 uv7
    refine zwW_p [(0, 1, 0)] (q := 38) (ls' := [(2, 13), (2, r), (0, a)]) (st' := [(0, 1), (0, v7), (2, 13)]) (by decide +kernel) rfl ?_
    refine zwW_add (nx := 39) (by decide +kernel) ⟨by omega, by omega⟩ ?_
    refine zwW_ps Ch6.1 (kd := 9) (bn := 1) (n := 6) (lo := 0) (hi := 12) (nx := 42) (by decide +kernel) ⟨by omega, by omega⟩ ?_
    intro h8 eh8 Ih8
    have Ch8 : CI h8 := Ch6.wc eh8 Ih8 (by decide) (by decide)
    have Qh8 : zXR [(13, 13, 1, 2)] 0 0 h6 h8 := zXR.wc eh8 rfl ⟨by decide, by decide, Or.inl (by decide)⟩ ⟨by decide, by decide⟩
    have Xh8 : zXR msx124 (0) (0) h h8 := Xh6.tr (c2 := 0) (s2 := 0) Qh8 (by decide +kernel) (by decide) (by decide)
    have Gh8_0 : gS h8 r := Gh6_0.x Qh8
    have th8_13_1 : fld h8 13 1 = (v7 + 1) := by rw [eh8]; exact fld_wr_eq (Ch6.1.s (a1 := 13) (a2 := 13) (k := 9) (n := 6) (by decide +kernel) (by decide) (by decide)) (by decide)
    refine zwW_retv (nx := 43) (a := 0) (b := 0) (by decide +kernel) ?_
    exact ⟨Ch8, Xh8.le (by decide) (by decide)⟩
-- WheelLand.villageAt(I)LWheelLand$Village;
theorem x102 {sc : List Int} (h : Hp) (C : CI h) (a : Int) (q_a : -2147483648 ≤ a ∧ a ≤ 2147483647) : zwC sc 5 102 [(2, 1), (0, a)] h (zwRt 2 (fun x g => h = g ∧ ((x = 0 ∧ (a < 0 ∨ fld h 2 2 ≤ a)) ∨ (gV h x ∧ 0 ≤ a ∧ a < fld h 2 2 ∧ x = fld h (fld h 2 1) a.toNat)))) := by
  refine zwC_of (D := 4) 2 (by decide +kernel) rfl (ls := [(2, 1), (0, a)]) rfl ?_
  refine zwW_p [(1, 1, 0)] (q := 1) (ls' := [(2, 1), (0, a)]) (st' := [(0, a)]) (by decide +kernel) rfl ?_
  refine zwif_lt (q := 29) (nx := 4) (by decide +kernel) (fun c1 => ?_) (fun c1 => ?_)
  · refine zwW_p [(0, 0, 2)] (q := 30) (ls' := [(2, 1), (0, a)]) (st' := [(2, 0)]) (by decide +kernel) rfl ?_
    refine zwW_ret (nx := 31) (a := 0) (b := 2) (by decide +kernel) rfl (Or.inl rfl) ?_
    exact ⟨rfl, Or.inl ⟨rfl, by omega⟩⟩
  · refine zwW_p [(1, 1, 0), (1, 0, 2)] (q := 6) (ls' := [(2, 1), (0, a)]) (st' := [(2, 1), (0, a)]) (by decide +kernel) rfl ?_
    refine zwW_gc C.1 (kd := 12) (bn := 2) (n := 13) (c := 2) (nx := 9) (by decide +kernel) ?_
    refine zwW_cm C.1 (op := 60) (k' := 96) (n := 0) (kd := 0) (m := 3) (nx := 12) (r := 2) (tl := []) (st' := [(0, a)]) (by decide +kernel) rfl (by decide +kernel) rfl (x96_2 C) ?_
    rintro v2 _ ⟨rfl, ev2⟩
    have bv2 := zLb_2 C
    refine zwic_ge (q := 29) (nx := 15) (by decide +kernel) (fun c3 => ?_) (fun c3 => ?_)
    · refine zwW_p [(0, 0, 2)] (q := 30) (ls' := [(2, 1), (0, a)]) (st' := [(2, 0)]) (by decide +kernel) rfl ?_
      refine zwW_ret (nx := 31) (a := 0) (b := 2) (by decide +kernel) rfl (Or.inl rfl) ?_
      exact ⟨rfl, Or.inl ⟨rfl, by omega⟩⟩
    · refine zwW_p [(1, 0, 2)] (q := 16) (ls' := [(2, 1), (0, a)]) (st' := [(2, 1)]) (by decide +kernel) rfl ?_
      refine zwW_gc C.1 (kd := 12) (bn := 2) (n := 13) (c := 2) (nx := 19) (by decide +kernel) ?_
      refine zwW_p [(1, 1, 0)] (q := 20) (ls' := [(2, 1), (0, a)]) (st' := [(0, a), (2, 2)]) (by decide +kernel) rfl ?_
      refine zwW_cm C.1 (op := 60) (k' := 123) (n := 1) (kd := 0) (m := 3) (nx := 23) (r := 2) (tl := [(0, a)]) (st' := []) (by decide +kernel) rfl (by decide +kernel) rfl (x123_2 C (i := a) ⟨by omega, by omega⟩) ?_
      rintro v4 _ ⟨rfl, Gv4, ev4⟩
      have lv4 := Gv4.1
      refine zwW_cast (a := 11) (kd := 11) (n := 17) (nx := 26) (by decide +kernel) rfl (Or.inr Gv4.2.1) ?_
      refine zwW_p [(24, 30, 0)] (q := 30) (ls' := [(2, 1), (0, a)]) (st' := [(2, v4)]) (by decide +kernel) rfl ?_
      refine zwW_ret (nx := 31) (a := 0) (b := 2) (by decide +kernel) rfl (Or.inl rfl) ?_
      exact ⟨rfl, Or.inr ⟨Gv4, by omega, by omega, by assumption⟩⟩
-- WheelLand.houseAt(I)LWheelLand$House;
theorem x109 {sc : List Int} (h : Hp) (C : CI h) (a : Int) (q_a : -2147483648 ≤ a ∧ a ≤ 2147483647) : zwC sc 5 109 [(2, 1), (0, a)] h (zwRt 2 (fun x g => h = g ∧ ((x = 0 ∧ (a < 0 ∨ fld h 3 2 ≤ a)) ∨ (gH h x ∧ 0 ≤ a ∧ a < fld h 3 2 ∧ x = fld h (fld h 3 1) a.toNat)))) := by
  refine zwC_of (D := 4) 2 (by decide +kernel) rfl (ls := [(2, 1), (0, a)]) rfl ?_
  refine zwW_p [(1, 1, 0)] (q := 1) (ls' := [(2, 1), (0, a)]) (st' := [(0, a)]) (by decide +kernel) rfl ?_
  refine zwif_lt (q := 29) (nx := 4) (by decide +kernel) (fun c1 => ?_) (fun c1 => ?_)
  · refine zwW_p [(0, 0, 2)] (q := 30) (ls' := [(2, 1), (0, a)]) (st' := [(2, 0)]) (by decide +kernel) rfl ?_
    refine zwW_ret (nx := 31) (a := 0) (b := 2) (by decide +kernel) rfl (Or.inl rfl) ?_
    exact ⟨rfl, Or.inl ⟨rfl, by omega⟩⟩
  · refine zwW_p [(1, 1, 0), (1, 0, 2)] (q := 6) (ls' := [(2, 1), (0, a)]) (st' := [(2, 1), (0, a)]) (by decide +kernel) rfl ?_
    refine zwW_gc C.1 (kd := 12) (bn := 3) (n := 13) (c := 3) (nx := 9) (by decide +kernel) ?_
    refine zwW_cm C.1 (op := 60) (k' := 96) (n := 0) (kd := 0) (m := 3) (nx := 12) (r := 3) (tl := []) (st' := [(0, a)]) (by decide +kernel) rfl (by decide +kernel) rfl (x96_3 C) ?_
    rintro v2 _ ⟨rfl, ev2⟩
    have bv2 := zLb_3 C
    refine zwic_ge (q := 29) (nx := 15) (by decide +kernel) (fun c3 => ?_) (fun c3 => ?_)
    · refine zwW_p [(0, 0, 2)] (q := 30) (ls' := [(2, 1), (0, a)]) (st' := [(2, 0)]) (by decide +kernel) rfl ?_
      refine zwW_ret (nx := 31) (a := 0) (b := 2) (by decide +kernel) rfl (Or.inl rfl) ?_
      exact ⟨rfl, Or.inl ⟨rfl, by omega⟩⟩
    · refine zwW_p [(1, 0, 2)] (q := 16) (ls' := [(2, 1), (0, a)]) (st' := [(2, 1)]) (by decide +kernel) rfl ?_
      refine zwW_gc C.1 (kd := 12) (bn := 3) (n := 13) (c := 3) (nx := 19) (by decide +kernel) ?_
      refine zwW_p [(1, 1, 0)] (q := 20) (ls' := [(2, 1), (0, a)]) (st' := [(0, a), (2, 3)]) (by decide +kernel) rfl ?_
      refine zwW_cm C.1 (op := 60) (k' := 123) (n := 1) (kd := 0) (m := 3) (nx := 23) (r := 3) (tl := [(0, a)]) (st' := []) (by decide +kernel) rfl (by decide +kernel) rfl (x123_3 C (i := a) ⟨by omega, by omega⟩) ?_
      rintro v4 _ ⟨rfl, Gv4, ev4⟩
      have lv4 := Gv4.1
      refine zwW_cast (a := 4) (kd := 4) (n := 19) (nx := 26) (by decide +kernel) rfl (Or.inr Gv4.2.1) ?_
      refine zwW_p [(24, 30, 0)] (q := 30) (ls' := [(2, 1), (0, a)]) (st' := [(2, v4)]) (by decide +kernel) rfl ?_
      refine zwW_ret (nx := 31) (a := 0) (b := 2) (by decide +kernel) rfl (Or.inl rfl) ?_
      exact ⟨rfl, Or.inr ⟨Gv4, by omega, by omega, by assumption⟩⟩
-- WheelLand.lotAt(I)LWheelLand$Lot;
theorem x115 {sc : List Int} (h : Hp) (C : CI h) (a : Int) (q_a : -2147483648 ≤ a ∧ a ≤ 2147483647) : zwC sc 5 115 [(2, 1), (0, a)] h (zwRt 2 (fun x g => h = g ∧ ((x = 0 ∧ (a < 0 ∨ fld h 4 2 ≤ a)) ∨ (gL h x ∧ 0 ≤ a ∧ a < fld h 4 2 ∧ x = fld h (fld h 4 1) a.toNat)))) := by
  refine zwC_of (D := 4) 2 (by decide +kernel) rfl (ls := [(2, 1), (0, a)]) rfl ?_
  refine zwW_p [(1, 1, 0)] (q := 1) (ls' := [(2, 1), (0, a)]) (st' := [(0, a)]) (by decide +kernel) rfl ?_
  refine zwif_lt (q := 29) (nx := 4) (by decide +kernel) (fun c1 => ?_) (fun c1 => ?_)
  · refine zwW_p [(0, 0, 2)] (q := 30) (ls' := [(2, 1), (0, a)]) (st' := [(2, 0)]) (by decide +kernel) rfl ?_
    refine zwW_ret (nx := 31) (a := 0) (b := 2) (by decide +kernel) rfl (Or.inl rfl) ?_
    exact ⟨rfl, Or.inl ⟨rfl, by omega⟩⟩
  · refine zwW_p [(1, 1, 0), (1, 0, 2)] (q := 6) (ls' := [(2, 1), (0, a)]) (st' := [(2, 1), (0, a)]) (by decide +kernel) rfl ?_
    refine zwW_gc C.1 (kd := 12) (bn := 4) (n := 13) (c := 4) (nx := 9) (by decide +kernel) ?_
    refine zwW_cm C.1 (op := 60) (k' := 96) (n := 0) (kd := 0) (m := 3) (nx := 12) (r := 4) (tl := []) (st' := [(0, a)]) (by decide +kernel) rfl (by decide +kernel) rfl (x96_4 C) ?_
    rintro v2 _ ⟨rfl, ev2⟩
    have bv2 := zLb_4 C
    refine zwic_ge (q := 29) (nx := 15) (by decide +kernel) (fun c3 => ?_) (fun c3 => ?_)
    · refine zwW_p [(0, 0, 2)] (q := 30) (ls' := [(2, 1), (0, a)]) (st' := [(2, 0)]) (by decide +kernel) rfl ?_
      refine zwW_ret (nx := 31) (a := 0) (b := 2) (by decide +kernel) rfl (Or.inl rfl) ?_
      exact ⟨rfl, Or.inl ⟨rfl, by omega⟩⟩
    · refine zwW_p [(1, 0, 2)] (q := 16) (ls' := [(2, 1), (0, a)]) (st' := [(2, 1)]) (by decide +kernel) rfl ?_
      refine zwW_gc C.1 (kd := 12) (bn := 4) (n := 13) (c := 4) (nx := 19) (by decide +kernel) ?_
      refine zwW_p [(1, 1, 0)] (q := 20) (ls' := [(2, 1), (0, a)]) (st' := [(0, a), (2, 4)]) (by decide +kernel) rfl ?_
      refine zwW_cm C.1 (op := 60) (k' := 123) (n := 1) (kd := 0) (m := 3) (nx := 23) (r := 4) (tl := [(0, a)]) (st' := []) (by decide +kernel) rfl (by decide +kernel) rfl (x123_4 C (i := a) ⟨by omega, by omega⟩) ?_
      rintro v4 _ ⟨rfl, Gv4, ev4⟩
      have lv4 := Gv4.1
      refine zwW_cast (a := 6) (kd := 6) (n := 7) (nx := 26) (by decide +kernel) rfl (Or.inr Gv4.2.1) ?_
      refine zwW_p [(24, 30, 0)] (q := 30) (ls' := [(2, 1), (0, a)]) (st' := [(2, v4)]) (by decide +kernel) rfl ?_
      refine zwW_ret (nx := 31) (a := 0) (b := 2) (by decide +kernel) rfl (Or.inl rfl) ?_
      exact ⟨rfl, Or.inr ⟨Gv4, by omega, by omega, by assumption⟩⟩
-- WheelLand.clothAt(I)LWheelLand$Cloth;
theorem x138 {sc : List Int} (h : Hp) (C : CI h) (a : Int) (q_a : -2147483648 ≤ a ∧ a ≤ 2147483647) : zwC sc 5 138 [(2, 1), (0, a)] h (zwRt 2 (fun x g => h = g ∧ ((x = 0 ∧ (a < 0 ∨ fld h 5 2 ≤ a)) ∨ (gC h x ∧ 0 ≤ a ∧ a < fld h 5 2 ∧ x = fld h (fld h 5 1) a.toNat)))) := by
  refine zwC_of (D := 4) 2 (by decide +kernel) rfl (ls := [(2, 1), (0, a)]) rfl ?_
  refine zwW_p [(1, 1, 0)] (q := 1) (ls' := [(2, 1), (0, a)]) (st' := [(0, a)]) (by decide +kernel) rfl ?_
  refine zwif_lt (q := 29) (nx := 4) (by decide +kernel) (fun c1 => ?_) (fun c1 => ?_)
  · refine zwW_p [(0, 0, 2)] (q := 30) (ls' := [(2, 1), (0, a)]) (st' := [(2, 0)]) (by decide +kernel) rfl ?_
    refine zwW_ret (nx := 31) (a := 0) (b := 2) (by decide +kernel) rfl (Or.inl rfl) ?_
    exact ⟨rfl, Or.inl ⟨rfl, by omega⟩⟩
  · refine zwW_p [(1, 1, 0), (1, 0, 2)] (q := 6) (ls' := [(2, 1), (0, a)]) (st' := [(2, 1), (0, a)]) (by decide +kernel) rfl ?_
    refine zwW_gc C.1 (kd := 12) (bn := 5) (n := 13) (c := 5) (nx := 9) (by decide +kernel) ?_
    refine zwW_cm C.1 (op := 60) (k' := 96) (n := 0) (kd := 0) (m := 3) (nx := 12) (r := 5) (tl := []) (st' := [(0, a)]) (by decide +kernel) rfl (by decide +kernel) rfl (x96_5 C) ?_
    rintro v2 _ ⟨rfl, ev2⟩
    have bv2 := zLb_5 C
    refine zwic_ge (q := 29) (nx := 15) (by decide +kernel) (fun c3 => ?_) (fun c3 => ?_)
    · refine zwW_p [(0, 0, 2)] (q := 30) (ls' := [(2, 1), (0, a)]) (st' := [(2, 0)]) (by decide +kernel) rfl ?_
      refine zwW_ret (nx := 31) (a := 0) (b := 2) (by decide +kernel) rfl (Or.inl rfl) ?_
      exact ⟨rfl, Or.inl ⟨rfl, by omega⟩⟩
    · refine zwW_p [(1, 0, 2)] (q := 16) (ls' := [(2, 1), (0, a)]) (st' := [(2, 1)]) (by decide +kernel) rfl ?_
      refine zwW_gc C.1 (kd := 12) (bn := 5) (n := 13) (c := 5) (nx := 19) (by decide +kernel) ?_
      refine zwW_p [(1, 1, 0)] (q := 20) (ls' := [(2, 1), (0, a)]) (st' := [(0, a), (2, 5)]) (by decide +kernel) rfl ?_
      refine zwW_cm C.1 (op := 60) (k' := 123) (n := 1) (kd := 0) (m := 3) (nx := 23) (r := 5) (tl := [(0, a)]) (st' := []) (by decide +kernel) rfl (by decide +kernel) rfl (x123_5 C (i := a) ⟨by omega, by omega⟩) ?_
      rintro v4 _ ⟨rfl, Gv4, ev4⟩
      have lv4 := Gv4.1
      refine zwW_cast (a := 1) (kd := 1) (n := 6) (nx := 26) (by decide +kernel) rfl (Or.inr Gv4.2.1) ?_
      refine zwW_p [(24, 30, 0)] (q := 30) (ls' := [(2, 1), (0, a)]) (st' := [(2, v4)]) (by decide +kernel) rfl ?_
      refine zwW_ret (nx := 31) (a := 0) (b := 2) (by decide +kernel) rfl (Or.inl rfl) ?_
      exact ⟨rfl, Or.inr ⟨Gv4, by omega, by omega, by assumption⟩⟩
-- WheelLand.daysBetween(LWheelLand$Village;LWheelLand$Village;)I
theorem x105 {sc : List Int} (h : Hp) (C : CI h) (r q : Int) (G_r : r = 0 ∨ gV h r) (G_q : q = 0 ∨ gV h q) : zwC sc 3 105 [(2, 1), (2, r), (2, q)] h (zwRt 0 (fun x g => h = g ∧ (-2147483648 ≤ x ∧ x ≤ 2147483647) ∧ ((r = 0 ∨ q = 0 → x = -1) ∧ (0 < r → 0 < q → 0 ≤ fld h r 0 → fld h r 0 < 8 → 0 ≤ fld h q 0 → fld h q 0 < 8 → x = zDa h (fld h r 0).toNat (fld h q 0).toNat)))) := by
  refine zwC_of (D := 2) 3 (by decide +kernel) rfl (ls := [(2, 1), (2, r), (2, q)]) rfl ?_
  have lw_r : 0 ≤ r := by
    rcases G_r with z | z
    · omega
    · have := z.1
      omega
  have lw_q : 0 ≤ q := by
    rcases G_q with z | z
    · omega
    · have := z.1
      omega
  refine zwW_p [(1, 1, 2)] (q := 1) (ls' := [(2, 1), (2, r), (2, q)]) (st' := [(2, r)]) (by decide +kernel) rfl ?_
  refine zwnu_eq (q := 8) (nx := 4) (by decide +kernel) (by omega) (fun c1 => ?_) (fun c1 => ?_)
  · refine zwW_p [(0, -1, 0), (24, 27, 0)] (q := 27) (ls' := [(2, 1), (2, r), (2, q)]) (st' := [(0, -1)]) (by decide +kernel) rfl ?_
    refine zwW_ret (nx := 28) (a := 0) (b := 0) (by decide +kernel) rfl (Or.inl rfl) ?_
    exact ⟨rfl, by omega, by first | omega | exact ⟨fun z => by omega, fun z1 z2 z3 z4 z5 z6 => by rw [← V24, ← U24]; exact {F1} ⟨by omega, by omega, by omega, by omega⟩⟩⟩
  · have G2 : gV h r := G_r.resolve_left (by omega)
    have lG2 := G2.1
    refine zwW_p [(1, 2, 2)] (q := 5) (ls' := [(2, 1), (2, r), (2, q)]) (st' := [(2, q)]) (by decide +kernel) rfl ?_
    refine zwnu_ne (q := 12) (nx := 8) (by decide +kernel) (by omega) (fun c3 => ?_) (fun c3 => ?_)
    · have G4 : gV h q := G_q.resolve_left (by omega)
      have lG4 := G4.1
      refine zwW_p [(1, 0, 2)] (q := 13) (ls' := [(2, 1), (2, r), (2, q)]) (st' := [(2, 1)]) (by decide +kernel) rfl ?_
      refine zwW_gc C.1 (kd := 12) (bn := 6) (n := 13) (c := 6) (nx := 16) (by decide +kernel) ?_
      refine zwW_p [(1, 1, 2)] (q := 17) (ls' := [(2, 1), (2, r), (2, q)]) (st' := [(2, r), (2, 6)]) (by decide +kernel) rfl ?_
      refine zwX_gi C (kd := 11) (bn := 0) (n := 17) (nx := 20) (by decide +kernel) G2.2.1 G2.1 rfl ?_
      intro v5 ev5 lv5 uv5
      refine zwW_p [(1, 2, 2)] (q := 21) (ls' := [(2, 1), (2, r), (2, q)]) (st' := [(2, q), (0, v5), (2, 6)]) (by decide +kernel) rfl ?_
      refine zwX_gi C (kd := 11) (bn := 0) (n := 17) (nx := 24) (by decide +kernel) G4.2.1 G4.1 rfl ?_
      intro v6 ev6 lv6 uv6
      have V24 := ev6
      have U24 := ev5
      refine zwW_cm C.1 (op := 60) (k' := 184) (n := 2) (kd := 8) (m := 2) (nx := 27) (r := 6) (tl := [(0, v5), (0, v6)]) (st' := []) (by decide +kernel) rfl (by decide +kernel) rfl (x184 h C v5 v6 (by omega) (by omega)) ?_
      rintro v7 _ ⟨rfl, f8, f9⟩
      refine zwW_ret (nx := 28) (a := 0) (b := 0) (by decide +kernel) rfl (Or.inl rfl) ?_
      exact ⟨rfl, by omega, by first | omega | exact ⟨fun z => by omega, fun z1 z2 z3 z4 z5 z6 => by rw [← V24, ← U24]; exact f9 ⟨by omega, by omega, by omega, by omega⟩⟩⟩
    · refine zwW_p [(0, -1, 0), (24, 27, 0)] (q := 27) (ls' := [(2, 1), (2, r), (2, q)]) (st' := [(0, -1)]) (by decide +kernel) rfl ?_
      refine zwW_ret (nx := 28) (a := 0) (b := 0) (by decide +kernel) rfl (Or.inl rfl) ?_
      exact ⟨rfl, by omega, by first | omega | exact ⟨fun z => by omega, fun z1 z2 z3 z4 z5 z6 => by rw [← V24, ← U24]; exact {F1} ⟨by omega, by omega, by omega, by omega⟩⟩⟩
def msx153 : Zms := [(17, 17, 0, 13), (18, 18, 0, 400)]
-- WheelLand.dutyIn(LWheelLand$Village;)I
theorem x153 {sc : List Int} (h : Hp) (C : CI h) (r : Int) (G_r : gV h r) : zwC sc 4 153 [(2, 1), (2, r)] h (zwRt 0 (fun x g => CI g ∧ zXR msx153 (0) (0) h g ∧ (-2147483648 ≤ x ∧ x ≤ 2147483647))) := by
  refine zwC_of (D := 3) 2 (by decide +kernel) rfl (ls := [(2, 1), (2, r)]) rfl ?_
  have lw_r := G_r.1
  have X : zXR msx153 0 0 h h := zXR.rf _ _
  refine zwW_p [(1, 0, 2)] (q := 1) (ls' := [(2, 1), (2, r)]) (st' := [(2, 1)]) (by decide +kernel) rfl ?_
  refine zwW_gc C.1 (kd := 12) (bn := 8) (n := 13) (c := 13) (nx := 4) (by decide +kernel) ?_
  refine zwW_p [(1, 0, 2)] (q := 5) (ls' := [(2, 1), (2, r)]) (st' := [(2, 1), (2, 13)]) (by decide +kernel) rfl ?_
  refine zwW_gs C.1 (kd := 12) (bn := 0) (n := 13) (t := 0) (lo := 0) (hi := 156) (nx := 8) (by decide +kernel) ?_
  intro v1 ev1 lv1 uv1
  refine zwW_cmv C.1 (op := 60) (k' := 166) (n := 1) (kd := 9) (m := 6) (nx := 11) (r := 13) (tl := [(0, v1)]) (st' := []) (by decide +kernel) rfl (by decide +kernel) rfl (x166 h C v1 (by omega) (by omega)) ?_
  rintro h2 ⟨Ch2, Qh2⟩
  have Xh2 : zXR msx153 (0) (0) h h2 := X.tr (c2 := 0) (s2 := 0) Qh2 (by decide +kernel) (by decide) (by decide)
  have Gh2_0 : gV h2 r := G_r.x Qh2
  refine zwW_p [(1, 0, 2)] (q := 12) (ls' := [(2, 1), (2, r)]) (st' := [(2, 1)]) (by decide +kernel) rfl ?_
  refine zwW_gc Ch2.1 (kd := 12) (bn := 8) (n := 13) (c := 13) (nx := 15) (by decide +kernel) ?_
  refine zwW_p [(1, 1, 2)] (q := 16) (ls' := [(2, 1), (2, r)]) (st' := [(2, r), (2, 13)]) (by decide +kernel) rfl ?_
  refine zwX_gi Ch2 (kd := 11) (bn := 9) (n := 17) (nx := 19) (by decide +kernel) Gh2_0.2.1 Gh2_0.1 rfl ?_
  intro v3 ev3 lv3 uv3
  refine zwW_cmv Ch2.1 (op := 60) (k' := 214) (n := 1) (kd := 9) (m := 6) (nx := 22) (r := 13) (tl := [(0, v3)]) (st' := []) (by decide +kernel) rfl (by decide +kernel) rfl (x214 h2 Ch2 v3 (by omega)) ?_
  rintro h4 ⟨Ch4, Qh4⟩
  have Xh4 : zXR msx153 (0) (0) h h4 := Xh2.tr (c2 := 0) (s2 := 0) Qh4 (by decide +kernel) (by decide) (by decide)
  have Gh4_0 : gV h4 r := Gh2_0.x Qh4
  refine zwW_p [(1, 0, 2)] (q := 23) (ls' := [(2, 1), (2, r)]) (st' := [(2, 1)]) (by decide +kernel) rfl ?_
  refine zwW_gc Ch4.1 (kd := 12) (bn := 8) (n := 13) (c := 13) (nx := 26) (by decide +kernel) ?_
  refine zwW_p [(0, 2, 0), (1, 0, 2)] (q := 28) (ls' := [(2, 1), (2, r)]) (st' := [(2, 1), (0, 2), (2, 13)]) (by decide +kernel) rfl ?_
  refine zwW_gs Ch4.1 (kd := 12) (bn := 0) (n := 13) (t := 0) (lo := 0) (hi := 156) (nx := 31) (by decide +kernel) ?_
  intro v5 ev5 lv5 uv5
  refine zwW_cm Ch4.1 (op := 60) (k' := 172) (n := 2) (kd := 9) (m := 6) (nx := 34) (r := 13) (tl := [(0, 2), (0, v5)]) (st' := []) (by decide +kernel) rfl (by decide +kernel) rfl (x172 h4 Ch4 2 v5 (by omega) (by omega)) ?_
  rintro v7 h8 ⟨Ch8, Qh8, f6⟩
  have Xh8 : zXR msx153 (0) (0) h h8 := Xh4.tr (c2 := 0) (s2 := 0) Qh8 (by decide +kernel) (by decide) (by decide)
  have Gh8_0 : gV h8 r := Gh4_0.x Qh8
  refine zwW_p [(0, 0, 0)] (q := 35) (ls' := [(2, 1), (2, r)]) (st' := [(0, 0), (0, v7)]) (by decide +kernel) rfl ?_
  refine zwW_max (nx := 38) (by decide +kernel) rfl ?_
  intro v9 ev9
  refine zwW_ret (nx := 39) (a := 0) (b := 0) (by decide +kernel) rfl (Or.inl rfl) ?_
  exact ⟨Ch8, Xh8.le (by decide) (by decide), by omega⟩
def msx134 : Zms := [(17, 17, 0, 13), (18, 18, 0, 400)]
-- WheelLand.askOfWeaving(ILWheelLand$House;LWheelLand$Lot;I)I
theorem x134 {sc : List Int} (h : Hp) (C : CI h) (a r q b : Int) (q_a : -2147483648 ≤ a ∧ a ≤ 2147483647) (G_r : gH h r) (G_q : gL h q) (q_b : -2147483648 ≤ b ∧ b ≤ 2147483647) : zwC sc 4 134 [(2, 1), (0, a), (2, r), (2, q), (0, b)] h (zwRt 0 (fun x g => CI g ∧ zXR msx134 (0) (0) h g ∧ (-2147483648 ≤ x ∧ x ≤ 2147483647))) := by
  refine zwC_of (D := 3) 5 (by decide +kernel) rfl (ls := [(2, 1), (0, a), (2, r), (2, q), (0, b)]) rfl ?_
  have lw_r := G_r.1
  have lw_q := G_q.1
  have X : zXR msx134 0 0 h h := zXR.rf _ _
  refine zwW_p [(1, 0, 2)] (q := 1) (ls' := [(2, 1), (0, a), (2, r), (2, q), (0, b)]) (st' := [(2, 1)]) (by decide +kernel) rfl ?_
  refine zwW_gc C.1 (kd := 12) (bn := 8) (n := 13) (c := 13) (nx := 4) (by decide +kernel) ?_
  refine zwW_p [(1, 0, 2)] (q := 5) (ls' := [(2, 1), (0, a), (2, r), (2, q), (0, b)]) (st' := [(2, 1), (2, 13)]) (by decide +kernel) rfl ?_
  refine zwW_gs C.1 (kd := 12) (bn := 0) (n := 13) (t := 0) (lo := 0) (hi := 156) (nx := 8) (by decide +kernel) ?_
  intro v1 ev1 lv1 uv1
  refine zwW_cmv C.1 (op := 60) (k' := 166) (n := 1) (kd := 9) (m := 6) (nx := 11) (r := 13) (tl := [(0, v1)]) (st' := []) (by decide +kernel) rfl (by decide +kernel) rfl (x166 h C v1 (by omega) (by omega)) ?_
  rintro h2 ⟨Ch2, Qh2⟩
  have Xh2 : zXR msx134 (0) (0) h h2 := X.tr (c2 := 0) (s2 := 0) Qh2 (by decide +kernel) (by decide) (by decide)
  have Gh2_0 : gH h2 r := G_r.x Qh2
  have Gh2_1 : gL h2 q := G_q.x Qh2
  refine zwW_p [(1, 0, 2)] (q := 12) (ls' := [(2, 1), (0, a), (2, r), (2, q), (0, b)]) (st' := [(2, 1)]) (by decide +kernel) rfl ?_
  refine zwW_gc Ch2.1 (kd := 12) (bn := 8) (n := 13) (c := 13) (nx := 15) (by decide +kernel) ?_
  refine zwW_p [(1, 3, 2)] (q := 16) (ls' := [(2, 1), (0, a), (2, r), (2, q), (0, b)]) (st' := [(2, q), (2, 13)]) (by decide +kernel) rfl ?_
  refine zwW_get (kd := 6) (bn := 1) (t := 2) (n := 7) (nx := 19) (by decide +kernel) Gh2_1.2.1 rfl ?_
  obtain ⟨v3, ev3⟩ : ∃ z, z = fld h2 q 1 := ⟨_, rfl⟩
  rw [← ev3]
  have Gv3 : gH h2 v3 := by rw [ev3]; exact Gh2_1.2.2
  have lv3 := Gv3.1
  refine zwW_p [(1, 0, 2)] (q := 20) (ls' := [(2, 1), (0, a), (2, r), (2, q), (0, b)]) (st' := [(2, 1), (2, v3), (2, 13)]) (by decide +kernel) rfl ?_
  refine zwW_gs Ch2.1 (kd := 12) (bn := 0) (n := 13) (t := 0) (lo := 0) (hi := 156) (nx := 23) (by decide +kernel) ?_
  intro v4 ev4 lv4 uv4
  refine zwW_cs (k' := 162) (n := 1) (nx := 26) (as := [(0, v4)]) (st' := [(2, v3), (2, 13)]) (by decide +kernel) rfl (x162 h2 Ch2 v4 (by omega) (by omega)) rfl ?_
  rintro v5 _ ⟨rfl, f6, f7, f8⟩
  refine zwW_cmv Ch2.1 (op := 60) (k' := 167) (n := 2) (kd := 9) (m := 6) (nx := 29) (r := 13) (tl := [(2, v3), (0, v5)]) (st' := []) (by decide +kernel) rfl (by decide +kernel) rfl (x167 h2 Ch2 v3 v5 Gv3 (by omega)) ?_
  rintro h9 ⟨Ch9, Qh9⟩
  have Xh9 : zXR msx134 (0) (0) h h9 := Xh2.tr (c2 := 0) (s2 := 0) Qh9 (by decide +kernel) (by decide) (by decide)
  have Gh9_0 : gH h9 r := Gh2_0.x Qh9
  have Gh9_1 : gL h9 q := Gh2_1.x Qh9
  refine zwW_p [(1, 0, 2)] (q := 30) (ls' := [(2, 1), (0, a), (2, r), (2, q), (0, b)]) (st' := [(2, 1)]) (by decide +kernel) rfl ?_
  refine zwW_gc Ch9.1 (kd := 12) (bn := 8) (n := 13) (c := 13) (nx := 33) (by decide +kernel) ?_
  refine zwW_p [(1, 2, 2)] (q := 34) (ls' := [(2, 1), (0, a), (2, r), (2, q), (0, b)]) (st' := [(2, r), (2, 13)]) (by decide +kernel) rfl ?_
  refine zwX_gi Ch9 (kd := 4) (bn := 4) (n := 19) (nx := 37) (by decide +kernel) Gh9_0.2.1 Gh9_0.1 rfl ?_
  intro v10 ev10 lv10 uv10
  refine zwW_p [(1, 0, 2), (1, 3, 2)] (q := 39) (ls' := [(2, 1), (0, a), (2, r), (2, q), (0, b)]) (st' := [(2, q), (2, 1), (0, v10), (2, 13)]) (by decide +kernel) rfl ?_
  refine zwW_get (kd := 6) (bn := 1) (t := 2) (n := 7) (nx := 42) (by decide +kernel) Gh9_1.2.1 rfl ?_
  obtain ⟨v11, ev11⟩ : ∃ z, z = fld h9 q 1 := ⟨_, rfl⟩
  rw [← ev11]
  have Gv11 : gH h9 v11 := by rw [ev11]; exact Gh9_1.2.2
  have lv11 := Gv11.1
  refine zwW_get (kd := 4) (bn := 1) (t := 2) (n := 19) (nx := 45) (by decide +kernel) Gv11.2.1 rfl ?_
  obtain ⟨v12, ev12⟩ : ∃ z, z = fld h9 v11 1 := ⟨_, rfl⟩
  rw [← ev12]
  have Gv12 : gV h9 v12 := by rw [ev12]; exact Gv11.2.2
  have lv12 := Gv12.1
  refine zwW_p [(1, 2, 2)] (q := 46) (ls' := [(2, 1), (0, a), (2, r), (2, q), (0, b)]) (st' := [(2, r), (2, v12), (2, 1), (0, v10), (2, 13)]) (by decide +kernel) rfl ?_
  refine zwW_get (kd := 4) (bn := 1) (t := 2) (n := 19) (nx := 49) (by decide +kernel) Gh9_0.2.1 rfl ?_
  obtain ⟨v13, ev13⟩ : ∃ z, z = fld h9 r 1 := ⟨_, rfl⟩
  rw [← ev13]
  have Gv13 : gV h9 v13 := by rw [ev13]; exact Gh9_0.2.2
  have lv13 := Gv13.1
  refine zwW_cm Ch9.1 (op := 60) (k' := 105) (n := 2) (kd := 12) (m := 13) (nx := 52) (r := 1) (tl := [(2, v12), (2, v13)]) (st' := [(0, v10), (2, 13)]) (by decide +kernel) rfl (by decide +kernel) rfl (x105 h9 Ch9 v12 v13 (Or.inr Gv12) (Or.inr Gv13)) ?_
  rintro v14 _ ⟨rfl, f15, f16⟩
  refine zwW_cmv Ch9.1 (op := 60) (k' := 168) (n := 2) (kd := 9) (m := 6) (nx := 55) (r := 13) (tl := [(0, v10), (0, v14)]) (st' := []) (by decide +kernel) rfl (by decide +kernel) rfl (x168 h9 Ch9 v10 v14 (by omega) (by omega)) ?_
  rintro h17 ⟨Ch17, Qh17⟩
  have Xh17 : zXR msx134 (0) (0) h h17 := Xh9.tr (c2 := 0) (s2 := 0) Qh17 (by decide +kernel) (by decide) (by decide)
  have Gh17_0 : gH h17 r := Gh9_0.x Qh17
  have Gh17_1 : gL h17 q := Gh9_1.x Qh17
  refine zwW_p [(1, 0, 2)] (q := 56) (ls' := [(2, 1), (0, a), (2, r), (2, q), (0, b)]) (st' := [(2, 1)]) (by decide +kernel) rfl ?_
  refine zwW_gc Ch17.1 (kd := 12) (bn := 8) (n := 13) (c := 13) (nx := 59) (by decide +kernel) ?_
  refine zwW_p [(1, 3, 2)] (q := 60) (ls' := [(2, 1), (0, a), (2, r), (2, q), (0, b)]) (st' := [(2, q), (2, 13)]) (by decide +kernel) rfl ?_
  refine zwX_gi Ch17 (kd := 6) (bn := 3) (n := 7) (nx := 63) (by decide +kernel) Gh17_1.2.1 Gh17_1.1 rfl ?_
  intro v18 ev18 lv18 uv18
  refine zwW_p [(1, 3, 2)] (q := 64) (ls' := [(2, 1), (0, a), (2, r), (2, q), (0, b)]) (st' := [(2, q), (0, v18), (2, 13)]) (by decide +kernel) rfl ?_
  refine zwX_gi Ch17 (kd := 6) (bn := 4) (n := 7) (nx := 67) (by decide +kernel) Gh17_1.2.1 Gh17_1.1 rfl ?_
  intro v19 ev19 lv19 uv19
  refine zwW_p [(1, 4, 0)] (q := 69) (ls' := [(2, 1), (0, a), (2, r), (2, q), (0, b)]) (st' := [(0, b), (0, v19), (0, v18), (2, 13)]) (by decide +kernel) rfl ?_
  refine zwW_cmv Ch17.1 (op := 60) (k' := 171) (n := 3) (kd := 9) (m := 6) (nx := 72) (r := 13) (tl := [(0, v18), (0, v19), (0, b)]) (st' := []) (by decide +kernel) rfl (by decide +kernel) rfl (x171 h17 Ch17 v18 v19 b (by omega) (by omega) (by omega)) ?_
  rintro h20 ⟨Ch20, Qh20⟩
  have Xh20 : zXR msx134 (0) (0) h h20 := Xh17.tr (c2 := 0) (s2 := 0) Qh20 (by decide +kernel) (by decide) (by decide)
  have Gh20_0 : gH h20 r := Gh17_0.x Qh20
  have Gh20_1 : gL h20 q := Gh17_1.x Qh20
  refine zwW_p [(1, 0, 2)] (q := 73) (ls' := [(2, 1), (0, a), (2, r), (2, q), (0, b)]) (st' := [(2, 1)]) (by decide +kernel) rfl ?_
  refine zwW_gc Ch20.1 (kd := 12) (bn := 8) (n := 13) (c := 13) (nx := 76) (by decide +kernel) ?_
  refine zwW_p [(1, 1, 0), (1, 0, 2)] (q := 78) (ls' := [(2, 1), (0, a), (2, r), (2, q), (0, b)]) (st' := [(2, 1), (0, a), (2, 13)]) (by decide +kernel) rfl ?_
  refine zwW_gs Ch20.1 (kd := 12) (bn := 0) (n := 13) (t := 0) (lo := 0) (hi := 156) (nx := 81) (by decide +kernel) ?_
  intro v21 ev21 lv21 uv21
  refine zwW_cm Ch20.1 (op := 60) (k' := 172) (n := 2) (kd := 9) (m := 6) (nx := 84) (r := 13) (tl := [(0, a), (0, v21)]) (st' := []) (by decide +kernel) rfl (by decide +kernel) rfl (x172 h20 Ch20 a v21 (by omega) (by omega)) ?_
  rintro v23 h24 ⟨Ch24, Qh24, f22⟩
  have Xh24 : zXR msx134 (0) (0) h h24 := Xh20.tr (c2 := 0) (s2 := 0) Qh24 (by decide +kernel) (by decide) (by decide)
  have Gh24_0 : gH h24 r := Gh20_0.x Qh24
  have Gh24_1 : gL h24 q := Gh20_1.x Qh24
  refine zwW_ret (nx := 85) (a := 0) (b := 0) (by decide +kernel) rfl (Or.inl rfl) ?_
  exact ⟨Ch24, Xh24.le (by decide) (by decide), by omega⟩
def msx207 : Zms := [(17, 17, 0, 13), (18, 18, 0, 400)]
-- WheelLand.lastingBarOf(LWheelLand$House;LWheelLand$Lot;I)I
theorem x207 {sc : List Int} (h : Hp) (C : CI h) (r q a : Int) (G_r : gH h r) (G_q : gL h q) (q_a : -2147483648 ≤ a ∧ a ≤ 2147483647) : zwC sc 5 207 [(2, 1), (2, r), (2, q), (0, a)] h (zwRt 0 (fun x g => CI g ∧ zXR msx207 (0) (0) h g ∧ (-2147483648 ≤ x ∧ x ≤ 2147483647))) := by
  refine zwC_of (D := 4) 4 (by decide +kernel) rfl (ls := [(2, 1), (2, r), (2, q), (0, a)]) rfl ?_
  have lw_r := G_r.1
  have lw_q := G_q.1
  have X : zXR msx207 0 0 h h := zXR.rf _ _
  refine zwW_p [(1, 1, 2)] (q := 1) (ls' := [(2, 1), (2, r), (2, q), (0, a)]) (st' := [(2, r)]) (by decide +kernel) rfl ?_
  refine zwW_cv (op := 60) (k' := 110) (n := 0) (kd := 4) (m := 19) (nx := 4) (r := r) (tl := []) (st' := []) (by decide +kernel) rfl (by decide +kernel) G_r.2.1 (x110 h C r G_r) rfl ?_
  rintro x _ ⟨rfl, ⟨rfl, c1⟩ | ⟨rfl, c1⟩⟩
  · refine zwif_ne (q := 9) (nx := 7) (by decide +kernel) (fun c2 => ?_) (fun c2 => ?_)
    · refine zwW_p [(1, 2, 2)] (q := 10) (ls' := [(2, 1), (2, r), (2, q), (0, a)]) (st' := [(2, q)]) (by decide +kernel) rfl ?_
      refine zwX_gi C (kd := 6) (bn := 3) (n := 7) (nx := 13) (by decide +kernel) G_q.2.1 G_q.1 rfl ?_
      intro v3 ev3 lv3 uv3
      refine zwW_p [(1, 1, 2)] (q := 14) (ls' := [(2, 1), (2, r), (2, q), (0, a)]) (st' := [(2, r), (0, v3)]) (by decide +kernel) rfl ?_
      refine zwX_gi C (kd := 4) (bn := 11) (n := 19) (nx := 17) (by decide +kernel) G_r.2.1 G_r.1 rfl ?_
      intro v4 ev4 lv4 uv4
      refine zwW_p [(1, 1, 2)] (q := 18) (ls' := [(2, 1), (2, r), (2, q), (0, a)]) (st' := [(2, r), (0, v4), (0, v3)]) (by decide +kernel) rfl ?_
      refine zwX_gi C (kd := 4) (bn := 12) (n := 19) (nx := 21) (by decide +kernel) G_r.2.1 G_r.1 rfl ?_
      intro v5 ev5 lv5 uv5
      refine zwW_cs (k' := 98) (n := 3) (nx := 24) (as := [(0, v3), (0, v4), (0, v5)]) (st' := []) (by decide +kernel) rfl (x98 h C v3 v4 v5 (by omega) (by omega) (by omega)) rfl ?_
      rintro x _ ⟨rfl, ⟨rfl, c6⟩ | ⟨rfl, c6⟩⟩
      · refine zwif_eq (q := 29) (nx := 27) (by decide +kernel) (fun c7 => ?_) (fun c7 => ?_)
        · exfalso; omega
        · refine zwW_p [(0, 2, 0)] (q := 28) (ls' := [(2, 1), (2, r), (2, q), (0, a)]) (st' := [(0, 2)]) (by decide +kernel) rfl ?_
          refine zwW_ret (nx := 29) (a := 0) (b := 0) (by decide +kernel) rfl (Or.inl rfl) ?_
          exact ⟨C, X.le (by decide) (by decide), by omega⟩
      · refine zwif_eq (q := 29) (nx := 27) (by decide +kernel) (fun c8 => ?_) (fun c8 => ?_)
        · refine zwW_p [(1, 2, 2)] (q := 30) (ls' := [(2, 1), (2, r), (2, q), (0, a)]) (st' := [(2, q)]) (by decide +kernel) rfl ?_
          refine zwX_gi C (kd := 6) (bn := 4) (n := 7) (nx := 33) (by decide +kernel) G_q.2.1 G_q.1 rfl ?_
          intro v9 ev9 lv9 uv9
          refine zwW_p [(1, 2, 2)] (q := 34) (ls' := [(2, 1), (2, r), (2, q), (0, a)]) (st' := [(2, q), (0, v9)]) (by decide +kernel) rfl ?_
          refine zwX_gi C (kd := 6) (bn := 3) (n := 7) (nx := 37) (by decide +kernel) G_q.2.1 G_q.1 rfl ?_
          intro v10 ev10 lv10 uv10
          refine zwW_p [(0, 30, 0)] (q := 39) (ls' := [(2, 1), (2, r), (2, q), (0, a)]) (st' := [(0, 30), (0, v10), (0, v9)]) (by decide +kernel) rfl ?_
          refine zwW_adw (nx := 40) (by decide +kernel) ?_
          intro v11 ev11 lv11 uv11
          have Ev11 : v11 = w32 ((fld h q 3) + 30) := by rw [ev11, ev10]
          refine zwic_ge (q := 45) (nx := 43) (by decide +kernel) (fun c12 => ?_) (fun c12 => ?_)
          · refine zwW_p [(1, 0, 2), (1, 2, 2)] (q := 47) (ls' := [(2, 1), (2, r), (2, q), (0, a)]) (st' := [(2, q), (2, 1)]) (by decide +kernel) rfl ?_
            refine zwW_get (kd := 6) (bn := 1) (t := 2) (n := 7) (nx := 50) (by decide +kernel) G_q.2.1 rfl ?_
            obtain ⟨v13, ev13⟩ : ∃ z, z = fld h q 1 := ⟨_, rfl⟩
            rw [← ev13]
            have Gv13 : gH h v13 := by rw [ev13]; exact G_q.2.2
            have lv13 := Gv13.1
            refine zwW_get (kd := 4) (bn := 1) (t := 2) (n := 19) (nx := 53) (by decide +kernel) Gv13.2.1 rfl ?_
            obtain ⟨v14, ev14⟩ : ∃ z, z = fld h v13 1 := ⟨_, rfl⟩
            rw [← ev14]
            have Gv14 : gV h v14 := by rw [ev14]; exact Gv13.2.2
            have lv14 := Gv14.1
            refine zwW_p [(1, 1, 2)] (q := 54) (ls' := [(2, 1), (2, r), (2, q), (0, a)]) (st' := [(2, r), (2, v14), (2, 1)]) (by decide +kernel) rfl ?_
            refine zwW_get (kd := 4) (bn := 1) (t := 2) (n := 19) (nx := 57) (by decide +kernel) G_r.2.1 rfl ?_
            obtain ⟨v15, ev15⟩ : ∃ z, z = fld h r 1 := ⟨_, rfl⟩
            rw [← ev15]
            have Gv15 : gV h v15 := by rw [ev15]; exact G_r.2.2
            have lv15 := Gv15.1
            refine zwW_cm C.1 (op := 60) (k' := 105) (n := 2) (kd := 12) (m := 13) (nx := 60) (r := 1) (tl := [(2, v14), (2, v15)]) (st' := []) (by decide +kernel) rfl (by decide +kernel) rfl (x105 h C v14 v15 (Or.inr Gv14) (Or.inr Gv15)) ?_
            rintro v16 _ ⟨rfl, f17, f18⟩
            refine zwW_p [(0, -1, 0)] (q := 61) (ls' := [(2, 1), (2, r), (2, q), (0, a)]) (st' := [(0, -1), (0, v16)]) (by decide +kernel) rfl ?_
            refine zwic_ne (q := 66) (nx := 64) (by decide +kernel) (fun c19 => ?_) (fun c19 => ?_)
            · refine zwW_p [(1, 0, 2), (0, 3, 0), (1, 1, 2), (1, 2, 2), (1, 3, 0)] (q := 71) (ls' := [(2, 1), (2, r), (2, q), (0, a)]) (st' := [(0, a), (2, q), (2, r), (0, 3), (2, 1)]) (by decide +kernel) rfl ?_
              refine zwW_cm C.1 (op := 60) (k' := 134) (n := 4) (kd := 12) (m := 13) (nx := 74) (r := 1) (tl := [(0, 3), (2, r), (2, q), (0, a)]) (st' := []) (by decide +kernel) rfl (by decide +kernel) rfl (x134 h C 3 r q a (by omega) G_r G_q (by omega)) ?_
              rintro v21 h22 ⟨Ch22, Qh22, f20⟩
              have Xh22 : zXR msx207 (0) (0) h h22 := X.tr (c2 := 0) (s2 := 0) Qh22 (by decide +kernel) (by decide) (by decide)
              have Gh22_0 : gH h22 r := G_r.x Qh22
              have Gh22_1 : gL h22 q := G_q.x Qh22
              refine zwif_ne (q := 81) (nx := 77) (by decide +kernel) (fun c23 => ?_) (fun c23 => ?_)
              · refine zwW_p [(0, 0, 0)] (q := 82) (ls' := [(2, 1), (2, r), (2, q), (0, a)]) (st' := [(0, 0)]) (by decide +kernel) rfl ?_
                refine zwW_ret (nx := 83) (a := 0) (b := 0) (by decide +kernel) rfl (Or.inl rfl) ?_
                exact ⟨Ch22, Xh22.le (by decide) (by decide), by omega⟩
              · refine zwW_p [(0, 5, 0), (24, 82, 0)] (q := 82) (ls' := [(2, 1), (2, r), (2, q), (0, a)]) (st' := [(0, 5)]) (by decide +kernel) rfl ?_
                refine zwW_ret (nx := 83) (a := 0) (b := 0) (by decide +kernel) rfl (Or.inl rfl) ?_
                exact ⟨Ch22, Xh22.le (by decide) (by decide), by omega⟩
            · refine zwW_p [(0, 4, 0)] (q := 65) (ls' := [(2, 1), (2, r), (2, q), (0, a)]) (st' := [(0, 4)]) (by decide +kernel) rfl ?_
              refine zwW_ret (nx := 66) (a := 0) (b := 0) (by decide +kernel) rfl (Or.inl rfl) ?_
              exact ⟨C, X.le (by decide) (by decide), by omega⟩
          · refine zwW_p [(0, 3, 0)] (q := 44) (ls' := [(2, 1), (2, r), (2, q), (0, a)]) (st' := [(0, 3)]) (by decide +kernel) rfl ?_
            refine zwW_ret (nx := 45) (a := 0) (b := 0) (by decide +kernel) rfl (Or.inl rfl) ?_
            exact ⟨C, X.le (by decide) (by decide), by omega⟩
        · exfalso; omega
    · exfalso; omega
  · refine zwif_ne (q := 9) (nx := 7) (by decide +kernel) (fun c24 => ?_) (fun c24 => ?_)
    · exfalso; omega
    · refine zwW_p [(0, 1, 0)] (q := 8) (ls' := [(2, 1), (2, r), (2, q), (0, a)]) (st' := [(0, 1)]) (by decide +kernel) rfl ?_
      refine zwW_ret (nx := 9) (a := 0) (b := 0) (by decide +kernel) rfl (Or.inl rfl) ?_
      exact ⟨C, X.le (by decide) (by decide), by omega⟩
def msx131 : Zms := [(17, 17, 0, 13), (18, 18, 0, 400)]
-- WheelLand.barOf(LWheelLand$House;LWheelLand$Lot;I)I
theorem x131 {sc : List Int} (h : Hp) (C : CI h) (r q a : Int) (G_r : gH h r) (G_q : gL h q) (q_a : -2147483648 ≤ a ∧ a ≤ 2147483647) : zwC sc 6 131 [(2, 1), (2, r), (2, q), (0, a)] h (zwRt 0 (fun x g => CI g ∧ zXR msx131 (0) (0) h g ∧ (-2147483648 ≤ x ∧ x ≤ 2147483647))) := by
  refine zwC_of (D := 5) 5 (by decide +kernel) rfl (ls := [(2, 1), (2, r), (2, q), (0, a), (9, 0)]) rfl ?_
  have lw_r := G_r.1
  have lw_q := G_q.1
  have X : zXR msx131 0 0 h h := zXR.rf _ _
  refine zwW_p [(1, 0, 2), (1, 1, 2), (1, 2, 2), (1, 3, 0)] (q := 4) (ls' := [(2, 1), (2, r), (2, q), (0, a), (9, 0)]) (st' := [(0, a), (2, q), (2, r), (2, 1)]) (by decide +kernel) rfl ?_
  refine zwW_cm C.1 (op := 60) (k' := 207) (n := 3) (kd := 12) (m := 13) (nx := 7) (r := 1) (tl := [(2, r), (2, q), (0, a)]) (st' := []) (by decide +kernel) rfl (by decide +kernel) rfl (x207 h C r q a G_r G_q (by omega)) ?_
  rintro v2 h3 ⟨Ch3, Qh3, f1⟩
  have Xh3 : zXR msx131 (0) (0) h h3 := X.tr (c2 := 0) (s2 := 0) Qh3 (by decide +kernel) (by decide) (by decide)
  have Gh3_0 : gH h3 r := G_r.x Qh3
  have Gh3_1 : gL h3 q := G_q.x Qh3
  refine zwW_p [(2, 4, 0), (1, 4, 0)] (q := 11) (ls' := [(2, 1), (2, r), (2, q), (0, a), (0, v2)]) (st' := [(0, v2)]) (by decide +kernel) rfl ?_
  refine zwif_eq (q := 17) (nx := 14) (by decide +kernel) (fun c4 => ?_) (fun c4 => ?_)
  · refine zwW_p [(1, 2, 2)] (q := 18) (ls' := [(2, 1), (2, r), (2, q), (0, a), (0, v2)]) (st' := [(2, q)]) (by decide +kernel) rfl ?_
    refine zwX_gi Ch3 (kd := 6) (bn := 6) (n := 7) (nx := 21) (by decide +kernel) Gh3_1.2.1 Gh3_1.1 rfl ?_
    intro v5 ev5 lv5 uv5
    refine zwW_p [(1, 3, 0)] (q := 22) (ls' := [(2, 1), (2, r), (2, q), (0, a), (0, v2)]) (st' := [(0, a), (0, v5)]) (by decide +kernel) rfl ?_
    refine zwic_ge (q := 28) (nx := 25) (by decide +kernel) (fun c6 => ?_) (fun c6 => ?_)
    · refine zwW_p [(1, 1, 2)] (q := 29) (ls' := [(2, 1), (2, r), (2, q), (0, a), (0, v2)]) (st' := [(2, r)]) (by decide +kernel) rfl ?_
      refine zwX_gi Ch3 (kd := 4) (bn := 13) (n := 19) (nx := 32) (by decide +kernel) Gh3_0.2.1 Gh3_0.1 rfl ?_
      intro v7 ev7 lv7 uv7
      refine zwW_p [(1, 1, 2)] (q := 33) (ls' := [(2, 1), (2, r), (2, q), (0, a), (0, v2)]) (st' := [(2, r), (0, v7)]) (by decide +kernel) rfl ?_
      refine zwX_gi Ch3 (kd := 4) (bn := 14) (n := 19) (nx := 36) (by decide +kernel) Gh3_0.2.1 Gh3_0.1 rfl ?_
      intro v8 ev8 lv8 uv8
      refine zwW_sbw (nx := 37) (by decide +kernel) ?_
      intro v9 ev9 lv9 uv9
      have Ev9 : v9 = w32 ((fld h3 r 13) - (fld h3 r 14)) := by rw [ev9, ev7, ev8]
      refine zwW_p [(1, 3, 0)] (q := 38) (ls' := [(2, 1), (2, r), (2, q), (0, a), (0, v2)]) (st' := [(0, a), (0, v9)]) (by decide +kernel) rfl ?_
      refine zwic_ge (q := 46) (nx := 41) (by decide +kernel) (fun c10 => ?_) (fun c10 => ?_)
      · refine zwW_p [(0, 0, 0)] (q := 47) (ls' := [(2, 1), (2, r), (2, q), (0, a), (0, v2)]) (st' := [(0, 0)]) (by decide +kernel) rfl ?_
        refine zwW_ret (nx := 48) (a := 0) (b := 0) (by decide +kernel) rfl (Or.inl rfl) ?_
        exact ⟨Ch3, Xh3.le (by decide) (by decide), by omega⟩
      · refine zwW_p [(0, 7, 0), (24, 47, 0)] (q := 47) (ls' := [(2, 1), (2, r), (2, q), (0, a), (0, v2)]) (st' := [(0, 7)]) (by decide +kernel) rfl ?_
        refine zwW_ret (nx := 48) (a := 0) (b := 0) (by decide +kernel) rfl (Or.inl rfl) ?_
        exact ⟨Ch3, Xh3.le (by decide) (by decide), by omega⟩
    · refine zwW_p [(0, 6, 0)] (q := 27) (ls' := [(2, 1), (2, r), (2, q), (0, a), (0, v2)]) (st' := [(0, 6)]) (by decide +kernel) rfl ?_
      refine zwW_ret (nx := 28) (a := 0) (b := 0) (by decide +kernel) rfl (Or.inl rfl) ?_
      exact ⟨Ch3, Xh3.le (by decide) (by decide), by omega⟩
  · refine zwW_p [(1, 4, 0)] (q := 16) (ls' := [(2, 1), (2, r), (2, q), (0, a), (0, v2)]) (st' := [(0, v2)]) (by decide +kernel) rfl ?_
    refine zwW_ret (nx := 17) (a := 0) (b := 0) (by decide +kernel) rfl (Or.inl rfl) ?_
    exact ⟨Ch3, Xh3.le (by decide) (by decide), by omega⟩
