/-! joined: 68.x3 69.agram 70.x4 71.agram2 72.x5 73.x6 -/
section
/-! contracts of the class -/
def msx166 : Zms := [(17, 17, 0, 13)]
-- WheelLand$Rules.begin(I)V
theorem x166 {sc : List Int} (h : Hp) (C : CI h) (a : Int) (q_a : -2147483648 ≤ a ∧ a ≤ 2147483647) (p1 : 0 ≤ a) : zwC sc 2 166 [(2, 13), (0, a)] h (zwRv (fun g => CI g ∧ zXR msx166 (0) (0) h g)) := by
  refine zwC_of (D := 1) 2 (by decide +kernel) rfl (ls := [(2, 13), (0, a)]) rfl ?_
  have X : zXR msx166 0 0 h h := zXR.rf _ _
  refine zwW_p [(1, 0, 2)] (q := 1) (ls' := [(2, 13), (0, a)]) (st' := [(2, 13)]) (by decide +kernel) rfl ?_
  refine zwW_gc C.1 (kd := 9) (bn := 4) (n := 6) (c := 17) (nx := 4) (by decide +kernel) ?_
  refine zwW_p [(0, 0, 0)] (q := 5) (ls' := [(2, 13), (0, a)]) (st' := [(0, 0), (2, 17)]) (by decide +kernel) rfl ?_
  refine zwW_csv (k' := 180) (n := 2) (nx := 8) (as := [(2, 17), (0, 0)]) (st' := []) (by decide +kernel) rfl (x180_17 C (by first | omega | exact ⟨by omega, by omega⟩)) rfl ?_
  rintro h1 ⟨Ch1, Qh1, fh1⟩
  have Xh1 : zXR msx166 (0) (0) h h1 := X.tr (c2 := 0) (s2 := 0) Qh1 (by decide +kernel) (by decide) (by decide)
  refine zwW_p [(1, 0, 2)] (q := 9) (ls' := [(2, 13), (0, a)]) (st' := [(2, 13)]) (by decide +kernel) rfl ?_
  refine zwW_gc Ch1.1 (kd := 9) (bn := 4) (n := 6) (c := 17) (nx := 12) (by decide +kernel) ?_
  refine zwW_p [(0, 0, 0), (1, 1, 0)] (q := 14) (ls' := [(2, 13), (0, a)]) (st' := [(0, a), (0, 0), (2, 17)]) (by decide +kernel) rfl ?_
  refine zwW_as Ch1.1 (a1 := 17) (a2 := 17) (n := 13) (lo := -2147483648) (hi := 2147483647) (nx := 15) (by decide +kernel) (by first | decide | exact ⟨by decide, by decide⟩) (by first | decide | exact ⟨by decide, by decide⟩) (by first | omega | exact ⟨by omega, by omega⟩) ?_
  intro h2 eh2 Ih2
  have Ch2 : CI h2 := Ch1.wc eh2 Ih2 (by decide) (by decide)
  have Qh2 : zXR [(17, 17, 0, 13)] 0 0 h1 h2 := zXR.wc eh2 rfl ⟨by decide, by decide, Or.inl (by decide)⟩ (by first | decide | exact ⟨by decide, by decide⟩)
  have Xh2 : zXR msx166 (0) (0) h h2 := Xh1.tr (c2 := 0) (s2 := 0) Qh2 (by decide +kernel) (by decide) (by decide)
  refine zwW_p [(1, 0, 2)] (q := 16) (ls' := [(2, 13), (0, a)]) (st' := [(2, 13)]) (by decide +kernel) rfl ?_
  refine zwW_gc Ch2.1 (kd := 9) (bn := 4) (n := 6) (c := 17) (nx := 19) (by decide +kernel) ?_
  refine zwW_p [(0, 1, 0), (1, 1, 0)] (q := 21) (ls' := [(2, 13), (0, a)]) (st' := [(0, a), (0, 1), (2, 17)]) (by decide +kernel) rfl ?_
  refine zwW_cs (k' := 162) (n := 1) (nx := 24) (as := [(0, a)]) (st' := [(0, 1), (2, 17)]) (by decide +kernel) rfl (x162 h2 Ch2 a (by omega) (by omega)) rfl ?_
  rintro v3 _ ⟨rfl, f4, f5, f6⟩
  refine zwW_as Ch2.1 (a1 := 17) (a2 := 17) (n := 13) (lo := -2147483648) (hi := 2147483647) (nx := 25) (by decide +kernel) (by first | decide | exact ⟨by decide, by decide⟩) (by first | decide | exact ⟨by decide, by decide⟩) (by first | omega | exact ⟨by omega, by omega⟩) ?_
  intro h7 eh7 Ih7
  have Ch7 : CI h7 := Ch2.wc eh7 Ih7 (by decide) (by decide)
  have Qh7 : zXR [(17, 17, 0, 13)] 0 0 h2 h7 := zXR.wc eh7 rfl ⟨by decide, by decide, Or.inl (by decide)⟩ (by first | decide | exact ⟨by decide, by decide⟩)
  have Xh7 : zXR msx166 (0) (0) h h7 := Xh2.tr (c2 := 0) (s2 := 0) Qh7 (by decide +kernel) (by decide) (by decide)
  refine zwW_retv (nx := 26) (a := 0) (b := 0) (by decide +kernel) ?_
  exact ⟨Ch7, Xh7.le (by decide) (by decide)⟩
def msx167 : Zms := [(17, 17, 0, 13)]
-- WheelLand$Rules.tellHouse(LWheelLand$House;I)V
theorem x167 {sc : List Int} (h : Hp) (C : CI h) (r a : Int) (G_r : gH h r) (q_a : -2147483648 ≤ a ∧ a ≤ 2147483647) : zwC sc 2 167 [(2, 13), (2, r), (0, a)] h (zwRv (fun g => CI g ∧ zXR msx167 (0) (0) h g)) := by
  refine zwC_of (D := 1) 3 (by decide +kernel) rfl (ls := [(2, 13), (2, r), (0, a)]) rfl ?_
  have lw_r := G_r.1
  have X : zXR msx167 0 0 h h := zXR.rf _ _
  refine zwW_p [(1, 0, 2)] (q := 1) (ls' := [(2, 13), (2, r), (0, a)]) (st' := [(2, 13)]) (by decide +kernel) rfl ?_
  refine zwW_gc C.1 (kd := 9) (bn := 4) (n := 6) (c := 17) (nx := 4) (by decide +kernel) ?_
  refine zwW_p [(0, 2, 0), (1, 1, 2)] (q := 6) (ls' := [(2, 13), (2, r), (0, a)]) (st' := [(2, r), (0, 2), (2, 17)]) (by decide +kernel) rfl ?_
  refine zwX_gi C (kd := 4) (bn := 5) (n := 19) (nx := 9) (by decide +kernel) G_r.2.1 G_r.1 rfl ?_
  intro v1 ev1 lv1 uv1
  refine zwW_as C.1 (a1 := 17) (a2 := 17) (n := 13) (lo := -2147483648) (hi := 2147483647) (nx := 10) (by decide +kernel) (by first | decide | exact ⟨by decide, by decide⟩) (by first | decide | exact ⟨by decide, by decide⟩) (by first | omega | exact ⟨by omega, by omega⟩) ?_
  intro h2 eh2 Ih2
  have Ch2 : CI h2 := C.wc eh2 Ih2 (by decide) (by decide)
  have Qh2 : zXR [(17, 17, 0, 13)] 0 0 h h2 := zXR.wc eh2 rfl ⟨by decide, by decide, Or.inl (by decide)⟩ (by first | decide | exact ⟨by decide, by decide⟩)
  have Xh2 : zXR msx167 (0) (0) h h2 := X.tr (c2 := 0) (s2 := 0) Qh2 (by decide +kernel) (by decide) (by decide)
  have Gh2_0 : gH h2 r := G_r.x Qh2
  refine zwW_p [(1, 0, 2)] (q := 11) (ls' := [(2, 13), (2, r), (0, a)]) (st' := [(2, 13)]) (by decide +kernel) rfl ?_
  refine zwW_gc Ch2.1 (kd := 9) (bn := 4) (n := 6) (c := 17) (nx := 14) (by decide +kernel) ?_
  refine zwW_p [(0, 3, 0), (1, 1, 2)] (q := 16) (ls' := [(2, 13), (2, r), (0, a)]) (st' := [(2, r), (0, 3), (2, 17)]) (by decide +kernel) rfl ?_
  refine zwX_gi Ch2 (kd := 4) (bn := 2) (n := 19) (nx := 19) (by decide +kernel) Gh2_0.2.1 Gh2_0.1 rfl ?_
  intro v3 ev3 lv3 uv3
  refine zwW_as Ch2.1 (a1 := 17) (a2 := 17) (n := 13) (lo := -2147483648) (hi := 2147483647) (nx := 20) (by decide +kernel) (by first | decide | exact ⟨by decide, by decide⟩) (by first | decide | exact ⟨by decide, by decide⟩) (by first | omega | exact ⟨by omega, by omega⟩) ?_
  intro h4 eh4 Ih4
  have Ch4 : CI h4 := Ch2.wc eh4 Ih4 (by decide) (by decide)
  have Qh4 : zXR [(17, 17, 0, 13)] 0 0 h2 h4 := zXR.wc eh4 rfl ⟨by decide, by decide, Or.inl (by decide)⟩ (by first | decide | exact ⟨by decide, by decide⟩)
  have Xh4 : zXR msx167 (0) (0) h h4 := Xh2.tr (c2 := 0) (s2 := 0) Qh4 (by decide +kernel) (by decide) (by decide)
  have Gh4_0 : gH h4 r := Gh2_0.x Qh4
  refine zwW_p [(1, 0, 2)] (q := 21) (ls' := [(2, 13), (2, r), (0, a)]) (st' := [(2, 13)]) (by decide +kernel) rfl ?_
  refine zwW_gc Ch4.1 (kd := 9) (bn := 4) (n := 6) (c := 17) (nx := 24) (by decide +kernel) ?_
  refine zwW_p [(0, 4, 0), (1, 1, 2)] (q := 26) (ls' := [(2, 13), (2, r), (0, a)]) (st' := [(2, r), (0, 4), (2, 17)]) (by decide +kernel) rfl ?_
  refine zwX_gi Ch4 (kd := 4) (bn := 3) (n := 19) (nx := 29) (by decide +kernel) Gh4_0.2.1 Gh4_0.1 rfl ?_
  intro v5 ev5 lv5 uv5
  refine zwW_as Ch4.1 (a1 := 17) (a2 := 17) (n := 13) (lo := -2147483648) (hi := 2147483647) (nx := 30) (by decide +kernel) (by first | decide | exact ⟨by decide, by decide⟩) (by first | decide | exact ⟨by decide, by decide⟩) (by first | omega | exact ⟨by omega, by omega⟩) ?_
  intro h6 eh6 Ih6
  have Ch6 : CI h6 := Ch4.wc eh6 Ih6 (by decide) (by decide)
  have Qh6 : zXR [(17, 17, 0, 13)] 0 0 h4 h6 := zXR.wc eh6 rfl ⟨by decide, by decide, Or.inl (by decide)⟩ (by first | decide | exact ⟨by decide, by decide⟩)
  have Xh6 : zXR msx167 (0) (0) h h6 := Xh4.tr (c2 := 0) (s2 := 0) Qh6 (by decide +kernel) (by decide) (by decide)
  have Gh6_0 : gH h6 r := Gh4_0.x Qh6
  refine zwW_p [(1, 0, 2)] (q := 31) (ls' := [(2, 13), (2, r), (0, a)]) (st' := [(2, 13)]) (by decide +kernel) rfl ?_
  refine zwW_gc Ch6.1 (kd := 9) (bn := 4) (n := 6) (c := 17) (nx := 34) (by decide +kernel) ?_
  refine zwW_p [(0, 5, 0), (1, 1, 2)] (q := 36) (ls' := [(2, 13), (2, r), (0, a)]) (st' := [(2, r), (0, 5), (2, 17)]) (by decide +kernel) rfl ?_
  refine zwX_gi Ch6 (kd := 4) (bn := 4) (n := 19) (nx := 39) (by decide +kernel) Gh6_0.2.1 Gh6_0.1 rfl ?_
  intro v7 ev7 lv7 uv7
  refine zwW_as Ch6.1 (a1 := 17) (a2 := 17) (n := 13) (lo := -2147483648) (hi := 2147483647) (nx := 40) (by decide +kernel) (by first | decide | exact ⟨by decide, by decide⟩) (by first | decide | exact ⟨by decide, by decide⟩) (by first | omega | exact ⟨by omega, by omega⟩) ?_
  intro h8 eh8 Ih8
  have Ch8 : CI h8 := Ch6.wc eh8 Ih8 (by decide) (by decide)
  have Qh8 : zXR [(17, 17, 0, 13)] 0 0 h6 h8 := zXR.wc eh8 rfl ⟨by decide, by decide, Or.inl (by decide)⟩ (by first | decide | exact ⟨by decide, by decide⟩)
  have Xh8 : zXR msx167 (0) (0) h h8 := Xh6.tr (c2 := 0) (s2 := 0) Qh8 (by decide +kernel) (by decide) (by decide)
  have Gh8_0 : gH h8 r := Gh6_0.x Qh8
  refine zwW_p [(1, 0, 2)] (q := 41) (ls' := [(2, 13), (2, r), (0, a)]) (st' := [(2, 13)]) (by decide +kernel) rfl ?_
  refine zwW_gc Ch8.1 (kd := 9) (bn := 4) (n := 6) (c := 17) (nx := 44) (by decide +kernel) ?_
  refine zwW_p [(0, 10, 0), (1, 1, 2)] (q := 47) (ls' := [(2, 13), (2, r), (0, a)]) (st' := [(2, r), (0, 10), (2, 17)]) (by decide +kernel) rfl ?_
  refine zwW_get (kd := 4) (bn := 1) (t := 2) (n := 19) (nx := 50) (by decide +kernel) Gh8_0.2.1 rfl ?_
  obtain ⟨v9, ev9⟩ : ∃ z, z = fld h8 r 1 := ⟨_, rfl⟩
  rw [← ev9]
  have Gv9 : gV h8 v9 := by rw [ev9]; exact Gh8_0.2.2
  have lv9 := Gv9.1
  refine zwW_p [(1, 2, 0)] (q := 51) (ls' := [(2, 13), (2, r), (0, a)]) (st' := [(0, a), (2, v9), (0, 10), (2, 17)]) (by decide +kernel) rfl ?_
  refine zwW_cv (op := 60) (k' := 222) (n := 1) (kd := 11) (m := 17) (nx := 54) (r := v9) (tl := [(0, a)]) (st' := [(0, 10), (2, 17)]) (by decide +kernel) rfl (by decide +kernel) Gv9.2.1 (x222 h8 Ch8 v9 a Gv9 (by omega)) rfl ?_
  rintro v10 _ ⟨rfl, f11⟩
  refine zwW_as Ch8.1 (a1 := 17) (a2 := 17) (n := 13) (lo := -2147483648) (hi := 2147483647) (nx := 55) (by decide +kernel) (by first | decide | exact ⟨by decide, by decide⟩) (by first | decide | exact ⟨by decide, by decide⟩) (by first | omega | exact ⟨by omega, by omega⟩) ?_
  intro h12 eh12 Ih12
  have Ch12 : CI h12 := Ch8.wc eh12 Ih12 (by decide) (by decide)
  have Qh12 : zXR [(17, 17, 0, 13)] 0 0 h8 h12 := zXR.wc eh12 rfl ⟨by decide, by decide, Or.inl (by decide)⟩ (by first | decide | exact ⟨by decide, by decide⟩)
  have Xh12 : zXR msx167 (0) (0) h h12 := Xh8.tr (c2 := 0) (s2 := 0) Qh12 (by decide +kernel) (by decide) (by decide)
  have Gh12_0 : gH h12 r := Gh8_0.x Qh12
  refine zwW_retv (nx := 56) (a := 0) (b := 0) (by decide +kernel) ?_
  exact ⟨Ch12, Xh12.le (by decide) (by decide)⟩
def msx168 : Zms := [(17, 17, 0, 13)]
-- WheelLand$Rules.tellWork(II)V
theorem x168 {sc : List Int} (h : Hp) (C : CI h) (a b : Int) (q_a : -2147483648 ≤ a ∧ a ≤ 2147483647) (q_b : -2147483648 ≤ b ∧ b ≤ 2147483647) : zwC sc 1 168 [(2, 13), (0, a), (0, b)] h (zwRv (fun g => CI g ∧ zXR msx168 (0) (0) h g)) := by
  refine zwC_of (D := 0) 3 (by decide +kernel) rfl (ls := [(2, 13), (0, a), (0, b)]) rfl ?_
  have X : zXR msx168 0 0 h h := zXR.rf _ _
  refine zwW_p [(1, 0, 2)] (q := 1) (ls' := [(2, 13), (0, a), (0, b)]) (st' := [(2, 13)]) (by decide +kernel) rfl ?_
  refine zwW_gc C.1 (kd := 9) (bn := 4) (n := 6) (c := 17) (nx := 4) (by decide +kernel) ?_
  refine zwW_p [(0, 6, 0), (1, 1, 0)] (q := 7) (ls' := [(2, 13), (0, a), (0, b)]) (st' := [(0, a), (0, 6), (2, 17)]) (by decide +kernel) rfl ?_
  refine zwW_as C.1 (a1 := 17) (a2 := 17) (n := 13) (lo := -2147483648) (hi := 2147483647) (nx := 8) (by decide +kernel) (by first | decide | exact ⟨by decide, by decide⟩) (by first | decide | exact ⟨by decide, by decide⟩) (by first | omega | exact ⟨by omega, by omega⟩) ?_
  intro h1 eh1 Ih1
  have Ch1 : CI h1 := C.wc eh1 Ih1 (by decide) (by decide)
  have Qh1 : zXR [(17, 17, 0, 13)] 0 0 h h1 := zXR.wc eh1 rfl ⟨by decide, by decide, Or.inl (by decide)⟩ (by first | decide | exact ⟨by decide, by decide⟩)
  have Xh1 : zXR msx168 (0) (0) h h1 := X.tr (c2 := 0) (s2 := 0) Qh1 (by decide +kernel) (by decide) (by decide)
  refine zwW_p [(1, 0, 2)] (q := 9) (ls' := [(2, 13), (0, a), (0, b)]) (st' := [(2, 13)]) (by decide +kernel) rfl ?_
  refine zwW_gc Ch1.1 (kd := 9) (bn := 4) (n := 6) (c := 17) (nx := 12) (by decide +kernel) ?_
  refine zwW_p [(0, 11, 0), (1, 2, 0)] (q := 15) (ls' := [(2, 13), (0, a), (0, b)]) (st' := [(0, b), (0, 11), (2, 17)]) (by decide +kernel) rfl ?_
  refine zwW_as Ch1.1 (a1 := 17) (a2 := 17) (n := 13) (lo := -2147483648) (hi := 2147483647) (nx := 16) (by decide +kernel) (by first | decide | exact ⟨by decide, by decide⟩) (by first | decide | exact ⟨by decide, by decide⟩) (by first | omega | exact ⟨by omega, by omega⟩) ?_
  intro h2 eh2 Ih2
  have Ch2 : CI h2 := Ch1.wc eh2 Ih2 (by decide) (by decide)
  have Qh2 : zXR [(17, 17, 0, 13)] 0 0 h1 h2 := zXR.wc eh2 rfl ⟨by decide, by decide, Or.inl (by decide)⟩ (by first | decide | exact ⟨by decide, by decide⟩)
  have Xh2 : zXR msx168 (0) (0) h h2 := Xh1.tr (c2 := 0) (s2 := 0) Qh2 (by decide +kernel) (by decide) (by decide)
  refine zwW_retv (nx := 17) (a := 0) (b := 0) (by decide +kernel) ?_
  exact ⟨Ch2, Xh2.le (by decide) (by decide)⟩
def msx171 : Zms := [(17, 17, 0, 13)]
-- WheelLand$Rules.tellYarn(III)V
theorem x171 {sc : List Int} (h : Hp) (C : CI h) (a b c : Int) (q_a : -2147483648 ≤ a ∧ a ≤ 2147483647) (q_b : -2147483648 ≤ b ∧ b ≤ 2147483647) (q_c : -2147483648 ≤ c ∧ c ≤ 2147483647) : zwC sc 1 171 [(2, 13), (0, a), (0, b), (0, c)] h (zwRv (fun g => CI g ∧ zXR msx171 (0) (0) h g)) := by
  refine zwC_of (D := 0) 4 (by decide +kernel) rfl (ls := [(2, 13), (0, a), (0, b), (0, c)]) rfl ?_
  have X : zXR msx171 0 0 h h := zXR.rf _ _
  refine zwW_p [(1, 0, 2)] (q := 1) (ls' := [(2, 13), (0, a), (0, b), (0, c)]) (st' := [(2, 13)]) (by decide +kernel) rfl ?_
  refine zwW_gc C.1 (kd := 9) (bn := 4) (n := 6) (c := 17) (nx := 4) (by decide +kernel) ?_
  refine zwW_p [(0, 7, 0), (1, 1, 0)] (q := 7) (ls' := [(2, 13), (0, a), (0, b), (0, c)]) (st' := [(0, a), (0, 7), (2, 17)]) (by decide +kernel) rfl ?_
  refine zwW_as C.1 (a1 := 17) (a2 := 17) (n := 13) (lo := -2147483648) (hi := 2147483647) (nx := 8) (by decide +kernel) (by first | decide | exact ⟨by decide, by decide⟩) (by first | decide | exact ⟨by decide, by decide⟩) (by first | omega | exact ⟨by omega, by omega⟩) ?_
  intro h1 eh1 Ih1
  have Ch1 : CI h1 := C.wc eh1 Ih1 (by decide) (by decide)
  have Qh1 : zXR [(17, 17, 0, 13)] 0 0 h h1 := zXR.wc eh1 rfl ⟨by decide, by decide, Or.inl (by decide)⟩ (by first | decide | exact ⟨by decide, by decide⟩)
  have Xh1 : zXR msx171 (0) (0) h h1 := X.tr (c2 := 0) (s2 := 0) Qh1 (by decide +kernel) (by decide) (by decide)
  refine zwW_p [(1, 0, 2)] (q := 9) (ls' := [(2, 13), (0, a), (0, b), (0, c)]) (st' := [(2, 13)]) (by decide +kernel) rfl ?_
  refine zwW_gc Ch1.1 (kd := 9) (bn := 4) (n := 6) (c := 17) (nx := 12) (by decide +kernel) ?_
  refine zwW_p [(0, 8, 0), (1, 2, 0)] (q := 15) (ls' := [(2, 13), (0, a), (0, b), (0, c)]) (st' := [(0, b), (0, 8), (2, 17)]) (by decide +kernel) rfl ?_
  refine zwW_as Ch1.1 (a1 := 17) (a2 := 17) (n := 13) (lo := -2147483648) (hi := 2147483647) (nx := 16) (by decide +kernel) (by first | decide | exact ⟨by decide, by decide⟩) (by first | decide | exact ⟨by decide, by decide⟩) (by first | omega | exact ⟨by omega, by omega⟩) ?_
  intro h2 eh2 Ih2
  have Ch2 : CI h2 := Ch1.wc eh2 Ih2 (by decide) (by decide)
  have Qh2 : zXR [(17, 17, 0, 13)] 0 0 h1 h2 := zXR.wc eh2 rfl ⟨by decide, by decide, Or.inl (by decide)⟩ (by first | decide | exact ⟨by decide, by decide⟩)
  have Xh2 : zXR msx171 (0) (0) h h2 := Xh1.tr (c2 := 0) (s2 := 0) Qh2 (by decide +kernel) (by decide) (by decide)
  refine zwW_p [(1, 0, 2)] (q := 17) (ls' := [(2, 13), (0, a), (0, b), (0, c)]) (st' := [(2, 13)]) (by decide +kernel) rfl ?_
  refine zwW_gc Ch2.1 (kd := 9) (bn := 4) (n := 6) (c := 17) (nx := 20) (by decide +kernel) ?_
  refine zwW_p [(0, 9, 0), (1, 3, 0)] (q := 23) (ls' := [(2, 13), (0, a), (0, b), (0, c)]) (st' := [(0, c), (0, 9), (2, 17)]) (by decide +kernel) rfl ?_
  refine zwW_as Ch2.1 (a1 := 17) (a2 := 17) (n := 13) (lo := -2147483648) (hi := 2147483647) (nx := 24) (by decide +kernel) (by first | decide | exact ⟨by decide, by decide⟩) (by first | decide | exact ⟨by decide, by decide⟩) (by first | omega | exact ⟨by omega, by omega⟩) ?_
  intro h3 eh3 Ih3
  have Ch3 : CI h3 := Ch2.wc eh3 Ih3 (by decide) (by decide)
  have Qh3 : zXR [(17, 17, 0, 13)] 0 0 h2 h3 := zXR.wc eh3 rfl ⟨by decide, by decide, Or.inl (by decide)⟩ (by first | decide | exact ⟨by decide, by decide⟩)
  have Xh3 : zXR msx171 (0) (0) h h3 := Xh2.tr (c2 := 0) (s2 := 0) Qh3 (by decide +kernel) (by decide) (by decide)
  refine zwW_retv (nx := 25) (a := 0) (b := 0) (by decide +kernel) ?_
  exact ⟨Ch3, Xh3.le (by decide) (by decide)⟩
def msx214 : Zms := [(17, 17, 0, 13)]
-- WheelLand$Rules.tellPrice(I)V
theorem x214 {sc : List Int} (h : Hp) (C : CI h) (a : Int) (q_a : -2147483648 ≤ a ∧ a ≤ 2147483647) : zwC sc 1 214 [(2, 13), (0, a)] h (zwRv (fun g => CI g ∧ zXR msx214 (0) (0) h g)) := by
  refine zwC_of (D := 0) 2 (by decide +kernel) rfl (ls := [(2, 13), (0, a)]) rfl ?_
  have X : zXR msx214 0 0 h h := zXR.rf _ _
  refine zwW_p [(1, 0, 2)] (q := 1) (ls' := [(2, 13), (0, a)]) (st' := [(2, 13)]) (by decide +kernel) rfl ?_
  refine zwW_gc C.1 (kd := 9) (bn := 4) (n := 6) (c := 17) (nx := 4) (by decide +kernel) ?_
  refine zwW_p [(0, 12, 0), (1, 1, 0)] (q := 7) (ls' := [(2, 13), (0, a)]) (st' := [(0, a), (0, 12), (2, 17)]) (by decide +kernel) rfl ?_
  refine zwW_as C.1 (a1 := 17) (a2 := 17) (n := 13) (lo := -2147483648) (hi := 2147483647) (nx := 8) (by decide +kernel) (by first | decide | exact ⟨by decide, by decide⟩) (by first | decide | exact ⟨by decide, by decide⟩) (by first | omega | exact ⟨by omega, by omega⟩) ?_
  intro h1 eh1 Ih1
  have Ch1 : CI h1 := C.wc eh1 Ih1 (by decide) (by decide)
  have Qh1 : zXR [(17, 17, 0, 13)] 0 0 h h1 := zXR.wc eh1 rfl ⟨by decide, by decide, Or.inl (by decide)⟩ (by first | decide | exact ⟨by decide, by decide⟩)
  have Xh1 : zXR msx214 (0) (0) h h1 := X.tr (c2 := 0) (s2 := 0) Qh1 (by decide +kernel) (by decide) (by decide)
  refine zwW_retv (nx := 9) (a := 0) (b := 0) (by decide +kernel) ?_
  exact ⟨Ch1, Xh1.le (by decide) (by decide)⟩
-- WheelLand$Sheet.beginOf(I)I
theorem x206 {sc : List Int} (h : Hp) (C : CI h) (r a : Int) (G_r : gS h r) (q_a : -2147483648 ≤ a ∧ a ≤ 2147483647) : zwC sc 1 206 [(2, r), (0, a)] h (zwRt 0 (fun x g => h = g ∧ (-2147483648 ≤ x ∧ x ≤ 2147483647))) := by
  refine zwC_of (D := 0) 2 (by decide +kernel) rfl (ls := [(2, r), (0, a)]) rfl ?_
  have lw_r := G_r.1
  refine zwW_p [(1, 1, 0)] (q := 1) (ls' := [(2, r), (0, a)]) (st' := [(0, a)]) (by decide +kernel) rfl ?_
  refine zwif_lt (q := 22) (nx := 4) (by decide +kernel) (fun c1 => ?_) (fun c1 => ?_)
  · refine zwW_p [(0, -1, 0)] (q := 23) (ls' := [(2, r), (0, a)]) (st' := [(0, -1)]) (by decide +kernel) rfl ?_
    refine zwW_ret (nx := 24) (a := 0) (b := 0) (by decide +kernel) rfl (Or.inl rfl) ?_
    exact ⟨rfl, by omega⟩
  · refine zwW_p [(1, 1, 0), (1, 0, 2)] (q := 6) (ls' := [(2, r), (0, a)]) (st' := [(2, r), (0, a)]) (by decide +kernel) rfl ?_
    refine zwW_get (kd := 10) (bn := 2) (t := 2) (n := 3) (nx := 9) (by decide +kernel) G_r.2.1 rfl ?_
    obtain ⟨v2, ev2⟩ : ∃ z, z = fld h r 2 := ⟨_, rfl⟩
    rw [← ev2]
    have Gv2 : gA 5 h v2 := by rw [ev2]; exact G_r.2.2.2
    have lv2 := Gv2.1
    refine zwW_len (n := 5) (nx := 10) (by decide +kernel) Gv2.2 rfl ?_
    refine zwic_ge (q := 22) (nx := 13) (by decide +kernel) (fun c3 => ?_) (fun c3 => ?_)
    · refine zwW_p [(0, -1, 0)] (q := 23) (ls' := [(2, r), (0, a)]) (st' := [(0, -1)]) (by decide +kernel) rfl ?_
      refine zwW_ret (nx := 24) (a := 0) (b := 0) (by decide +kernel) rfl (Or.inl rfl) ?_
      exact ⟨rfl, by omega⟩
    · refine zwW_p [(1, 0, 2)] (q := 14) (ls' := [(2, r), (0, a)]) (st' := [(2, r)]) (by decide +kernel) rfl ?_
      refine zwW_get (kd := 10) (bn := 2) (t := 2) (n := 3) (nx := 17) (by decide +kernel) G_r.2.1 rfl ?_
      rw [← ev2]
      refine zwW_p [(1, 1, 0)] (q := 18) (ls' := [(2, r), (0, a)]) (st' := [(0, a), (2, v2)]) (by decide +kernel) rfl ?_
      refine zwX_ai C (n := 5) (nx := 19) (by decide +kernel) Gv2.2 Gv2.1 (by first | omega | exact ⟨by omega, by omega⟩) ?_
      intro v5 ev5 lv5 uv5
      refine zwW_p [(24, 23, 0)] (q := 23) (ls' := [(2, r), (0, a)]) (st' := [(0, v5)]) (by decide +kernel) rfl ?_
      refine zwW_ret (nx := 24) (a := 0) (b := 0) (by decide +kernel) rfl (Or.inl rfl) ?_
      exact ⟨rfl, by omega⟩
-- WheelLand$Sheet.stepAt(I)I
theorem x255 {sc : List Int} (h : Hp) (C : CI h) (r a : Int) (G_r : gS h r) (q_a : -2147483648 ≤ a ∧ a ≤ 2147483647) : zwC sc 1 255 [(2, r), (0, a)] h (zwRt 0 (fun x g => h = g ∧ (-2147483648 ≤ x ∧ x ≤ 2147483647))) := by
  refine zwC_of (D := 0) 2 (by decide +kernel) rfl (ls := [(2, r), (0, a)]) rfl ?_
  have lw_r := G_r.1
  refine zwW_p [(1, 1, 0)] (q := 1) (ls' := [(2, r), (0, a)]) (st' := [(0, a)]) (by decide +kernel) rfl ?_
  refine zwif_lt (q := 22) (nx := 4) (by decide +kernel) (fun c1 => ?_) (fun c1 => ?_)
  · refine zwW_p [(0, -21, 0)] (q := 24) (ls' := [(2, r), (0, a)]) (st' := [(0, -21)]) (by decide +kernel) rfl ?_
    refine zwW_ret (nx := 25) (a := 0) (b := 0) (by decide +kernel) rfl (Or.inl rfl) ?_
    exact ⟨rfl, by omega⟩
  · refine zwW_p [(1, 1, 0), (1, 0, 2)] (q := 6) (ls' := [(2, r), (0, a)]) (st' := [(2, r), (0, a)]) (by decide +kernel) rfl ?_
    refine zwW_get (kd := 10) (bn := 1) (t := 2) (n := 3) (nx := 9) (by decide +kernel) G_r.2.1 rfl ?_
    obtain ⟨v2, ev2⟩ : ∃ z, z = fld h r 1 := ⟨_, rfl⟩
    rw [← ev2]
    obtain ⟨lv2, nv2, sv2⟩ : 365 < v2 ∧ ∃ n, sh h v2 = some (20, n) := by rw [ev2]; exact G_r.2.2.1
    have Gv2 : gA nv2 h v2 := ⟨lv2, sv2⟩
    refine zwW_len (n := nv2) (nx := 10) (by decide +kernel) Gv2.2 rfl ?_
    refine zwic_ge (q := 22) (nx := 13) (by decide +kernel) (fun c3 => ?_) (fun c3 => ?_)
    · refine zwW_p [(0, -21, 0)] (q := 24) (ls' := [(2, r), (0, a)]) (st' := [(0, -21)]) (by decide +kernel) rfl ?_
      refine zwW_ret (nx := 25) (a := 0) (b := 0) (by decide +kernel) rfl (Or.inl rfl) ?_
      exact ⟨rfl, by omega⟩
    · refine zwW_p [(1, 0, 2)] (q := 14) (ls' := [(2, r), (0, a)]) (st' := [(2, r)]) (by decide +kernel) rfl ?_
      refine zwW_get (kd := 10) (bn := 1) (t := 2) (n := 3) (nx := 17) (by decide +kernel) G_r.2.1 rfl ?_
      rw [← ev2]
      refine zwW_p [(1, 1, 0)] (q := 18) (ls' := [(2, r), (0, a)]) (st' := [(0, a), (2, v2)]) (by decide +kernel) rfl ?_
      refine zwX_ai C (n := nv2) (nx := 19) (by decide +kernel) Gv2.2 Gv2.1 (by first | omega | exact ⟨by omega, by omega⟩) ?_
      intro v5 ev5 lv5 uv5
      refine zwW_p [(24, 24, 0)] (q := 24) (ls' := [(2, r), (0, a)]) (st' := [(0, v5)]) (by decide +kernel) rfl ?_
      refine zwW_ret (nx := 25) (a := 0) (b := 0) (by decide +kernel) rfl (Or.inl rfl) ?_
      exact ⟨rfl, by omega⟩
-- WheelLand$Rules.joined(IJJ)I
theorem x256 {sc : List Int} (h : Hp) (C : CI h) (a b c : Int) (q_a : -2147483648 ≤ a ∧ a ≤ 2147483647) (q_b : -2147483648 ≤ b ∧ b ≤ 2147483647) (q_c : -2147483648 ≤ c ∧ c ≤ 2147483647) : zwC sc 1 256 [(0, a), (1, b), (1, c)] h (zwRt 0 (fun x g => h = g ∧ (-2147483648 ≤ x ∧ x ≤ 2147483647))) := by
  refine zwC_of (D := 0) 7 (by decide +kernel) rfl (ls := [(0, a), (1, b), (9, 0), (1, c), (9, 0), (9, 0), (9, 0)]) rfl ?_
  refine zwW_p [(0, 0, 1), (2, 5, 1), (1, 0, 0)] (q := 4) (ls' := [(0, a), (1, b), (9, 0), (1, c), (9, 0), (1, 0), (9, 0)]) (st' := [(0, a)]) (by decide +kernel) rfl ?_
  refine zwW_sw (d := 194) (os := [18, 178, 19, 186, 42, 104, 43, 88, 45, 96, 47, 112, 60, 130, 61, 162, 62, 146]) (by decide +kernel) ?_
  refine ⟨fun c1 => ?_, fun c1 => ?_⟩
  · show zwW _ _ _ 178 _ _ _ _
    refine zwW_p [(1, 1, 1), (1, 3, 1)] (q := 180) (ls' := [(0, a), (1, b), (9, 0), (1, c), (9, 0), (1, 0), (9, 0)]) (st' := [(1, c), (1, b)]) (by decide +kernel) rfl ?_
    refine zwW_lany (a := 6) (nx := 181) (by decide +kernel) (by omega) ?_
    intro v2 qv2
    have lv2 := qv2.1; have uv2 := qv2.2
    refine zwW_p [(2, 5, 1), (24, 194, 0), (1, 5, 1), (0, 1000000, 1)] (q := 199) (ls' := [(0, a), (1, b), (9, 0), (1, c), (9, 0), (1, v2), (9, 0)]) (st' := [(1, 1000000), (1, v2)]) (by decide +kernel) rfl ?_
    refine zwW_lmin (nx := 202) (by decide +kernel) rfl ?_
    intro v3 ev3
    refine zwW_p [(0, -1000000, 1)] (q := 205) (ls' := [(0, a), (1, b), (9, 0), (1, c), (9, 0), (1, v2), (9, 0)]) (st' := [(1, -1000000), (1, v3)]) (by decide +kernel) rfl ?_
    refine zwW_lmax (nx := 208) (by decide +kernel) rfl ?_
    intro v4 ev4
    refine zwW_l2i (nx := 209) (by decide +kernel) (by first | omega | exact ⟨by omega, by omega⟩) ?_
    refine zwW_ret (nx := 210) (a := 0) (b := 0) (by decide +kernel) rfl (Or.inl rfl) ?_
    exact ⟨rfl, by omega⟩
  refine ⟨fun c5 => ?_, fun c5 => ?_⟩
  · show zwW _ _ _ 186 _ _ _ _
    refine zwW_p [(1, 1, 1), (1, 3, 1)] (q := 188) (ls' := [(0, a), (1, b), (9, 0), (1, c), (9, 0), (1, 0), (9, 0)]) (st' := [(1, c), (1, b)]) (by decide +kernel) rfl ?_
    refine zwW_lany (a := 5) (nx := 189) (by decide +kernel) (by omega) ?_
    intro v6 qv6
    have lv6 := qv6.1; have uv6 := qv6.2
    refine zwW_p [(2, 5, 1), (24, 194, 0), (1, 5, 1), (0, 1000000, 1)] (q := 199) (ls' := [(0, a), (1, b), (9, 0), (1, c), (9, 0), (1, v6), (9, 0)]) (st' := [(1, 1000000), (1, v6)]) (by decide +kernel) rfl ?_
    refine zwW_lmin (nx := 202) (by decide +kernel) rfl ?_
    intro v7 ev7
    refine zwW_p [(0, -1000000, 1)] (q := 205) (ls' := [(0, a), (1, b), (9, 0), (1, c), (9, 0), (1, v6), (9, 0)]) (st' := [(1, -1000000), (1, v7)]) (by decide +kernel) rfl ?_
    refine zwW_lmax (nx := 208) (by decide +kernel) rfl ?_
    intro v8 ev8
    refine zwW_l2i (nx := 209) (by decide +kernel) (by first | omega | exact ⟨by omega, by omega⟩) ?_
    refine zwW_ret (nx := 210) (a := 0) (b := 0) (by decide +kernel) rfl (Or.inl rfl) ?_
    exact ⟨rfl, by omega⟩
  refine ⟨fun c9 => ?_, fun c9 => ?_⟩
  · show zwW _ _ _ 104 _ _ _ _
    refine zwW_p [(1, 1, 1), (1, 3, 1)] (q := 106) (ls' := [(0, a), (1, b), (9, 0), (1, c), (9, 0), (1, 0), (9, 0)]) (st' := [(1, c), (1, b)]) (by decide +kernel) rfl ?_
    refine zwW_lmw (nx := 107) (by decide +kernel) ?_
    intro v10 ev10 lv10 uv10
    refine zwW_p [(2, 5, 1), (24, 194, 0), (1, 5, 1), (0, 1000000, 1)] (q := 199) (ls' := [(0, a), (1, b), (9, 0), (1, c), (9, 0), (1, v10), (9, 0)]) (st' := [(1, 1000000), (1, v10)]) (by decide +kernel) rfl ?_
    refine zwW_lmin (nx := 202) (by decide +kernel) rfl ?_
    intro v11 ev11
    refine zwW_p [(0, -1000000, 1)] (q := 205) (ls' := [(0, a), (1, b), (9, 0), (1, c), (9, 0), (1, v10), (9, 0)]) (st' := [(1, -1000000), (1, v11)]) (by decide +kernel) rfl ?_
    refine zwW_lmax (nx := 208) (by decide +kernel) rfl ?_
    intro v12 ev12
    refine zwW_l2i (nx := 209) (by decide +kernel) (by first | omega | exact ⟨by omega, by omega⟩) ?_
    refine zwW_ret (nx := 210) (a := 0) (b := 0) (by decide +kernel) rfl (Or.inl rfl) ?_
    exact ⟨rfl, by omega⟩
  refine ⟨fun c13 => ?_, fun c13 => ?_⟩
  · show zwW _ _ _ 88 _ _ _ _
    refine zwW_p [(1, 1, 1), (1, 3, 1)] (q := 90) (ls' := [(0, a), (1, b), (9, 0), (1, c), (9, 0), (1, 0), (9, 0)]) (st' := [(1, c), (1, b)]) (by decide +kernel) rfl ?_
    refine zwW_ladd (nx := 91) (by decide +kernel) (by first | omega | exact ⟨by omega, by omega⟩) ?_
    refine zwW_p [(2, 5, 1), (24, 194, 0), (1, 5, 1), (0, 1000000, 1)] (q := 199) (ls' := [(0, a), (1, b), (9, 0), (1, c), (9, 0), (1, (b + c)), (9, 0)]) (st' := [(1, 1000000), (1, (b + c))]) (by decide +kernel) rfl ?_
    refine zwW_lmin (nx := 202) (by decide +kernel) rfl ?_
    intro v15 ev15
    refine zwW_p [(0, -1000000, 1)] (q := 205) (ls' := [(0, a), (1, b), (9, 0), (1, c), (9, 0), (1, (b + c)), (9, 0)]) (st' := [(1, -1000000), (1, v15)]) (by decide +kernel) rfl ?_
    refine zwW_lmax (nx := 208) (by decide +kernel) rfl ?_
    intro v16 ev16
    refine zwW_l2i (nx := 209) (by decide +kernel) (by first | omega | exact ⟨by omega, by omega⟩) ?_
    refine zwW_ret (nx := 210) (a := 0) (b := 0) (by decide +kernel) rfl (Or.inl rfl) ?_
    exact ⟨rfl, by omega⟩
  refine ⟨fun c17 => ?_, fun c17 => ?_⟩
  · show zwW _ _ _ 96 _ _ _ _
    refine zwW_p [(1, 1, 1), (1, 3, 1)] (q := 98) (ls' := [(0, a), (1, b), (9, 0), (1, c), (9, 0), (1, 0), (9, 0)]) (st' := [(1, c), (1, b)]) (by decide +kernel) rfl ?_
    refine zwW_lsub (nx := 99) (by decide +kernel) (by first | omega | exact ⟨by omega, by omega⟩) ?_
    refine zwW_p [(2, 5, 1), (24, 194, 0), (1, 5, 1), (0, 1000000, 1)] (q := 199) (ls' := [(0, a), (1, b), (9, 0), (1, c), (9, 0), (1, (b - c)), (9, 0)]) (st' := [(1, 1000000), (1, (b - c))]) (by decide +kernel) rfl ?_
    refine zwW_lmin (nx := 202) (by decide +kernel) rfl ?_
    intro v19 ev19
    refine zwW_p [(0, -1000000, 1)] (q := 205) (ls' := [(0, a), (1, b), (9, 0), (1, c), (9, 0), (1, (b - c)), (9, 0)]) (st' := [(1, -1000000), (1, v19)]) (by decide +kernel) rfl ?_
    refine zwW_lmax (nx := 208) (by decide +kernel) rfl ?_
    intro v20 ev20
    refine zwW_l2i (nx := 209) (by decide +kernel) (by first | omega | exact ⟨by omega, by omega⟩) ?_
    refine zwW_ret (nx := 210) (a := 0) (b := 0) (by decide +kernel) rfl (Or.inl rfl) ?_
    exact ⟨rfl, by omega⟩
  refine ⟨fun c21 => ?_, fun c21 => ?_⟩
  · show zwW _ _ _ 112 _ _ _ _
    refine zwW_p [(1, 3, 1), (0, 0, 1)] (q := 114) (ls' := [(0, a), (1, b), (9, 0), (1, c), (9, 0), (1, 0), (9, 0)]) (st' := [(1, 0), (1, c)]) (by decide +kernel) rfl ?_
    refine zwlc_ne (q := 122) (nx := 118) (m := 115) (by decide +kernel) (by decide +kernel) (fun c22 => ?_) (fun c22 => ?_)
    · refine zwW_p [(1, 1, 1), (1, 3, 1)] (q := 124) (ls' := [(0, a), (1, b), (9, 0), (1, c), (9, 0), (1, 0), (9, 0)]) (st' := [(1, c), (1, b)]) (by decide +kernel) rfl ?_
      refine zwW_lany (a := 3) (nx := 125) (by decide +kernel) (by omega) ?_
      intro v23 qv23
      have lv23 := qv23.1; have uv23 := qv23.2
      refine zwW_p [(2, 5, 1), (24, 194, 0), (1, 5, 1), (0, 1000000, 1)] (q := 199) (ls' := [(0, a), (1, b), (9, 0), (1, c), (9, 0), (1, v23), (9, 0)]) (st' := [(1, 1000000), (1, v23)]) (by decide +kernel) rfl ?_
      refine zwW_lmin (nx := 202) (by decide +kernel) rfl ?_
      intro v24 ev24
      refine zwW_p [(0, -1000000, 1)] (q := 205) (ls' := [(0, a), (1, b), (9, 0), (1, c), (9, 0), (1, v23), (9, 0)]) (st' := [(1, -1000000), (1, v24)]) (by decide +kernel) rfl ?_
      refine zwW_lmax (nx := 208) (by decide +kernel) rfl ?_
      intro v25 ev25
      refine zwW_l2i (nx := 209) (by decide +kernel) (by first | omega | exact ⟨by omega, by omega⟩) ?_
      refine zwW_ret (nx := 210) (a := 0) (b := 0) (by decide +kernel) rfl (Or.inl rfl) ?_
      exact ⟨rfl, by omega⟩
    · refine zwW_p [(0, 0, 1), (24, 125, 0), (2, 5, 1), (24, 194, 0), (1, 5, 1), (0, 1000000, 1)] (q := 199) (ls' := [(0, a), (1, b), (9, 0), (1, c), (9, 0), (1, 0), (9, 0)]) (st' := [(1, 1000000), (1, 0)]) (by decide +kernel) rfl ?_
      refine zwW_lmin (nx := 202) (by decide +kernel) rfl ?_
      intro v26 ev26
      refine zwW_p [(0, -1000000, 1)] (q := 205) (ls' := [(0, a), (1, b), (9, 0), (1, c), (9, 0), (1, 0), (9, 0)]) (st' := [(1, -1000000), (1, v26)]) (by decide +kernel) rfl ?_
      refine zwW_lmax (nx := 208) (by decide +kernel) rfl ?_
      intro v27 ev27
      refine zwW_l2i (nx := 209) (by decide +kernel) (by first | omega | exact ⟨by omega, by omega⟩) ?_
      refine zwW_ret (nx := 210) (a := 0) (b := 0) (by decide +kernel) rfl (Or.inl rfl) ?_
      exact ⟨rfl, by omega⟩
  refine ⟨fun c28 => ?_, fun c28 => ?_⟩
  · show zwW _ _ _ 130 _ _ _ _
    refine zwW_p [(1, 1, 1), (1, 3, 1)] (q := 132) (ls' := [(0, a), (1, b), (9, 0), (1, c), (9, 0), (1, 0), (9, 0)]) (st' := [(1, c), (1, b)]) (by decide +kernel) rfl ?_
    refine zwlc_ge (q := 140) (nx := 136) (m := 133) (by decide +kernel) (by decide +kernel) (fun c29 => ?_) (fun c29 => ?_)
    · refine zwW_p [(0, 0, 1), (2, 5, 1), (24, 194, 0), (1, 5, 1), (0, 1000000, 1)] (q := 199) (ls' := [(0, a), (1, b), (9, 0), (1, c), (9, 0), (1, 0), (9, 0)]) (st' := [(1, 1000000), (1, 0)]) (by decide +kernel) rfl ?_
      refine zwW_lmin (nx := 202) (by decide +kernel) rfl ?_
      intro v30 ev30
      refine zwW_p [(0, -1000000, 1)] (q := 205) (ls' := [(0, a), (1, b), (9, 0), (1, c), (9, 0), (1, 0), (9, 0)]) (st' := [(1, -1000000), (1, v30)]) (by decide +kernel) rfl ?_
      refine zwW_lmax (nx := 208) (by decide +kernel) rfl ?_
      intro v31 ev31
      refine zwW_l2i (nx := 209) (by decide +kernel) (by first | omega | exact ⟨by omega, by omega⟩) ?_
      refine zwW_ret (nx := 210) (a := 0) (b := 0) (by decide +kernel) rfl (Or.inl rfl) ?_
      exact ⟨rfl, by omega⟩
    · refine zwW_p [(0, 1, 1), (24, 141, 0), (2, 5, 1), (24, 194, 0), (1, 5, 1), (0, 1000000, 1)] (q := 199) (ls' := [(0, a), (1, b), (9, 0), (1, c), (9, 0), (1, 1), (9, 0)]) (st' := [(1, 1000000), (1, 1)]) (by decide +kernel) rfl ?_
      refine zwW_lmin (nx := 202) (by decide +kernel) rfl ?_
      intro v32 ev32
      refine zwW_p [(0, -1000000, 1)] (q := 205) (ls' := [(0, a), (1, b), (9, 0), (1, c), (9, 0), (1, 1), (9, 0)]) (st' := [(1, -1000000), (1, v32)]) (by decide +kernel) rfl ?_
      refine zwW_lmax (nx := 208) (by decide +kernel) rfl ?_
      intro v33 ev33
      refine zwW_l2i (nx := 209) (by decide +kernel) (by first | omega | exact ⟨by omega, by omega⟩) ?_
      refine zwW_ret (nx := 210) (a := 0) (b := 0) (by decide +kernel) rfl (Or.inl rfl) ?_
      exact ⟨rfl, by omega⟩
  refine ⟨fun c34 => ?_, fun c34 => ?_⟩
  · show zwW _ _ _ 162 _ _ _ _
    refine zwW_p [(1, 1, 1), (1, 3, 1)] (q := 164) (ls' := [(0, a), (1, b), (9, 0), (1, c), (9, 0), (1, 0), (9, 0)]) (st' := [(1, c), (1, b)]) (by decide +kernel) rfl ?_
    refine zwlc_ne (q := 172) (nx := 168) (m := 165) (by decide +kernel) (by decide +kernel) (fun c35 => ?_) (fun c35 => ?_)
    · refine zwW_p [(0, 0, 1), (2, 5, 1), (24, 194, 0), (1, 5, 1), (0, 1000000, 1)] (q := 199) (ls' := [(0, a), (1, b), (9, 0), (1, c), (9, 0), (1, 0), (9, 0)]) (st' := [(1, 1000000), (1, 0)]) (by decide +kernel) rfl ?_
      refine zwW_lmin (nx := 202) (by decide +kernel) rfl ?_
      intro v36 ev36
      refine zwW_p [(0, -1000000, 1)] (q := 205) (ls' := [(0, a), (1, b), (9, 0), (1, c), (9, 0), (1, 0), (9, 0)]) (st' := [(1, -1000000), (1, v36)]) (by decide +kernel) rfl ?_
      refine zwW_lmax (nx := 208) (by decide +kernel) rfl ?_
      intro v37 ev37
      refine zwW_l2i (nx := 209) (by decide +kernel) (by first | omega | exact ⟨by omega, by omega⟩) ?_
      refine zwW_ret (nx := 210) (a := 0) (b := 0) (by decide +kernel) rfl (Or.inl rfl) ?_
      exact ⟨rfl, by omega⟩
    · refine zwW_p [(0, 1, 1), (24, 173, 0), (2, 5, 1), (24, 194, 0), (1, 5, 1), (0, 1000000, 1)] (q := 199) (ls' := [(0, a), (1, b), (9, 0), (1, c), (9, 0), (1, 1), (9, 0)]) (st' := [(1, 1000000), (1, 1)]) (by decide +kernel) rfl ?_
      refine zwW_lmin (nx := 202) (by decide +kernel) rfl ?_
      intro v38 ev38
      refine zwW_p [(0, -1000000, 1)] (q := 205) (ls' := [(0, a), (1, b), (9, 0), (1, c), (9, 0), (1, 1), (9, 0)]) (st' := [(1, -1000000), (1, v38)]) (by decide +kernel) rfl ?_
      refine zwW_lmax (nx := 208) (by decide +kernel) rfl ?_
      intro v39 ev39
      refine zwW_l2i (nx := 209) (by decide +kernel) (by first | omega | exact ⟨by omega, by omega⟩) ?_
      refine zwW_ret (nx := 210) (a := 0) (b := 0) (by decide +kernel) rfl (Or.inl rfl) ?_
      exact ⟨rfl, by omega⟩
  refine ⟨fun c40 => ?_, fun c40 => ?_⟩
  · show zwW _ _ _ 146 _ _ _ _
    refine zwW_p [(1, 1, 1), (1, 3, 1)] (q := 148) (ls' := [(0, a), (1, b), (9, 0), (1, c), (9, 0), (1, 0), (9, 0)]) (st' := [(1, c), (1, b)]) (by decide +kernel) rfl ?_
    refine zwlc_le (q := 156) (nx := 152) (m := 149) (by decide +kernel) (by decide +kernel) (fun c41 => ?_) (fun c41 => ?_)
    · refine zwW_p [(0, 0, 1), (2, 5, 1), (24, 194, 0), (1, 5, 1), (0, 1000000, 1)] (q := 199) (ls' := [(0, a), (1, b), (9, 0), (1, c), (9, 0), (1, 0), (9, 0)]) (st' := [(1, 1000000), (1, 0)]) (by decide +kernel) rfl ?_
      refine zwW_lmin (nx := 202) (by decide +kernel) rfl ?_
      intro v42 ev42
      refine zwW_p [(0, -1000000, 1)] (q := 205) (ls' := [(0, a), (1, b), (9, 0), (1, c), (9, 0), (1, 0), (9, 0)]) (st' := [(1, -1000000), (1, v42)]) (by decide +kernel) rfl ?_
      refine zwW_lmax (nx := 208) (by decide +kernel) rfl ?_
      intro v43 ev43
      refine zwW_l2i (nx := 209) (by decide +kernel) (by first | omega | exact ⟨by omega, by omega⟩) ?_
      refine zwW_ret (nx := 210) (a := 0) (b := 0) (by decide +kernel) rfl (Or.inl rfl) ?_
      exact ⟨rfl, by omega⟩
    · refine zwW_p [(0, 1, 1), (24, 157, 0), (2, 5, 1), (24, 194, 0), (1, 5, 1), (0, 1000000, 1)] (q := 199) (ls' := [(0, a), (1, b), (9, 0), (1, c), (9, 0), (1, 1), (9, 0)]) (st' := [(1, 1000000), (1, 1)]) (by decide +kernel) rfl ?_
      refine zwW_lmin (nx := 202) (by decide +kernel) rfl ?_
      intro v44 ev44
      refine zwW_p [(0, -1000000, 1)] (q := 205) (ls' := [(0, a), (1, b), (9, 0), (1, c), (9, 0), (1, 1), (9, 0)]) (st' := [(1, -1000000), (1, v44)]) (by decide +kernel) rfl ?_
      refine zwW_lmax (nx := 208) (by decide +kernel) rfl ?_
      intro v45 ev45
      refine zwW_l2i (nx := 209) (by decide +kernel) (by first | omega | exact ⟨by omega, by omega⟩) ?_
      refine zwW_ret (nx := 210) (a := 0) (b := 0) (by decide +kernel) rfl (Or.inl rfl) ?_
      exact ⟨rfl, by omega⟩
  show zwW _ _ _ 194 _ _ _ _
  refine zwW_p [(1, 5, 1), (0, 1000000, 1)] (q := 199) (ls' := [(0, a), (1, b), (9, 0), (1, c), (9, 0), (1, 0), (9, 0)]) (st' := [(1, 1000000), (1, 0)]) (by decide +kernel) rfl ?_
  refine zwW_lmin (nx := 202) (by decide +kernel) rfl ?_
  intro v46 ev46
  refine zwW_p [(0, -1000000, 1)] (q := 205) (ls' := [(0, a), (1, b), (9, 0), (1, c), (9, 0), (1, 0), (9, 0)]) (st' := [(1, -1000000), (1, v46)]) (by decide +kernel) rfl ?_
  refine zwW_lmax (nx := 208) (by decide +kernel) rfl ?_
  intro v47 ev47
  refine zwW_l2i (nx := 209) (by decide +kernel) (by first | omega | exact ⟨by omega, by omega⟩) ?_
  refine zwW_ret (nx := 210) (a := 0) (b := 0) (by decide +kernel) rfl (Or.inl rfl) ?_
  exact ⟨rfl, by omega⟩
def msx224 : Zms := [(18, 18, 0, 400)]
-- WheelLand$Rules.run(LWheelLand$Sheet;I)I
theorem x224 {sc : List Int} (h : Hp) (C : CI h) (r a : Int) (G_r : gS h r) (q_a : -2147483648 ≤ a ∧ a ≤ 2147483647) : zwC sc 2 224 [(2, 13), (2, r), (0, a)] h (zwRt 0 (fun x g => CI g ∧ zXR msx224 (0) (0) h g ∧ (-2147483648 ≤ x ∧ x ≤ 2147483647))) := by
  refine zwC_of (D := 1) 7 (by decide +kernel) rfl (ls := [(2, 13), (2, r), (0, a), (9, 0), (9, 0), (9, 0), (9, 0)]) rfl ?_
  have lw_r := G_r.1
  have X : zXR msx224 0 0 h h := zXR.rf _ _
  refine zwW_p [(0, 0, 0), (2, 3, 0), (1, 1, 2), (1, 2, 0)] (q := 4) (ls' := [(2, 13), (2, r), (0, a), (0, 0), (9, 0), (9, 0), (9, 0)]) (st' := [(0, a), (2, r)]) (by decide +kernel) rfl ?_
  refine zwW_cv (op := 60) (k' := 206) (n := 1) (kd := 10) (m := 3) (nx := 7) (r := r) (tl := [(0, a)]) (st' := []) (by decide +kernel) rfl (by decide +kernel) G_r.2.1 (x206 h C r a G_r (by omega)) rfl ?_
  rintro v1 _ ⟨rfl, f2⟩
  refine zwW_p [(2, 4, 0), (1, 1, 2), (1, 4, 0)] (q := 12) (ls' := [(2, 13), (2, r), (0, a), (0, 0), (0, v1), (9, 0), (9, 0)]) (st' := [(0, v1), (2, r)]) (by decide +kernel) rfl ?_
  refine zwW_cv (op := 60) (k' := 255) (n := 1) (kd := 10) (m := 3) (nx := 15) (r := r) (tl := [(0, v1)]) (st' := []) (by decide +kernel) rfl (by decide +kernel) G_r.2.1 (x255 h C r v1 G_r (by omega)) rfl ?_
  rintro v3 _ ⟨rfl, f4⟩
  refine zwW_p [(2, 5, 0), (0, 0, 0), (2, 6, 0)] (q := 20) (ls' := [(2, 13), (2, r), (0, a), (0, 0), (0, v1), (0, v3), (0, 0)]) (st' := []) (by decide +kernel) rfl ?_
  have L5 : ∀ (n : Nat) (tL5 pL5 qL5 kL5 : Int) (hL5 : Hp), n = ((1000 - kL5)).toNat → (0 ≤ tL5 ∧ tL5 ≤ 400) → (-2147483648 ≤ pL5 ∧ pL5 ≤ 2147483647) → (-2147483648 ≤ qL5 ∧ qL5 ≤ 2147483647) → (0 ≤ kL5 ∧ kL5 ≤ 1000) → (gS hL5 r) → CI hL5 → zXR msx224 (0) (0) h hL5 → zwW sc (1) 224 20 [(2, 13), (2, r), (0, a), (0, tL5), (0, pL5), (0, qL5), (0, kL5)] [] hL5 (zwRt 0 (fun x g => CI g ∧ zXR msx224 (0) (0) h g ∧ (-2147483648 ≤ x ∧ x ≤ 2147483647))) := by
    intro n
    induction n using Nat.strongRecOn with
    | ind n IHL5 =>
      intro tL5 pL5 qL5 kL5 hL5 hnL5 iL5_0 iL5_1 iL5_2 iL5_3 gL5_0 ChL5 XhL5
      refine zwW_p [(1, 6, 0), (0, 400, 0)] (q := 25) (ls' := [(2, 13), (2, r), (0, a), (0, tL5), (0, pL5), (0, qL5), (0, kL5)]) (st' := [(0, 400), (0, kL5)]) (by decide +kernel) rfl ?_
      refine zwic_ge (q := 178) (nx := 28) (by decide +kernel) (fun c6 => ?_) (fun c6 => ?_)
      · refine zwW_p [(1, 3, 0)] (q := 179) (ls' := [(2, 13), (2, r), (0, a), (0, tL5), (0, pL5), (0, qL5), (0, kL5)]) (st' := [(0, tL5)]) (by decide +kernel) rfl ?_
        refine zwif_le (q := 191) (nx := 182) (by decide +kernel) (fun c7 => ?_) (fun c7 => ?_)
        · refine zwW_p [(0, 0, 0)] (q := 192) (ls' := [(2, 13), (2, r), (0, a), (0, tL5), (0, pL5), (0, qL5), (0, kL5)]) (st' := [(0, 0)]) (by decide +kernel) rfl ?_
          refine zwW_ret (nx := 193) (a := 0) (b := 0) (by decide +kernel) rfl (Or.inl rfl) ?_
          exact ⟨ChL5, XhL5.le (by decide) (by decide), by omega⟩
        · refine zwW_p [(1, 0, 2)] (q := 183) (ls' := [(2, 13), (2, r), (0, a), (0, tL5), (0, pL5), (0, qL5), (0, kL5)]) (st' := [(2, 13)]) (by decide +kernel) rfl ?_
          refine zwW_gc ChL5.1 (kd := 9) (bn := 5) (n := 6) (c := 18) (nx := 186) (by decide +kernel) ?_
          refine zwW_p [(0, 0, 0)] (q := 187) (ls' := [(2, 13), (2, r), (0, a), (0, tL5), (0, pL5), (0, qL5), (0, kL5)]) (st' := [(0, 0), (2, 18)]) (by decide +kernel) rfl ?_
          refine zwW_al ChL5.1 (a1 := 18) (a2 := 18) (kd := 20) (n := 400) (t := 0) (lo := -2147483648) (hi := 2147483647) (nx := 188) (by decide +kernel) (by first | decide | exact ⟨by decide, by decide⟩) (by first | decide | exact ⟨by decide, by decide⟩) ?_
          intro v8 ev8 lv8 uv8
          refine zwW_p [(24, 192, 0)] (q := 192) (ls' := [(2, 13), (2, r), (0, a), (0, tL5), (0, pL5), (0, qL5), (0, kL5)]) (st' := [(0, v8)]) (by decide +kernel) rfl ?_
          refine zwW_ret (nx := 193) (a := 0) (b := 0) (by decide +kernel) rfl (Or.inl rfl) ?_
          exact ⟨ChL5, XhL5.le (by decide) (by decide), by omega⟩
      · refine zwW_p [(1, 5, 0), (0, -21, 0)] (q := 32) (ls' := [(2, 13), (2, r), (0, a), (0, tL5), (0, pL5), (0, qL5), (0, kL5)]) (st' := [(0, -21), (0, qL5)]) (by decide +kernel) rfl ?_
        refine zwic_eq (q := 178) (nx := 35) (by decide +kernel) (fun c9 => ?_) (fun c9 => ?_)
        · refine zwW_p [(1, 3, 0)] (q := 179) (ls' := [(2, 13), (2, r), (0, a), (0, tL5), (0, pL5), (0, qL5), (0, kL5)]) (st' := [(0, tL5)]) (by decide +kernel) rfl ?_
          refine zwif_le (q := 191) (nx := 182) (by decide +kernel) (fun c10 => ?_) (fun c10 => ?_)
          · refine zwW_p [(0, 0, 0)] (q := 192) (ls' := [(2, 13), (2, r), (0, a), (0, tL5), (0, pL5), (0, qL5), (0, kL5)]) (st' := [(0, 0)]) (by decide +kernel) rfl ?_
            refine zwW_ret (nx := 193) (a := 0) (b := 0) (by decide +kernel) rfl (Or.inl rfl) ?_
            exact ⟨ChL5, XhL5.le (by decide) (by decide), by omega⟩
          · refine zwW_p [(1, 0, 2)] (q := 183) (ls' := [(2, 13), (2, r), (0, a), (0, tL5), (0, pL5), (0, qL5), (0, kL5)]) (st' := [(2, 13)]) (by decide +kernel) rfl ?_
            refine zwW_gc ChL5.1 (kd := 9) (bn := 5) (n := 6) (c := 18) (nx := 186) (by decide +kernel) ?_
            refine zwW_p [(0, 0, 0)] (q := 187) (ls' := [(2, 13), (2, r), (0, a), (0, tL5), (0, pL5), (0, qL5), (0, kL5)]) (st' := [(0, 0), (2, 18)]) (by decide +kernel) rfl ?_
            refine zwW_al ChL5.1 (a1 := 18) (a2 := 18) (kd := 20) (n := 400) (t := 0) (lo := -2147483648) (hi := 2147483647) (nx := 188) (by decide +kernel) (by first | decide | exact ⟨by decide, by decide⟩) (by first | decide | exact ⟨by decide, by decide⟩) ?_
            intro v11 ev11 lv11 uv11
            refine zwW_p [(24, 192, 0)] (q := 192) (ls' := [(2, 13), (2, r), (0, a), (0, tL5), (0, pL5), (0, qL5), (0, kL5)]) (st' := [(0, v11)]) (by decide +kernel) rfl ?_
            refine zwW_ret (nx := 193) (a := 0) (b := 0) (by decide +kernel) rfl (Or.inl rfl) ?_
            exact ⟨ChL5, XhL5.le (by decide) (by decide), by omega⟩
        · refine zwW_p [(1, 3, 0), (1, 0, 2)] (q := 37) (ls' := [(2, 13), (2, r), (0, a), (0, tL5), (0, pL5), (0, qL5), (0, kL5)]) (st' := [(2, 13), (0, tL5)]) (by decide +kernel) rfl ?_
          refine zwW_gc ChL5.1 (kd := 9) (bn := 5) (n := 6) (c := 18) (nx := 40) (by decide +kernel) ?_
          refine zwW_len (kd := 20) (n := 400) (nx := 41) (by decide +kernel) (ChL5.1.s (a1 := 18) (a2 := 18) (by decide +kernel) (by omega) (by omega)) rfl ?_
          refine zwic_ge (q := 178) (nx := 44) (by decide +kernel) (fun c12 => ?_) (fun c12 => ?_)
          · refine zwW_p [(1, 3, 0)] (q := 179) (ls' := [(2, 13), (2, r), (0, a), (0, tL5), (0, pL5), (0, qL5), (0, kL5)]) (st' := [(0, tL5)]) (by decide +kernel) rfl ?_
            refine zwif_le (q := 191) (nx := 182) (by decide +kernel) (fun c13 => ?_) (fun c13 => ?_)
            · exfalso; omega
            · refine zwW_p [(1, 0, 2)] (q := 183) (ls' := [(2, 13), (2, r), (0, a), (0, tL5), (0, pL5), (0, qL5), (0, kL5)]) (st' := [(2, 13)]) (by decide +kernel) rfl ?_
              refine zwW_gc ChL5.1 (kd := 9) (bn := 5) (n := 6) (c := 18) (nx := 186) (by decide +kernel) ?_
              refine zwW_p [(0, 0, 0)] (q := 187) (ls' := [(2, 13), (2, r), (0, a), (0, tL5), (0, pL5), (0, qL5), (0, kL5)]) (st' := [(0, 0), (2, 18)]) (by decide +kernel) rfl ?_
              refine zwW_al ChL5.1 (a1 := 18) (a2 := 18) (kd := 20) (n := 400) (t := 0) (lo := -2147483648) (hi := 2147483647) (nx := 188) (by decide +kernel) (by first | decide | exact ⟨by decide, by decide⟩) (by first | decide | exact ⟨by decide, by decide⟩) ?_
              intro v14 ev14 lv14 uv14
              refine zwW_p [(24, 192, 0)] (q := 192) (ls' := [(2, 13), (2, r), (0, a), (0, tL5), (0, pL5), (0, qL5), (0, kL5)]) (st' := [(0, v14)]) (by decide +kernel) rfl ?_
              refine zwW_ret (nx := 193) (a := 0) (b := 0) (by decide +kernel) rfl (Or.inl rfl) ?_
              exact ⟨ChL5, XhL5.le (by decide) (by decide), by omega⟩
          · refine zwW_p [(1, 5, 0)] (q := 46) (ls' := [(2, 13), (2, r), (0, a), (0, tL5), (0, pL5), (0, qL5), (0, kL5)]) (st' := [(0, qL5)]) (by decide +kernel) rfl ?_
            refine zwif_lt (q := 63) (nx := 49) (by decide +kernel) (fun c15 => ?_) (fun c15 => ?_)
            · refine zwW_p [(1, 5, 0), (0, -13, 0)] (q := 67) (ls' := [(2, 13), (2, r), (0, a), (0, tL5), (0, pL5), (0, qL5), (0, kL5)]) (st' := [(0, -13), (0, qL5)]) (by decide +kernel) rfl ?_
              refine zwic_lt (q := 91) (nx := 70) (by decide +kernel) (fun c16 => ?_) (fun c16 => ?_)
              · refine zwW_p [(1, 5, 0), (0, -20, 0)] (q := 95) (ls' := [(2, 13), (2, r), (0, a), (0, tL5), (0, pL5), (0, qL5), (0, kL5)]) (st' := [(0, -20), (0, qL5)]) (by decide +kernel) rfl ?_
                refine zwic_ne (q := 123) (nx := 98) (by decide +kernel) (fun c17 => ?_) (fun c17 => ?_)
                · refine zwW_p [(1, 3, 0), (0, 1, 0)] (q := 125) (ls' := [(2, 13), (2, r), (0, a), (0, tL5), (0, pL5), (0, qL5), (0, kL5)]) (st' := [(0, 1), (0, tL5)]) (by decide +kernel) rfl ?_
                  refine zwic_le (q := 161) (nx := 128) (by decide +kernel) (fun c18 => ?_) (fun c18 => ?_)
                  · refine zwW_icw (i := 4) (c := 1) (x := pL5) (nx := 164) (fun z => [(2, 13), (2, r), (0, a), (0, tL5), (0, z), (0, qL5), (0, kL5)]) (by decide +kernel) rfl (fun _ => rfl) ?_
                    intro v19 ev19 lv19 uv19
                    refine zwW_p [(1, 1, 2), (1, 4, 0)] (q := 167) (ls' := [(2, 13), (2, r), (0, a), (0, tL5), (0, v19), (0, qL5), (0, kL5)]) (st' := [(0, v19), (2, r)]) (by decide +kernel) rfl ?_
                    refine zwW_cv (op := 60) (k' := 255) (n := 1) (kd := 10) (m := 3) (nx := 170) (r := r) (tl := [(0, v19)]) (st' := []) (by decide +kernel) rfl (by decide +kernel) gL5_0.2.1 (x255 hL5 ChL5 r v19 gL5_0 (by omega)) rfl ?_
                    rintro v20 _ ⟨rfl, f21⟩
                    refine zwW_p [(2, 5, 0)] (q := 172) (ls' := [(2, 13), (2, r), (0, a), (0, tL5), (0, v19), (0, v20), (0, kL5)]) (st' := []) (by decide +kernel) rfl ?_
                    refine zwW_inc (i := 6) (c := 1) (x := kL5) (nx := 175) (by decide +kernel) rfl (by first | omega | exact ⟨by omega, by omega⟩) (ls' := [(2, 13), (2, r), (0, a), (0, tL5), (0, v19), (0, v20), (0, (kL5 + 1))]) rfl ?_
                    refine zwW_p [(24, 20, 0)] (q := 20) (ls' := [(2, 13), (2, r), (0, a), (0, tL5), (0, v19), (0, v20), (0, (kL5 + 1))]) (st' := []) (by decide +kernel) rfl ?_
                    exact IHL5 ((1000 - (kL5 + 1))).toNat (by omega) tL5 v19 v20 (kL5 + 1) hL5 rfl (by omega) (by omega) (by omega) (by omega) gL5_0 ChL5 (XhL5.le (by decide) (by decide))
                  · refine zwW_inc (i := 3) (c := -1) (x := tL5) (nx := 131) (by decide +kernel) rfl (by first | omega | exact ⟨by omega, by omega⟩) (ls' := [(2, 13), (2, r), (0, a), (0, (tL5 + (-1))), (0, pL5), (0, qL5), (0, kL5)]) rfl ?_
                    refine zwW_p [(1, 0, 2)] (q := 132) (ls' := [(2, 13), (2, r), (0, a), (0, (tL5 + (-1))), (0, pL5), (0, qL5), (0, kL5)]) (st' := [(2, 13)]) (by decide +kernel) rfl ?_
                    refine zwW_gc ChL5.1 (kd := 9) (bn := 5) (n := 6) (c := 18) (nx := 135) (by decide +kernel) ?_
                    refine zwW_p [(1, 3, 0), (0, 1, 0)] (q := 137) (ls' := [(2, 13), (2, r), (0, a), (0, (tL5 + (-1))), (0, pL5), (0, qL5), (0, kL5)]) (st' := [(0, 1), (0, (tL5 + (-1))), (2, 18)]) (by decide +kernel) rfl ?_
                    refine zwW_sub (nx := 138) (by decide +kernel) (by first | omega | exact ⟨by omega, by omega⟩) ?_
                    refine zwW_p [(1, 5, 0)] (q := 140) (ls' := [(2, 13), (2, r), (0, a), (0, (tL5 + (-1))), (0, pL5), (0, qL5), (0, kL5)]) (st' := [(0, qL5), (0, ((tL5 + (-1)) - 1)), (2, 18)]) (by decide +kernel) rfl ?_
                    refine zwW_ngw (nx := 141) (by decide +kernel) ?_
                    intro v22 ev22 lv22 uv22
                    refine zwW_p [(1, 0, 2)] (q := 142) (ls' := [(2, 13), (2, r), (0, a), (0, (tL5 + (-1))), (0, pL5), (0, qL5), (0, kL5)]) (st' := [(2, 13), (0, v22), (0, ((tL5 + (-1)) - 1)), (2, 18)]) (by decide +kernel) rfl ?_
                    refine zwW_gc ChL5.1 (kd := 9) (bn := 5) (n := 6) (c := 18) (nx := 145) (by decide +kernel) ?_
                    refine zwW_p [(1, 3, 0), (0, 1, 0)] (q := 147) (ls' := [(2, 13), (2, r), (0, a), (0, (tL5 + (-1))), (0, pL5), (0, qL5), (0, kL5)]) (st' := [(0, 1), (0, (tL5 + (-1))), (2, 18), (0, v22), (0, ((tL5 + (-1)) - 1)), (2, 18)]) (by decide +kernel) rfl ?_
                    refine zwW_sub (nx := 148) (by decide +kernel) (by first | omega | exact ⟨by omega, by omega⟩) ?_
                    refine zwW_al ChL5.1 (a1 := 18) (a2 := 18) (kd := 20) (n := 400) (t := 0) (lo := -2147483648) (hi := 2147483647) (nx := 149) (by decide +kernel) (by first | decide | exact ⟨by decide, by decide⟩) (by first | omega | exact ⟨by omega, by omega⟩) ?_
                    intro v23 ev23 lv23 uv23
                    refine zwW_p [(7, 0, 0), (1, 0, 2)] (q := 151) (ls' := [(2, 13), (2, r), (0, a), (0, (tL5 + (-1))), (0, pL5), (0, qL5), (0, kL5)]) (st' := [(2, 13), (1, v23), (0, v22), (0, ((tL5 + (-1)) - 1)), (2, 18)]) (by decide +kernel) rfl ?_
                    refine zwW_gc ChL5.1 (kd := 9) (bn := 5) (n := 6) (c := 18) (nx := 154) (by decide +kernel) ?_
                    refine zwW_p [(1, 3, 0)] (q := 155) (ls' := [(2, 13), (2, r), (0, a), (0, (tL5 + (-1))), (0, pL5), (0, qL5), (0, kL5)]) (st' := [(0, (tL5 + (-1))), (2, 18), (1, v23), (0, v22), (0, ((tL5 + (-1)) - 1)), (2, 18)]) (by decide +kernel) rfl ?_
                    refine zwW_al ChL5.1 (a1 := 18) (a2 := 18) (kd := 20) (n := 400) (t := 0) (lo := -2147483648) (hi := 2147483647) (nx := 156) (by decide +kernel) (by first | decide | exact ⟨by decide, by decide⟩) (by first | omega | exact ⟨by omega, by omega⟩) ?_
                    intro v24 ev24 lv24 uv24
                    refine zwW_p [(7, 0, 0)] (q := 157) (ls' := [(2, 13), (2, r), (0, a), (0, (tL5 + (-1))), (0, pL5), (0, qL5), (0, kL5)]) (st' := [(1, v24), (1, v23), (0, v22), (0, ((tL5 + (-1)) - 1)), (2, 18)]) (by decide +kernel) rfl ?_
                    refine zwW_cs (k' := 256) (n := 3) (nx := 160) (as := [(0, v22), (1, v23), (1, v24)]) (st' := [(0, ((tL5 + (-1)) - 1)), (2, 18)]) (by decide +kernel) rfl (x256 hL5 ChL5 v22 v23 v24 (by omega) (by omega) (by omega)) rfl ?_
                    rintro v25 _ ⟨rfl, f26⟩
                    refine zwW_as ChL5.1 (a1 := 18) (a2 := 18) (n := 400) (lo := -2147483648) (hi := 2147483647) (nx := 161) (by decide +kernel) (by first | decide | exact ⟨by decide, by decide⟩) (by first | omega | exact ⟨by omega, by omega⟩) (by first | omega | exact ⟨by omega, by omega⟩) ?_
                    intro h27 eh27 Ih27
                    have Ch27 : CI h27 := ChL5.wc eh27 Ih27 (by decide) (by decide)
                    have Qh27 : zXR [(18, 18, 0, 400)] 0 0 hL5 h27 := zXR.wc eh27 rfl ⟨by decide, by decide, Or.inl (by decide)⟩ (by first | omega | exact ⟨by omega, by omega⟩)
                    have Xh27 : zXR msx224 (0) (0) h h27 := XhL5.tr (c2 := 0) (s2 := 0) Qh27 (by decide +kernel) (by decide) (by decide)
                    have Gh27_0 : gS h27 r := gL5_0.x Qh27
                    refine zwW_icw (i := 4) (c := 1) (x := pL5) (nx := 164) (fun z => [(2, 13), (2, r), (0, a), (0, (tL5 + (-1))), (0, z), (0, qL5), (0, kL5)]) (by decide +kernel) rfl (fun _ => rfl) ?_
                    intro v28 ev28 lv28 uv28
                    refine zwW_p [(1, 1, 2), (1, 4, 0)] (q := 167) (ls' := [(2, 13), (2, r), (0, a), (0, (tL5 + (-1))), (0, v28), (0, qL5), (0, kL5)]) (st' := [(0, v28), (2, r)]) (by decide +kernel) rfl ?_
                    refine zwW_cv (op := 60) (k' := 255) (n := 1) (kd := 10) (m := 3) (nx := 170) (r := r) (tl := [(0, v28)]) (st' := []) (by decide +kernel) rfl (by decide +kernel) Gh27_0.2.1 (x255 h27 Ch27 r v28 Gh27_0 (by omega)) rfl ?_
                    rintro v29 _ ⟨rfl, f30⟩
                    refine zwW_p [(2, 5, 0)] (q := 172) (ls' := [(2, 13), (2, r), (0, a), (0, (tL5 + (-1))), (0, v28), (0, v29), (0, kL5)]) (st' := []) (by decide +kernel) rfl ?_
                    refine zwW_inc (i := 6) (c := 1) (x := kL5) (nx := 175) (by decide +kernel) rfl (by first | omega | exact ⟨by omega, by omega⟩) (ls' := [(2, 13), (2, r), (0, a), (0, (tL5 + (-1))), (0, v28), (0, v29), (0, (kL5 + 1))]) rfl ?_
                    refine zwW_p [(24, 20, 0)] (q := 20) (ls' := [(2, 13), (2, r), (0, a), (0, (tL5 + (-1))), (0, v28), (0, v29), (0, (kL5 + 1))]) (st' := []) (by decide +kernel) rfl ?_
                    exact IHL5 ((1000 - (kL5 + 1))).toNat (by omega) (tL5 + (-1)) v28 v29 (kL5 + 1) h27 rfl (by omega) (by omega) (by omega) (by omega) Gh27_0 Ch27 (Xh27.le (by decide) (by decide))
                · refine zwW_p [(1, 3, 0)] (q := 99) (ls' := [(2, 13), (2, r), (0, a), (0, tL5), (0, pL5), (0, qL5), (0, kL5)]) (st' := [(0, tL5)]) (by decide +kernel) rfl ?_
                  refine zwif_le (q := 123) (nx := 102) (by decide +kernel) (fun c31 => ?_) (fun c31 => ?_)
                  · refine zwW_p [(1, 3, 0), (0, 1, 0)] (q := 125) (ls' := [(2, 13), (2, r), (0, a), (0, tL5), (0, pL5), (0, qL5), (0, kL5)]) (st' := [(0, 1), (0, tL5)]) (by decide +kernel) rfl ?_
                    refine zwic_le (q := 161) (nx := 128) (by decide +kernel) (fun c32 => ?_) (fun c32 => ?_)
                    · refine zwW_icw (i := 4) (c := 1) (x := pL5) (nx := 164) (fun z => [(2, 13), (2, r), (0, a), (0, tL5), (0, z), (0, qL5), (0, kL5)]) (by decide +kernel) rfl (fun _ => rfl) ?_
                      intro v33 ev33 lv33 uv33
                      refine zwW_p [(1, 1, 2), (1, 4, 0)] (q := 167) (ls' := [(2, 13), (2, r), (0, a), (0, tL5), (0, v33), (0, qL5), (0, kL5)]) (st' := [(0, v33), (2, r)]) (by decide +kernel) rfl ?_
                      refine zwW_cv (op := 60) (k' := 255) (n := 1) (kd := 10) (m := 3) (nx := 170) (r := r) (tl := [(0, v33)]) (st' := []) (by decide +kernel) rfl (by decide +kernel) gL5_0.2.1 (x255 hL5 ChL5 r v33 gL5_0 (by omega)) rfl ?_
                      rintro v34 _ ⟨rfl, f35⟩
                      refine zwW_p [(2, 5, 0)] (q := 172) (ls' := [(2, 13), (2, r), (0, a), (0, tL5), (0, v33), (0, v34), (0, kL5)]) (st' := []) (by decide +kernel) rfl ?_
                      refine zwW_inc (i := 6) (c := 1) (x := kL5) (nx := 175) (by decide +kernel) rfl (by first | omega | exact ⟨by omega, by omega⟩) (ls' := [(2, 13), (2, r), (0, a), (0, tL5), (0, v33), (0, v34), (0, (kL5 + 1))]) rfl ?_
                      refine zwW_p [(24, 20, 0)] (q := 20) (ls' := [(2, 13), (2, r), (0, a), (0, tL5), (0, v33), (0, v34), (0, (kL5 + 1))]) (st' := []) (by decide +kernel) rfl ?_
                      exact IHL5 ((1000 - (kL5 + 1))).toNat (by omega) tL5 v33 v34 (kL5 + 1) hL5 rfl (by omega) (by omega) (by omega) (by omega) gL5_0 ChL5 (XhL5.le (by decide) (by decide))
                    · exfalso; omega
                  · refine zwW_p [(1, 0, 2)] (q := 103) (ls' := [(2, 13), (2, r), (0, a), (0, tL5), (0, pL5), (0, qL5), (0, kL5)]) (st' := [(2, 13)]) (by decide +kernel) rfl ?_
                    refine zwW_gc ChL5.1 (kd := 9) (bn := 5) (n := 6) (c := 18) (nx := 106) (by decide +kernel) ?_
                    refine zwW_p [(1, 3, 0), (0, 1, 0)] (q := 108) (ls' := [(2, 13), (2, r), (0, a), (0, tL5), (0, pL5), (0, qL5), (0, kL5)]) (st' := [(0, 1), (0, tL5), (2, 18)]) (by decide +kernel) rfl ?_
                    refine zwW_sub (nx := 109) (by decide +kernel) (by first | omega | exact ⟨by omega, by omega⟩) ?_
                    refine zwW_p [(0, 1, 0), (1, 0, 2)] (q := 111) (ls' := [(2, 13), (2, r), (0, a), (0, tL5), (0, pL5), (0, qL5), (0, kL5)]) (st' := [(2, 13), (0, 1), (0, (tL5 - 1)), (2, 18)]) (by decide +kernel) rfl ?_
                    refine zwW_gc ChL5.1 (kd := 9) (bn := 5) (n := 6) (c := 18) (nx := 114) (by decide +kernel) ?_
                    refine zwW_p [(1, 3, 0), (0, 1, 0)] (q := 116) (ls' := [(2, 13), (2, r), (0, a), (0, tL5), (0, pL5), (0, qL5), (0, kL5)]) (st' := [(0, 1), (0, tL5), (2, 18), (0, 1), (0, (tL5 - 1)), (2, 18)]) (by decide +kernel) rfl ?_
                    refine zwW_sub (nx := 117) (by decide +kernel) (by first | omega | exact ⟨by omega, by omega⟩) ?_
                    refine zwW_al ChL5.1 (a1 := 18) (a2 := 18) (kd := 20) (n := 400) (t := 0) (lo := -2147483648) (hi := 2147483647) (nx := 118) (by decide +kernel) (by first | decide | exact ⟨by decide, by decide⟩) (by first | omega | exact ⟨by omega, by omega⟩) ?_
                    intro v36 ev36 lv36 uv36
                    refine zwW_sbw (nx := 119) (by decide +kernel) ?_
                    intro v37 ev37 lv37 uv37
                    refine zwW_as ChL5.1 (a1 := 18) (a2 := 18) (n := 400) (lo := -2147483648) (hi := 2147483647) (nx := 120) (by decide +kernel) (by first | decide | exact ⟨by decide, by decide⟩) (by first | omega | exact ⟨by omega, by omega⟩) (by first | omega | exact ⟨by omega, by omega⟩) ?_
                    intro h38 eh38 Ih38
                    have Ch38 : CI h38 := ChL5.wc eh38 Ih38 (by decide) (by decide)
                    have Qh38 : zXR [(18, 18, 0, 400)] 0 0 hL5 h38 := zXR.wc eh38 rfl ⟨by decide, by decide, Or.inl (by decide)⟩ (by first | omega | exact ⟨by omega, by omega⟩)
                    have Xh38 : zXR msx224 (0) (0) h h38 := XhL5.tr (c2 := 0) (s2 := 0) Qh38 (by decide +kernel) (by decide) (by decide)
                    have Gh38_0 : gS h38 r := gL5_0.x Qh38
                    refine zwW_p [(24, 161, 0)] (q := 161) (ls' := [(2, 13), (2, r), (0, a), (0, tL5), (0, pL5), (0, qL5), (0, kL5)]) (st' := []) (by decide +kernel) rfl ?_
                    refine zwW_icw (i := 4) (c := 1) (x := pL5) (nx := 164) (fun z => [(2, 13), (2, r), (0, a), (0, tL5), (0, z), (0, qL5), (0, kL5)]) (by decide +kernel) rfl (fun _ => rfl) ?_
                    intro v39 ev39 lv39 uv39
                    refine zwW_p [(1, 1, 2), (1, 4, 0)] (q := 167) (ls' := [(2, 13), (2, r), (0, a), (0, tL5), (0, v39), (0, qL5), (0, kL5)]) (st' := [(0, v39), (2, r)]) (by decide +kernel) rfl ?_
                    refine zwW_cv (op := 60) (k' := 255) (n := 1) (kd := 10) (m := 3) (nx := 170) (r := r) (tl := [(0, v39)]) (st' := []) (by decide +kernel) rfl (by decide +kernel) Gh38_0.2.1 (x255 h38 Ch38 r v39 Gh38_0 (by omega)) rfl ?_
                    rintro v40 _ ⟨rfl, f41⟩
                    refine zwW_p [(2, 5, 0)] (q := 172) (ls' := [(2, 13), (2, r), (0, a), (0, tL5), (0, v39), (0, v40), (0, kL5)]) (st' := []) (by decide +kernel) rfl ?_
                    refine zwW_inc (i := 6) (c := 1) (x := kL5) (nx := 175) (by decide +kernel) rfl (by first | omega | exact ⟨by omega, by omega⟩) (ls' := [(2, 13), (2, r), (0, a), (0, tL5), (0, v39), (0, v40), (0, (kL5 + 1))]) rfl ?_
                    refine zwW_p [(24, 20, 0)] (q := 20) (ls' := [(2, 13), (2, r), (0, a), (0, tL5), (0, v39), (0, v40), (0, (kL5 + 1))]) (st' := []) (by decide +kernel) rfl ?_
                    exact IHL5 ((1000 - (kL5 + 1))).toNat (by omega) tL5 v39 v40 (kL5 + 1) h38 rfl (by omega) (by omega) (by omega) (by omega) Gh38_0 Ch38 (Xh38.le (by decide) (by decide))
              · refine zwW_p [(1, 0, 2)] (q := 71) (ls' := [(2, 13), (2, r), (0, a), (0, tL5), (0, pL5), (0, qL5), (0, kL5)]) (st' := [(2, 13)]) (by decide +kernel) rfl ?_
                refine zwW_gc ChL5.1 (kd := 9) (bn := 5) (n := 6) (c := 18) (nx := 74) (by decide +kernel) ?_
                refine zwW_p [(1, 3, 0), (1, 0, 2)] (q := 76) (ls' := [(2, 13), (2, r), (0, a), (0, tL5), (0, pL5), (0, qL5), (0, kL5)]) (st' := [(2, 13), (0, tL5), (2, 18)]) (by decide +kernel) rfl ?_
                refine zwW_gc ChL5.1 (kd := 9) (bn := 4) (n := 6) (c := 17) (nx := 79) (by decide +kernel) ?_
                refine zwW_p [(0, -1, 0), (1, 5, 0)] (q := 82) (ls' := [(2, 13), (2, r), (0, a), (0, tL5), (0, pL5), (0, qL5), (0, kL5)]) (st' := [(0, qL5), (0, -1), (2, 17), (0, tL5), (2, 18)]) (by decide +kernel) rfl ?_
                refine zwW_sub (nx := 83) (by decide +kernel) (by first | omega | exact ⟨by omega, by omega⟩) ?_
                refine zwW_al ChL5.1 (a1 := 17) (a2 := 17) (kd := 20) (n := 13) (t := 0) (lo := -2147483648) (hi := 2147483647) (nx := 84) (by decide +kernel) (by first | decide | exact ⟨by decide, by decide⟩) (by first | omega | exact ⟨by omega, by omega⟩) ?_
                intro v42 ev42 lv42 uv42
                refine zwW_as ChL5.1 (a1 := 18) (a2 := 18) (n := 400) (lo := -2147483648) (hi := 2147483647) (nx := 85) (by decide +kernel) (by first | decide | exact ⟨by decide, by decide⟩) (by first | omega | exact ⟨by omega, by omega⟩) (by first | omega | exact ⟨by omega, by omega⟩) ?_
                intro h43 eh43 Ih43
                have Ch43 : CI h43 := ChL5.wc eh43 Ih43 (by decide) (by decide)
                have Qh43 : zXR [(18, 18, 0, 400)] 0 0 hL5 h43 := zXR.wc eh43 rfl ⟨by decide, by decide, Or.inl (by decide)⟩ (by first | omega | exact ⟨by omega, by omega⟩)
                have Xh43 : zXR msx224 (0) (0) h h43 := XhL5.tr (c2 := 0) (s2 := 0) Qh43 (by decide +kernel) (by decide) (by decide)
                have Gh43_0 : gS h43 r := gL5_0.x Qh43
                refine zwW_inc (i := 3) (c := 1) (x := tL5) (nx := 88) (by decide +kernel) rfl (by first | omega | exact ⟨by omega, by omega⟩) (ls' := [(2, 13), (2, r), (0, a), (0, (tL5 + 1)), (0, pL5), (0, qL5), (0, kL5)]) rfl ?_
                refine zwW_p [(24, 161, 0)] (q := 161) (ls' := [(2, 13), (2, r), (0, a), (0, (tL5 + 1)), (0, pL5), (0, qL5), (0, kL5)]) (st' := []) (by decide +kernel) rfl ?_
                refine zwW_icw (i := 4) (c := 1) (x := pL5) (nx := 164) (fun z => [(2, 13), (2, r), (0, a), (0, (tL5 + 1)), (0, z), (0, qL5), (0, kL5)]) (by decide +kernel) rfl (fun _ => rfl) ?_
                intro v44 ev44 lv44 uv44
                refine zwW_p [(1, 1, 2), (1, 4, 0)] (q := 167) (ls' := [(2, 13), (2, r), (0, a), (0, (tL5 + 1)), (0, v44), (0, qL5), (0, kL5)]) (st' := [(0, v44), (2, r)]) (by decide +kernel) rfl ?_
                refine zwW_cv (op := 60) (k' := 255) (n := 1) (kd := 10) (m := 3) (nx := 170) (r := r) (tl := [(0, v44)]) (st' := []) (by decide +kernel) rfl (by decide +kernel) Gh43_0.2.1 (x255 h43 Ch43 r v44 Gh43_0 (by omega)) rfl ?_
                rintro v45 _ ⟨rfl, f46⟩
                refine zwW_p [(2, 5, 0)] (q := 172) (ls' := [(2, 13), (2, r), (0, a), (0, (tL5 + 1)), (0, v44), (0, v45), (0, kL5)]) (st' := []) (by decide +kernel) rfl ?_
                refine zwW_inc (i := 6) (c := 1) (x := kL5) (nx := 175) (by decide +kernel) rfl (by first | omega | exact ⟨by omega, by omega⟩) (ls' := [(2, 13), (2, r), (0, a), (0, (tL5 + 1)), (0, v44), (0, v45), (0, (kL5 + 1))]) rfl ?_
                refine zwW_p [(24, 20, 0)] (q := 20) (ls' := [(2, 13), (2, r), (0, a), (0, (tL5 + 1)), (0, v44), (0, v45), (0, (kL5 + 1))]) (st' := []) (by decide +kernel) rfl ?_
                exact IHL5 ((1000 - (kL5 + 1))).toNat (by omega) (tL5 + 1) v44 v45 (kL5 + 1) h43 rfl (by omega) (by omega) (by omega) (by omega) Gh43_0 Ch43 (Xh43.le (by decide) (by decide))
            · refine zwW_p [(1, 0, 2)] (q := 50) (ls' := [(2, 13), (2, r), (0, a), (0, tL5), (0, pL5), (0, qL5), (0, kL5)]) (st' := [(2, 13)]) (by decide +kernel) rfl ?_
              refine zwW_gc ChL5.1 (kd := 9) (bn := 5) (n := 6) (c := 18) (nx := 53) (by decide +kernel) ?_
              refine zwW_p [(1, 3, 0), (1, 5, 0)] (q := 56) (ls' := [(2, 13), (2, r), (0, a), (0, tL5), (0, pL5), (0, qL5), (0, kL5)]) (st' := [(0, qL5), (0, tL5), (2, 18)]) (by decide +kernel) rfl ?_
              refine zwW_as ChL5.1 (a1 := 18) (a2 := 18) (n := 400) (lo := -2147483648) (hi := 2147483647) (nx := 57) (by decide +kernel) (by first | decide | exact ⟨by decide, by decide⟩) (by first | omega | exact ⟨by omega, by omega⟩) (by first | omega | exact ⟨by omega, by omega⟩) ?_
              intro h47 eh47 Ih47
              have Ch47 : CI h47 := ChL5.wc eh47 Ih47 (by decide) (by decide)
              have Qh47 : zXR [(18, 18, 0, 400)] 0 0 hL5 h47 := zXR.wc eh47 rfl ⟨by decide, by decide, Or.inl (by decide)⟩ (by first | omega | exact ⟨by omega, by omega⟩)
              have Xh47 : zXR msx224 (0) (0) h h47 := XhL5.tr (c2 := 0) (s2 := 0) Qh47 (by decide +kernel) (by decide) (by decide)
              have Gh47_0 : gS h47 r := gL5_0.x Qh47
              refine zwW_inc (i := 3) (c := 1) (x := tL5) (nx := 60) (by decide +kernel) rfl (by first | omega | exact ⟨by omega, by omega⟩) (ls' := [(2, 13), (2, r), (0, a), (0, (tL5 + 1)), (0, pL5), (0, qL5), (0, kL5)]) rfl ?_
              refine zwW_p [(24, 161, 0)] (q := 161) (ls' := [(2, 13), (2, r), (0, a), (0, (tL5 + 1)), (0, pL5), (0, qL5), (0, kL5)]) (st' := []) (by decide +kernel) rfl ?_
              refine zwW_icw (i := 4) (c := 1) (x := pL5) (nx := 164) (fun z => [(2, 13), (2, r), (0, a), (0, (tL5 + 1)), (0, z), (0, qL5), (0, kL5)]) (by decide +kernel) rfl (fun _ => rfl) ?_
              intro v48 ev48 lv48 uv48
              refine zwW_p [(1, 1, 2), (1, 4, 0)] (q := 167) (ls' := [(2, 13), (2, r), (0, a), (0, (tL5 + 1)), (0, v48), (0, qL5), (0, kL5)]) (st' := [(0, v48), (2, r)]) (by decide +kernel) rfl ?_
              refine zwW_cv (op := 60) (k' := 255) (n := 1) (kd := 10) (m := 3) (nx := 170) (r := r) (tl := [(0, v48)]) (st' := []) (by decide +kernel) rfl (by decide +kernel) Gh47_0.2.1 (x255 h47 Ch47 r v48 Gh47_0 (by omega)) rfl ?_
              rintro v49 _ ⟨rfl, f50⟩
              refine zwW_p [(2, 5, 0)] (q := 172) (ls' := [(2, 13), (2, r), (0, a), (0, (tL5 + 1)), (0, v48), (0, v49), (0, kL5)]) (st' := []) (by decide +kernel) rfl ?_
              refine zwW_inc (i := 6) (c := 1) (x := kL5) (nx := 175) (by decide +kernel) rfl (by first | omega | exact ⟨by omega, by omega⟩) (ls' := [(2, 13), (2, r), (0, a), (0, (tL5 + 1)), (0, v48), (0, v49), (0, (kL5 + 1))]) rfl ?_
              refine zwW_p [(24, 20, 0)] (q := 20) (ls' := [(2, 13), (2, r), (0, a), (0, (tL5 + 1)), (0, v48), (0, v49), (0, (kL5 + 1))]) (st' := []) (by decide +kernel) rfl ?_
              exact IHL5 ((1000 - (kL5 + 1))).toNat (by omega) (tL5 + 1) v48 v49 (kL5 + 1) h47 rfl (by omega) (by omega) (by omega) (by omega) Gh47_0 Ch47 (Xh47.le (by decide) (by decide))
  exact L5 _ 0 v1 v3 0 h rfl (by omega) (by omega) (by omega) (by omega) G_r C (X.le (by decide) (by decide))
-- WheelLand$Rules.inForce(II)LWheelLand$Sheet;
theorem x125 {sc : List Int} (h : Hp) (C : CI h) (a b : Int) (q_a : -2147483648 ≤ a ∧ a ≤ 2147483647) (q_b : -2147483648 ≤ b ∧ b ≤ 2147483647) : zwC sc 2 125 [(2, 13), (0, a), (0, b)] h (zwRt 2 (fun x g => h = g ∧ ((x = 0) ∨ (gS h x)))) := by
  refine zwC_of (D := 1) 7 (by decide +kernel) rfl (ls := [(2, 13), (0, a), (0, b), (9, 0), (9, 0), (9, 0), (9, 0)]) rfl ?_
  refine zwW_p [(0, 0, 2), (2, 3, 2), (0, 0, 0), (2, 4, 0), (0, 0, 0), (2, 5, 0)] (q := 8) (ls' := [(2, 13), (0, a), (0, b), (2, 0), (0, 0), (0, 0), (9, 0)]) (st' := []) (by decide +kernel) rfl ?_
  have L1 : ∀ (n : Nat) (wL1 kL1 r3L1 : Int) (w6L1 : Vl), n = ((1000 - kL1)).toNat → (-2147483648 ≤ wL1 ∧ wL1 ≤ 2147483647) → (0 ≤ kL1 ∧ kL1 ≤ 12) → ((r3L1 = 0 ∨ gS h r3L1)) → zwW sc (1) 125 8 [(2, 13), (0, a), (0, b), (2, r3L1), (0, wL1), (0, kL1), w6L1] [] h (zwRt 2 (fun x g => h = g ∧ ((x = 0) ∨ (gS h x)))) := by
    intro n
    induction n using Nat.strongRecOn with
    | ind n IHL1 =>
      intro wL1 kL1 r3L1 w6L1 hnL1 iL1_0 iL1_1 gL1_0
      have lw_r3L1 : 0 ≤ r3L1 := by
        rcases gL1_0 with z | z
        · omega
        · have := z.1
          omega
      refine zwW_p [(1, 5, 0), (1, 0, 2)] (q := 11) (ls' := [(2, 13), (0, a), (0, b), (2, r3L1), (0, wL1), (0, kL1), w6L1]) (st' := [(2, 13), (0, kL1)]) (by decide +kernel) rfl ?_
      refine zwW_gs C.1 (kd := 9) (bn := 1) (n := 6) (t := 0) (lo := 0) (hi := 12) (nx := 14) (by decide +kernel) ?_
      intro v2 ev2 lv2 uv2
      refine zwic_ge (q := 92) (nx := 17) (by decide +kernel) (fun c3 => ?_) (fun c3 => ?_)
      · refine zwW_p [(1, 3, 2)] (q := 93) (ls' := [(2, 13), (0, a), (0, b), (2, r3L1), (0, wL1), (0, kL1), w6L1]) (st' := [(2, r3L1)]) (by decide +kernel) rfl ?_
        refine zwW_ret (nx := 94) (a := 0) (b := 2) (by decide +kernel) rfl (Or.inl rfl) ?_
        exact ⟨rfl, gL1_0⟩
      · refine zwW_p [(1, 5, 0), (1, 0, 2)] (q := 20) (ls' := [(2, 13), (0, a), (0, b), (2, r3L1), (0, wL1), (0, kL1), w6L1]) (st' := [(2, 13), (0, kL1)]) (by decide +kernel) rfl ?_
        refine zwW_gc C.1 (kd := 9) (bn := 2) (n := 6) (c := 15) (nx := 23) (by decide +kernel) ?_
        refine zwW_len (kd := 24) (n := 12) (nx := 24) (by decide +kernel) (C.1.s (a1 := 15) (a2 := 15) (by decide +kernel) (by omega) (by omega)) rfl ?_
        refine zwic_ge (q := 92) (nx := 27) (by decide +kernel) (fun c4 => ?_) (fun c4 => ?_)
        · exfalso; omega
        · refine zwW_p [(1, 0, 2)] (q := 28) (ls' := [(2, 13), (0, a), (0, b), (2, r3L1), (0, wL1), (0, kL1), w6L1]) (st' := [(2, 13)]) (by decide +kernel) rfl ?_
          refine zwW_gc C.1 (kd := 9) (bn := 2) (n := 6) (c := 15) (nx := 31) (by decide +kernel) ?_
          refine zwW_p [(1, 5, 0)] (q := 33) (ls' := [(2, 13), (0, a), (0, b), (2, r3L1), (0, wL1), (0, kL1), w6L1]) (st' := [(0, kL1), (2, 15)]) (by decide +kernel) rfl ?_
          refine zwW_al C.1 (a1 := 15) (a2 := 15) (kd := 24) (n := 12) (t := 2) (lo := 0) (hi := 2147483647) (nx := 34) (by decide +kernel) (by first | decide | exact ⟨by decide, by decide⟩) (by first | omega | exact ⟨by omega, by omega⟩) ?_
          intro v5 ev5 lv5 uv5
          have Gv5 : v5 = 0 ∨ gS h v5 := by rw [ev5]; exact C.2.2.2.2 kL1.toNat (by omega)
          refine zwW_p [(2, 6, 2), (1, 0, 2)] (q := 37) (ls' := [(2, 13), (0, a), (0, b), (2, r3L1), (0, wL1), (0, kL1), (2, v5)]) (st' := [(2, 13)]) (by decide +kernel) rfl ?_
          refine zwW_gc C.1 (kd := 9) (bn := 3) (n := 6) (c := 16) (nx := 40) (by decide +kernel) ?_
          refine zwW_p [(1, 5, 0)] (q := 42) (ls' := [(2, 13), (0, a), (0, b), (2, r3L1), (0, wL1), (0, kL1), (2, v5)]) (st' := [(0, kL1), (2, 16)]) (by decide +kernel) rfl ?_
          refine zwW_al C.1 (a1 := 16) (a2 := 16) (kd := 20) (n := 12) (t := 0) (lo := -2147483648) (hi := 2147483647) (nx := 43) (by decide +kernel) (by first | decide | exact ⟨by decide, by decide⟩) (by first | omega | exact ⟨by omega, by omega⟩) ?_
          intro v6 ev6 lv6 uv6
          refine zwW_p [(1, 2, 0)] (q := 44) (ls' := [(2, 13), (0, a), (0, b), (2, r3L1), (0, wL1), (0, kL1), (2, v5)]) (st' := [(0, b), (0, v6)]) (by decide +kernel) rfl ?_
          refine zwic_gt (q := 86) (nx := 47) (by decide +kernel) (fun c7 => ?_) (fun c7 => ?_)
          · refine zwW_inc (i := 5) (c := 1) (x := kL1) (nx := 89) (by decide +kernel) rfl (by first | omega | exact ⟨by omega, by omega⟩) (ls' := [(2, 13), (0, a), (0, b), (2, r3L1), (0, wL1), (0, (kL1 + 1)), (2, v5)]) rfl ?_
            refine zwW_p [(24, 8, 0)] (q := 8) (ls' := [(2, 13), (0, a), (0, b), (2, r3L1), (0, wL1), (0, (kL1 + 1)), (2, v5)]) (st' := []) (by decide +kernel) rfl ?_
            exact IHL1 ((1000 - (kL1 + 1))).toNat (by omega) wL1 (kL1 + 1) r3L1 (2, v5) rfl (by omega) (by omega) gL1_0
          · refine zwW_p [(1, 0, 2)] (q := 48) (ls' := [(2, 13), (0, a), (0, b), (2, r3L1), (0, wL1), (0, kL1), (2, v5)]) (st' := [(2, 13)]) (by decide +kernel) rfl ?_
            refine zwW_gc C.1 (kd := 9) (bn := 3) (n := 6) (c := 16) (nx := 51) (by decide +kernel) ?_
            refine zwW_p [(1, 5, 0)] (q := 53) (ls' := [(2, 13), (0, a), (0, b), (2, r3L1), (0, wL1), (0, kL1), (2, v5)]) (st' := [(0, kL1), (2, 16)]) (by decide +kernel) rfl ?_
            refine zwW_al C.1 (a1 := 16) (a2 := 16) (kd := 20) (n := 12) (t := 0) (lo := -2147483648) (hi := 2147483647) (nx := 54) (by decide +kernel) (by first | decide | exact ⟨by decide, by decide⟩) (by first | omega | exact ⟨by omega, by omega⟩) ?_
            intro v8 ev8 lv8 uv8
            refine zwW_p [(1, 4, 0)] (q := 56) (ls' := [(2, 13), (0, a), (0, b), (2, r3L1), (0, wL1), (0, kL1), (2, v5)]) (st' := [(0, wL1), (0, v8)]) (by decide +kernel) rfl ?_
            refine zwic_lt (q := 86) (nx := 59) (by decide +kernel) (fun c9 => ?_) (fun c9 => ?_)
            · refine zwW_inc (i := 5) (c := 1) (x := kL1) (nx := 89) (by decide +kernel) rfl (by first | omega | exact ⟨by omega, by omega⟩) (ls' := [(2, 13), (0, a), (0, b), (2, r3L1), (0, wL1), (0, (kL1 + 1)), (2, v5)]) rfl ?_
              refine zwW_p [(24, 8, 0)] (q := 8) (ls' := [(2, 13), (0, a), (0, b), (2, r3L1), (0, wL1), (0, (kL1 + 1)), (2, v5)]) (st' := []) (by decide +kernel) rfl ?_
              exact IHL1 ((1000 - (kL1 + 1))).toNat (by omega) wL1 (kL1 + 1) r3L1 (2, v5) rfl (by omega) (by omega) gL1_0
            · refine zwW_p [(1, 6, 2)] (q := 61) (ls' := [(2, 13), (0, a), (0, b), (2, r3L1), (0, wL1), (0, kL1), (2, v5)]) (st' := [(2, v5)]) (by decide +kernel) rfl ?_
              refine zwnu_eq (q := 86) (nx := 64) (by decide +kernel) (by omega) (fun c10 => ?_) (fun c10 => ?_)
              · refine zwW_inc (i := 5) (c := 1) (x := kL1) (nx := 89) (by decide +kernel) rfl (by first | omega | exact ⟨by omega, by omega⟩) (ls' := [(2, 13), (0, a), (0, b), (2, r3L1), (0, wL1), (0, (kL1 + 1)), (2, v5)]) rfl ?_
                refine zwW_p [(24, 8, 0)] (q := 8) (ls' := [(2, 13), (0, a), (0, b), (2, r3L1), (0, wL1), (0, (kL1 + 1)), (2, v5)]) (st' := []) (by decide +kernel) rfl ?_
                exact IHL1 ((1000 - (kL1 + 1))).toNat (by omega) wL1 (kL1 + 1) r3L1 (2, v5) rfl (by omega) (by omega) gL1_0
              · have G11 : gS h v5 := Gv5.resolve_left (by omega)
                have lG11 := G11.1
                refine zwW_p [(1, 6, 2), (1, 1, 0)] (q := 67) (ls' := [(2, 13), (0, a), (0, b), (2, r3L1), (0, wL1), (0, kL1), (2, v5)]) (st' := [(0, a), (2, v5)]) (by decide +kernel) rfl ?_
                refine zwW_cv (op := 60) (k' := 206) (n := 1) (kd := 10) (m := 3) (nx := 70) (r := v5) (tl := [(0, a)]) (st' := []) (by decide +kernel) rfl (by decide +kernel) G11.2.1 (x206 h C v5 a G11 (by omega)) rfl ?_
                rintro v12 _ ⟨rfl, f13⟩
                refine zwW_p [(0, -1, 0)] (q := 71) (ls' := [(2, 13), (0, a), (0, b), (2, r3L1), (0, wL1), (0, kL1), (2, v5)]) (st' := [(0, -1), (0, v12)]) (by decide +kernel) rfl ?_
                refine zwic_eq (q := 86) (nx := 74) (by decide +kernel) (fun c14 => ?_) (fun c14 => ?_)
                · refine zwW_inc (i := 5) (c := 1) (x := kL1) (nx := 89) (by decide +kernel) rfl (by first | omega | exact ⟨by omega, by omega⟩) (ls' := [(2, 13), (0, a), (0, b), (2, r3L1), (0, wL1), (0, (kL1 + 1)), (2, v5)]) rfl ?_
                  refine zwW_p [(24, 8, 0)] (q := 8) (ls' := [(2, 13), (0, a), (0, b), (2, r3L1), (0, wL1), (0, (kL1 + 1)), (2, v5)]) (st' := []) (by decide +kernel) rfl ?_
                  exact IHL1 ((1000 - (kL1 + 1))).toNat (by omega) wL1 (kL1 + 1) r3L1 (2, v5) rfl (by omega) (by omega) gL1_0
                · refine zwW_p [(1, 0, 2)] (q := 75) (ls' := [(2, 13), (0, a), (0, b), (2, r3L1), (0, wL1), (0, kL1), (2, v5)]) (st' := [(2, 13)]) (by decide +kernel) rfl ?_
                  refine zwW_gc C.1 (kd := 9) (bn := 3) (n := 6) (c := 16) (nx := 78) (by decide +kernel) ?_
                  refine zwW_p [(1, 5, 0)] (q := 80) (ls' := [(2, 13), (0, a), (0, b), (2, r3L1), (0, wL1), (0, kL1), (2, v5)]) (st' := [(0, kL1), (2, 16)]) (by decide +kernel) rfl ?_
                  refine zwW_al C.1 (a1 := 16) (a2 := 16) (kd := 20) (n := 12) (t := 0) (lo := -2147483648) (hi := 2147483647) (nx := 81) (by decide +kernel) (by first | decide | exact ⟨by decide, by decide⟩) (by first | omega | exact ⟨by omega, by omega⟩) ?_
                  intro v15 ev15 lv15 uv15
                  refine zwW_p [(2, 4, 0), (1, 6, 2), (2, 3, 2)] (q := 86) (ls' := [(2, 13), (0, a), (0, b), (2, v5), (0, v15), (0, kL1), (2, v5)]) (st' := []) (by decide +kernel) rfl ?_
                  refine zwW_inc (i := 5) (c := 1) (x := kL1) (nx := 89) (by decide +kernel) rfl (by first | omega | exact ⟨by omega, by omega⟩) (ls' := [(2, 13), (0, a), (0, b), (2, v5), (0, v15), (0, (kL1 + 1)), (2, v5)]) rfl ?_
                  refine zwW_p [(24, 8, 0)] (q := 8) (ls' := [(2, 13), (0, a), (0, b), (2, v5), (0, v15), (0, (kL1 + 1)), (2, v5)]) (st' := []) (by decide +kernel) rfl ?_
                  exact IHL1 ((1000 - (kL1 + 1))).toNat (by omega) v15 (kL1 + 1) v5 (2, v5) rfl (by omega) (by omega) (Or.inr G11)
  exact L1 _ 0 0 0 (9, 0) rfl (by omega) (by omega) (Or.inl rfl)
def msx172 : Zms := [(18, 18, 0, 400)]
-- WheelLand$Rules.answer(II)I
theorem x172 {sc : List Int} (h : Hp) (C : CI h) (a b : Int) (q_a : -2147483648 ≤ a ∧ a ≤ 2147483647) (q_b : -2147483648 ≤ b ∧ b ≤ 2147483647) : zwC sc 3 172 [(2, 13), (0, a), (0, b)] h (zwRt 0 (fun x g => CI g ∧ zXR msx172 (0) (0) h g ∧ (-2147483648 ≤ x ∧ x ≤ 2147483647))) := by
  refine zwC_of (D := 2) 4 (by decide +kernel) rfl (ls := [(2, 13), (0, a), (0, b), (9, 0)]) rfl ?_
  have X : zXR msx172 0 0 h h := zXR.rf _ _
  refine zwW_p [(1, 0, 2), (1, 1, 0), (1, 2, 0)] (q := 3) (ls' := [(2, 13), (0, a), (0, b), (9, 0)]) (st' := [(0, b), (0, a), (2, 13)]) (by decide +kernel) rfl ?_
  refine zwW_cm C.1 (op := 60) (k' := 125) (n := 2) (kd := 9) (m := 6) (nx := 6) (r := 13) (tl := [(0, a), (0, b)]) (st' := []) (by decide +kernel) rfl (by decide +kernel) rfl (x125 h C a b (by omega) (by omega)) ?_
  rintro v2 _ ⟨rfl, rfl | Gv2⟩
  · refine zwW_p [(2, 3, 2), (1, 3, 2)] (q := 8) (ls' := [(2, 13), (0, a), (0, b), (2, 0)]) (st' := [(2, 0)]) (by decide +kernel) rfl ?_
    refine zwnu_ne (q := 26) (nx := 11) (by decide +kernel) (by decide) (fun c3 => ?_) (fun c3 => ?_)
    · exfalso; omega
    · refine zwW_p [(1, 1, 0)] (q := 12) (ls' := [(2, 13), (0, a), (0, b), (2, 0)]) (st' := [(0, a)]) (by decide +kernel) rfl ?_
      refine zwif_eq (q := 20) (nx := 15) (by decide +kernel) (fun c4 => ?_) (fun c4 => ?_)
      · refine zwW_p [(0, 0, 0), (24, 25, 0)] (q := 25) (ls' := [(2, 13), (0, a), (0, b), (2, 0)]) (st' := [(0, 0)]) (by decide +kernel) rfl ?_
        refine zwW_ret (nx := 26) (a := 0) (b := 0) (by decide +kernel) rfl (Or.inl rfl) ?_
        exact ⟨C, X.le (by decide) (by decide), by omega⟩
      · refine zwW_p [(1, 1, 0), (0, 2, 0)] (q := 17) (ls' := [(2, 13), (0, a), (0, b), (2, 0)]) (st' := [(0, 2), (0, a)]) (by decide +kernel) rfl ?_
        refine zwic_ne (q := 24) (nx := 20) (by decide +kernel) (fun c5 => ?_) (fun c5 => ?_)
        · refine zwW_p [(0, 1, 0)] (q := 25) (ls' := [(2, 13), (0, a), (0, b), (2, 0)]) (st' := [(0, 1)]) (by decide +kernel) rfl ?_
          refine zwW_ret (nx := 26) (a := 0) (b := 0) (by decide +kernel) rfl (Or.inl rfl) ?_
          exact ⟨C, X.le (by decide) (by decide), by omega⟩
        · refine zwW_p [(0, 0, 0), (24, 25, 0)] (q := 25) (ls' := [(2, 13), (0, a), (0, b), (2, 0)]) (st' := [(0, 0)]) (by decide +kernel) rfl ?_
          refine zwW_ret (nx := 26) (a := 0) (b := 0) (by decide +kernel) rfl (Or.inl rfl) ?_
          exact ⟨C, X.le (by decide) (by decide), by omega⟩
  · have lv2 := Gv2.1
    refine zwW_p [(2, 3, 2), (1, 3, 2)] (q := 8) (ls' := [(2, 13), (0, a), (0, b), (2, v2)]) (st' := [(2, v2)]) (by decide +kernel) rfl ?_
    refine zwnu_ne (q := 26) (nx := 11) (by decide +kernel) (by omega) (fun c6 => ?_) (fun c6 => ?_)
    · refine zwW_p [(1, 0, 2), (1, 3, 2), (1, 1, 0)] (q := 29) (ls' := [(2, 13), (0, a), (0, b), (2, v2)]) (st' := [(0, a), (2, v2), (2, 13)]) (by decide +kernel) rfl ?_
      refine zwW_cm C.1 (op := 60) (k' := 224) (n := 2) (kd := 9) (m := 6) (nx := 32) (r := 13) (tl := [(2, v2), (0, a)]) (st' := []) (by decide +kernel) rfl (by decide +kernel) rfl (x224 h C v2 a Gv2 (by omega)) ?_
      rintro v8 h9 ⟨Ch9, Qh9, f7⟩
      have Xh9 : zXR msx172 (0) (0) h h9 := X.tr (c2 := 0) (s2 := 0) Qh9 (by decide +kernel) (by decide) (by decide)
      have Gh9_0 : gS h9 v2 := Gv2.x Qh9
      refine zwW_ret (nx := 33) (a := 0) (b := 0) (by decide +kernel) rfl (Or.inl rfl) ?_
      exact ⟨Ch9, Xh9.le (by decide) (by decide), by omega⟩
    · exfalso; omega
theorem x102 {sc : List Int} (h : Hp) (C : CI h) (a : Int) (q_a : -2147483648 ≤ a ∧ a ≤ 2147483647) : zwC sc 5 102 [(2, 1), (0, a)] h (zwRt 2 (fun x g => h = g ∧ ((x = 0 ∧ (a < 0 ∨ fld h 2 2 ≤ a)) ∨ (gV h x ∧ 0 ≤ a ∧ a < fld h 2 2 ∧ x = fld h (fld h 2 1) a.toNat)))) := by
  refine zwC_of (D := 4) 2 (by decide +kernel) rfl (ls := [(2, 1), (0, a)]) rfl ?_
  refine zwW_p [(1, 1, 0)] (q := 1) (ls' := [(2, 1), (0, a)]) (st' := [(0, a)]) (by decide +kernel) rfl ?_
  refine zwif_lt (q := 29) (nx := 4) (by decide +kernel) (fun c1 => ?_) (fun c1 => ?_)
  · refine zwW_p [(0, 0, 2)] (q := 30) (ls' := [(2, 1), (0, a)]) (st' := [(2, 0)]) (by decide +kernel) rfl ?_
    refine zwW_ret (nx := 31) (a := 0) (b := 2) (by decide +kernel) rfl (Or.inl rfl) ?_
    exact ⟨rfl, Or.inl ⟨rfl, by omega⟩⟩
  · refine zwW_p [(1, 1, 0), (1, 0, 2)] (q := 6) (ls' := [(2, 1), (0, a)]) (st' := [(2, 1), (0, a)]) (by decide +kernel) rfl ?_
    refine zwW_gc C.1 (kd := 12) (bn := 2) (n := 13) (c := 2) (nx := 9) (by decide +kernel) ?_
    refine zwW_cm C.1 (op := 60) (k' := 96) (n := 0) (kd := 0) (m := 3) (nx := 12) (r := 2) (tl := []) (st' := [(0, a)]) (by decide +kernel) rfl (by decide +kernel) rfl (x96_2 C) ?_
    rintro v2 _ ⟨rfl, ev2⟩
    have bv2 := zLb_2 C
    refine zwic_ge (q := 29) (nx := 15) (by decide +kernel) (fun c3 => ?_) (fun c3 => ?_)
    · refine zwW_p [(0, 0, 2)] (q := 30) (ls' := [(2, 1), (0, a)]) (st' := [(2, 0)]) (by decide +kernel) rfl ?_
      refine zwW_ret (nx := 31) (a := 0) (b := 2) (by decide +kernel) rfl (Or.inl rfl) ?_
      exact ⟨rfl, Or.inl ⟨rfl, by omega⟩⟩
    · refine zwW_p [(1, 0, 2)] (q := 16) (ls' := [(2, 1), (0, a)]) (st' := [(2, 1)]) (by decide +kernel) rfl ?_
      refine zwW_gc C.1 (kd := 12) (bn := 2) (n := 13) (c := 2) (nx := 19) (by decide +kernel) ?_
      refine zwW_p [(1, 1, 0)] (q := 20) (ls' := [(2, 1), (0, a)]) (st' := [(0, a), (2, 2)]) (by decide +kernel) rfl ?_
      refine zwW_cm C.1 (op := 60) (k' := 123) (n := 1) (kd := 0) (m := 3) (nx := 23) (r := 2) (tl := [(0, a)]) (st' := []) (by decide +kernel) rfl (by decide +kernel) rfl (x123_2 C (i := a) (by first | omega | exact ⟨by omega, by omega⟩)) ?_
      rintro v4 _ ⟨rfl, Gv4, ev4⟩
      have lv4 := Gv4.1
      refine zwW_cast (a := 11) (kd := 11) (n := 17) (nx := 26) (by decide +kernel) rfl (Or.inr Gv4.2.1) ?_
      refine zwW_p [(24, 30, 0)] (q := 30) (ls' := [(2, 1), (0, a)]) (st' := [(2, v4)]) (by decide +kernel) rfl ?_
      refine zwW_ret (nx := 31) (a := 0) (b := 2) (by decide +kernel) rfl (Or.inl rfl) ?_
      exact ⟨rfl, Or.inr ⟨Gv4, by omega, by omega, by assumption⟩⟩
-- WheelLand.houseAt(I)LWheelLand$House;
theorem x109 {sc : List Int} (h : Hp) (C : CI h) (a : Int) (q_a : -2147483648 ≤ a ∧ a ≤ 2147483647) : zwC sc 5 109 [(2, 1), (0, a)] h (zwRt 2 (fun x g => h = g ∧ ((x = 0 ∧ (a < 0 ∨ fld h 3 2 ≤ a)) ∨ (gH h x ∧ 0 ≤ a ∧ a < fld h 3 2 ∧ x = fld h (fld h 3 1) a.toNat)))) := by
  refine zwC_of (D := 4) 2 (by decide +kernel) rfl (ls := [(2, 1), (0, a)]) rfl ?_
  refine zwW_p [(1, 1, 0)] (q := 1) (ls' := [(2, 1), (0, a)]) (st' := [(0, a)]) (by decide +kernel) rfl ?_
  refine zwif_lt (q := 29) (nx := 4) (by decide +kernel) (fun c1 => ?_) (fun c1 => ?_)
  · refine zwW_p [(0, 0, 2)] (q := 30) (ls' := [(2, 1), (0, a)]) (st' := [(2, 0)]) (by decide +kernel) rfl ?_
    refine zwW_ret (nx := 31) (a := 0) (b := 2) (by decide +kernel) rfl (Or.inl rfl) ?_
    exact ⟨rfl, Or.inl ⟨rfl, by omega⟩⟩
  · refine zwW_p [(1, 1, 0), (1, 0, 2)] (q := 6) (ls' := [(2, 1), (0, a)]) (st' := [(2, 1), (0, a)]) (by decide +kernel) rfl ?_
    refine zwW_gc C.1 (kd := 12) (bn := 3) (n := 13) (c := 3) (nx := 9) (by decide +kernel) ?_
    refine zwW_cm C.1 (op := 60) (k' := 96) (n := 0) (kd := 0) (m := 3) (nx := 12) (r := 3) (tl := []) (st' := [(0, a)]) (by decide +kernel) rfl (by decide +kernel) rfl (x96_3 C) ?_
    rintro v2 _ ⟨rfl, ev2⟩
    have bv2 := zLb_3 C
    refine zwic_ge (q := 29) (nx := 15) (by decide +kernel) (fun c3 => ?_) (fun c3 => ?_)
    · refine zwW_p [(0, 0, 2)] (q := 30) (ls' := [(2, 1), (0, a)]) (st' := [(2, 0)]) (by decide +kernel) rfl ?_
      refine zwW_ret (nx := 31) (a := 0) (b := 2) (by decide +kernel) rfl (Or.inl rfl) ?_
      exact ⟨rfl, Or.inl ⟨rfl, by omega⟩⟩
    · refine zwW_p [(1, 0, 2)] (q := 16) (ls' := [(2, 1), (0, a)]) (st' := [(2, 1)]) (by decide +kernel) rfl ?_
      refine zwW_gc C.1 (kd := 12) (bn := 3) (n := 13) (c := 3) (nx := 19) (by decide +kernel) ?_
      refine zwW_p [(1, 1, 0)] (q := 20) (ls' := [(2, 1), (0, a)]) (st' := [(0, a), (2, 3)]) (by decide +kernel) rfl ?_
      refine zwW_cm C.1 (op := 60) (k' := 123) (n := 1) (kd := 0) (m := 3) (nx := 23) (r := 3) (tl := [(0, a)]) (st' := []) (by decide +kernel) rfl (by decide +kernel) rfl (x123_3 C (i := a) (by first | omega | exact ⟨by omega, by omega⟩)) ?_
      rintro v4 _ ⟨rfl, Gv4, ev4⟩
      have lv4 := Gv4.1
      refine zwW_cast (a := 4) (kd := 4) (n := 19) (nx := 26) (by decide +kernel) rfl (Or.inr Gv4.2.1) ?_
      refine zwW_p [(24, 30, 0)] (q := 30) (ls' := [(2, 1), (0, a)]) (st' := [(2, v4)]) (by decide +kernel) rfl ?_
      refine zwW_ret (nx := 31) (a := 0) (b := 2) (by decide +kernel) rfl (Or.inl rfl) ?_
      exact ⟨rfl, Or.inr ⟨Gv4, by omega, by omega, by assumption⟩⟩
-- WheelLand.lotAt(I)LWheelLand$Lot;
theorem x115 {sc : List Int} (h : Hp) (C : CI h) (a : Int) (q_a : -2147483648 ≤ a ∧ a ≤ 2147483647) : zwC sc 5 115 [(2, 1), (0, a)] h (zwRt 2 (fun x g => h = g ∧ ((x = 0 ∧ (a < 0 ∨ fld h 4 2 ≤ a)) ∨ (gL h x ∧ 0 ≤ a ∧ a < fld h 4 2 ∧ x = fld h (fld h 4 1) a.toNat)))) := by
  refine zwC_of (D := 4) 2 (by decide +kernel) rfl (ls := [(2, 1), (0, a)]) rfl ?_
  refine zwW_p [(1, 1, 0)] (q := 1) (ls' := [(2, 1), (0, a)]) (st' := [(0, a)]) (by decide +kernel) rfl ?_
  refine zwif_lt (q := 29) (nx := 4) (by decide +kernel) (fun c1 => ?_) (fun c1 => ?_)
  · refine zwW_p [(0, 0, 2)] (q := 30) (ls' := [(2, 1), (0, a)]) (st' := [(2, 0)]) (by decide +kernel) rfl ?_
    refine zwW_ret (nx := 31) (a := 0) (b := 2) (by decide +kernel) rfl (Or.inl rfl) ?_
    exact ⟨rfl, Or.inl ⟨rfl, by omega⟩⟩
  · refine zwW_p [(1, 1, 0), (1, 0, 2)] (q := 6) (ls' := [(2, 1), (0, a)]) (st' := [(2, 1), (0, a)]) (by decide +kernel) rfl ?_
    refine zwW_gc C.1 (kd := 12) (bn := 4) (n := 13) (c := 4) (nx := 9) (by decide +kernel) ?_
    refine zwW_cm C.1 (op := 60) (k' := 96) (n := 0) (kd := 0) (m := 3) (nx := 12) (r := 4) (tl := []) (st' := [(0, a)]) (by decide +kernel) rfl (by decide +kernel) rfl (x96_4 C) ?_
    rintro v2 _ ⟨rfl, ev2⟩
    have bv2 := zLb_4 C
    refine zwic_ge (q := 29) (nx := 15) (by decide +kernel) (fun c3 => ?_) (fun c3 => ?_)
    · refine zwW_p [(0, 0, 2)] (q := 30) (ls' := [(2, 1), (0, a)]) (st' := [(2, 0)]) (by decide +kernel) rfl ?_
      refine zwW_ret (nx := 31) (a := 0) (b := 2) (by decide +kernel) rfl (Or.inl rfl) ?_
      exact ⟨rfl, Or.inl ⟨rfl, by omega⟩⟩
    · refine zwW_p [(1, 0, 2)] (q := 16) (ls' := [(2, 1), (0, a)]) (st' := [(2, 1)]) (by decide +kernel) rfl ?_
      refine zwW_gc C.1 (kd := 12) (bn := 4) (n := 13) (c := 4) (nx := 19) (by decide +kernel) ?_
      refine zwW_p [(1, 1, 0)] (q := 20) (ls' := [(2, 1), (0, a)]) (st' := [(0, a), (2, 4)]) (by decide +kernel) rfl ?_
      refine zwW_cm C.1 (op := 60) (k' := 123) (n := 1) (kd := 0) (m := 3) (nx := 23) (r := 4) (tl := [(0, a)]) (st' := []) (by decide +kernel) rfl (by decide +kernel) rfl (x123_4 C (i := a) (by first | omega | exact ⟨by omega, by omega⟩)) ?_
      rintro v4 _ ⟨rfl, Gv4, ev4⟩
      have lv4 := Gv4.1
      refine zwW_cast (a := 6) (kd := 6) (n := 7) (nx := 26) (by decide +kernel) rfl (Or.inr Gv4.2.1) ?_
      refine zwW_p [(24, 30, 0)] (q := 30) (ls' := [(2, 1), (0, a)]) (st' := [(2, v4)]) (by decide +kernel) rfl ?_
      refine zwW_ret (nx := 31) (a := 0) (b := 2) (by decide +kernel) rfl (Or.inl rfl) ?_
      exact ⟨rfl, Or.inr ⟨Gv4, by omega, by omega, by assumption⟩⟩
-- WheelLand.clothAt(I)LWheelLand$Cloth;
theorem x138 {sc : List Int} (h : Hp) (C : CI h) (a : Int) (q_a : -2147483648 ≤ a ∧ a ≤ 2147483647) : zwC sc 5 138 [(2, 1), (0, a)] h (zwRt 2 (fun x g => h = g ∧ ((x = 0 ∧ (a < 0 ∨ fld h 5 2 ≤ a)) ∨ (gC h x ∧ 0 ≤ a ∧ a < fld h 5 2 ∧ x = fld h (fld h 5 1) a.toNat)))) := by
  refine zwC_of (D := 4) 2 (by decide +kernel) rfl (ls := [(2, 1), (0, a)]) rfl ?_
  refine zwW_p [(1, 1, 0)] (q := 1) (ls' := [(2, 1), (0, a)]) (st' := [(0, a)]) (by decide +kernel) rfl ?_
  refine zwif_lt (q := 29) (nx := 4) (by decide +kernel) (fun c1 => ?_) (fun c1 => ?_)
  · refine zwW_p [(0, 0, 2)] (q := 30) (ls' := [(2, 1), (0, a)]) (st' := [(2, 0)]) (by decide +kernel) rfl ?_
    refine zwW_ret (nx := 31) (a := 0) (b := 2) (by decide +kernel) rfl (Or.inl rfl) ?_
    exact ⟨rfl, Or.inl ⟨rfl, by omega⟩⟩
  · refine zwW_p [(1, 1, 0), (1, 0, 2)] (q := 6) (ls' := [(2, 1), (0, a)]) (st' := [(2, 1), (0, a)]) (by decide +kernel) rfl ?_
    refine zwW_gc C.1 (kd := 12) (bn := 5) (n := 13) (c := 5) (nx := 9) (by decide +kernel) ?_
    refine zwW_cm C.1 (op := 60) (k' := 96) (n := 0) (kd := 0) (m := 3) (nx := 12) (r := 5) (tl := []) (st' := [(0, a)]) (by decide +kernel) rfl (by decide +kernel) rfl (x96_5 C) ?_
    rintro v2 _ ⟨rfl, ev2⟩
    have bv2 := zLb_5 C
    refine zwic_ge (q := 29) (nx := 15) (by decide +kernel) (fun c3 => ?_) (fun c3 => ?_)
    · refine zwW_p [(0, 0, 2)] (q := 30) (ls' := [(2, 1), (0, a)]) (st' := [(2, 0)]) (by decide +kernel) rfl ?_
      refine zwW_ret (nx := 31) (a := 0) (b := 2) (by decide +kernel) rfl (Or.inl rfl) ?_
      exact ⟨rfl, Or.inl ⟨rfl, by omega⟩⟩
    · refine zwW_p [(1, 0, 2)] (q := 16) (ls' := [(2, 1), (0, a)]) (st' := [(2, 1)]) (by decide +kernel) rfl ?_
      refine zwW_gc C.1 (kd := 12) (bn := 5) (n := 13) (c := 5) (nx := 19) (by decide +kernel) ?_
      refine zwW_p [(1, 1, 0)] (q := 20) (ls' := [(2, 1), (0, a)]) (st' := [(0, a), (2, 5)]) (by decide +kernel) rfl ?_
      refine zwW_cm C.1 (op := 60) (k' := 123) (n := 1) (kd := 0) (m := 3) (nx := 23) (r := 5) (tl := [(0, a)]) (st' := []) (by decide +kernel) rfl (by decide +kernel) rfl (x123_5 C (i := a) (by first | omega | exact ⟨by omega, by omega⟩)) ?_
      rintro v4 _ ⟨rfl, Gv4, ev4⟩
      have lv4 := Gv4.1
      refine zwW_cast (a := 1) (kd := 1) (n := 6) (nx := 26) (by decide +kernel) rfl (Or.inr Gv4.2.1) ?_
      refine zwW_p [(24, 30, 0)] (q := 30) (ls' := [(2, 1), (0, a)]) (st' := [(2, v4)]) (by decide +kernel) rfl ?_
      refine zwW_ret (nx := 31) (a := 0) (b := 2) (by decide +kernel) rfl (Or.inl rfl) ?_
      exact ⟨rfl, Or.inr ⟨Gv4, by omega, by omega, by assumption⟩⟩
-- WheelLand.daysBetween(LWheelLand$Village;LWheelLand$Village;)I
theorem x105 {sc : List Int} (h : Hp) (C : CI h) (r q : Int) (G_r : r = 0 ∨ gV h r) (G_q : q = 0 ∨ gV h q) : zwC sc 3 105 [(2, 1), (2, r), (2, q)] h (zwRt 0 (fun x g => h = g ∧ (-2147483648 ≤ x ∧ x ≤ 2147483647) ∧ ((r = 0 ∨ q = 0 → x = -1) ∧ (0 < r → 0 < q → 0 ≤ fld h r 0 → fld h r 0 < 8 → 0 ≤ fld h q 0 → fld h q 0 < 8 → x = zDa h (fld h r 0).toNat (fld h q 0).toNat)))) := by
  refine zwC_of (D := 2) 3 (by decide +kernel) rfl (ls := [(2, 1), (2, r), (2, q)]) rfl ?_
  have lw_r : 0 ≤ r := by
    rcases G_r with z | z
    · omega
    · have := z.1
      omega
  have lw_q : 0 ≤ q := by
    rcases G_q with z | z
    · omega
    · have := z.1
      omega
  refine zwW_p [(1, 1, 2)] (q := 1) (ls' := [(2, 1), (2, r), (2, q)]) (st' := [(2, r)]) (by decide +kernel) rfl ?_
  refine zwnu_eq (q := 8) (nx := 4) (by decide +kernel) (by omega) (fun c1 => ?_) (fun c1 => ?_)
  · refine zwW_p [(0, -1, 0), (24, 27, 0)] (q := 27) (ls' := [(2, 1), (2, r), (2, q)]) (st' := [(0, -1)]) (by decide +kernel) rfl ?_
    refine zwW_ret (nx := 28) (a := 0) (b := 0) (by decide +kernel) rfl (Or.inl rfl) ?_
    exact ⟨rfl, by omega, by first | omega | exact ⟨fun z => by omega, fun z1 z2 z3 z4 z5 z6 => by rw [← V24, ← U24]; exact {F1} ⟨by omega, by omega, by omega, by omega⟩⟩⟩
  · have G2 : gV h r := G_r.resolve_left (by omega)
    have lG2 := G2.1
    refine zwW_p [(1, 2, 2)] (q := 5) (ls' := [(2, 1), (2, r), (2, q)]) (st' := [(2, q)]) (by decide +kernel) rfl ?_
    refine zwnu_ne (q := 12) (nx := 8) (by decide +kernel) (by omega) (fun c3 => ?_) (fun c3 => ?_)
    · have G4 : gV h q := G_q.resolve_left (by omega)
      have lG4 := G4.1
      refine zwW_p [(1, 0, 2)] (q := 13) (ls' := [(2, 1), (2, r), (2, q)]) (st' := [(2, 1)]) (by decide +kernel) rfl ?_
      refine zwW_gc C.1 (kd := 12) (bn := 6) (n := 13) (c := 6) (nx := 16) (by decide +kernel) ?_
      refine zwW_p [(1, 1, 2)] (q := 17) (ls' := [(2, 1), (2, r), (2, q)]) (st' := [(2, r), (2, 6)]) (by decide +kernel) rfl ?_
      refine zwX_gi C (kd := 11) (bn := 0) (n := 17) (nx := 20) (by decide +kernel) G2.2.1 G2.1 rfl ?_
      intro v5 ev5 lv5 uv5
      refine zwW_p [(1, 2, 2)] (q := 21) (ls' := [(2, 1), (2, r), (2, q)]) (st' := [(2, q), (0, v5), (2, 6)]) (by decide +kernel) rfl ?_
      refine zwX_gi C (kd := 11) (bn := 0) (n := 17) (nx := 24) (by decide +kernel) G4.2.1 G4.1 rfl ?_
      intro v6 ev6 lv6 uv6
      have V24 := ev6
      have U24 := ev5
      refine zwW_cm C.1 (op := 60) (k' := 184) (n := 2) (kd := 8) (m := 2) (nx := 27) (r := 6) (tl := [(0, v5), (0, v6)]) (st' := []) (by decide +kernel) rfl (by decide +kernel) rfl (x184 h C v5 v6 (by omega) (by omega)) ?_
      rintro v7 _ ⟨rfl, f8, f9⟩
      refine zwW_ret (nx := 28) (a := 0) (b := 0) (by decide +kernel) rfl (Or.inl rfl) ?_
      exact ⟨rfl, by omega, by first | omega | exact ⟨fun z => by omega, fun z1 z2 z3 z4 z5 z6 => by rw [← V24, ← U24]; exact f9 ⟨by omega, by omega, by omega, by omega⟩⟩⟩
    · refine zwW_p [(0, -1, 0), (24, 27, 0)] (q := 27) (ls' := [(2, 1), (2, r), (2, q)]) (st' := [(0, -1)]) (by decide +kernel) rfl ?_
      refine zwW_ret (nx := 28) (a := 0) (b := 0) (by decide +kernel) rfl (Or.inl rfl) ?_
      exact ⟨rfl, by omega, by first | omega | exact ⟨fun z => by omega, fun z1 z2 z3 z4 z5 z6 => by rw [← V24, ← U24]; exact {F1} ⟨by omega, by omega, by omega, by omega⟩⟩⟩
def msx153 : Zms := [(17, 17, 0, 13), (18, 18, 0, 400)]
-- WheelLand.dutyIn(LWheelLand$Village;)I
theorem x153 {sc : List Int} (h : Hp) (C : CI h) (r : Int) (G_r : gV h r) : zwC sc 4 153 [(2, 1), (2, r)] h (zwRt 0 (fun x g => CI g ∧ zXR msx153 (0) (0) h g ∧ (-2147483648 ≤ x ∧ x ≤ 2147483647))) := by
  refine zwC_of (D := 3) 2 (by decide +kernel) rfl (ls := [(2, 1), (2, r)]) rfl ?_
  have lw_r := G_r.1
  have X : zXR msx153 0 0 h h := zXR.rf _ _
  refine zwW_p [(1, 0, 2)] (q := 1) (ls' := [(2, 1), (2, r)]) (st' := [(2, 1)]) (by decide +kernel) rfl ?_
  refine zwW_gc C.1 (kd := 12) (bn := 8) (n := 13) (c := 13) (nx := 4) (by decide +kernel) ?_
  refine zwW_p [(1, 0, 2)] (q := 5) (ls' := [(2, 1), (2, r)]) (st' := [(2, 1), (2, 13)]) (by decide +kernel) rfl ?_
  refine zwW_gs C.1 (kd := 12) (bn := 0) (n := 13) (t := 0) (lo := 0) (hi := 156) (nx := 8) (by decide +kernel) ?_
  intro v1 ev1 lv1 uv1
  refine zwW_cmv C.1 (op := 60) (k' := 166) (n := 1) (kd := 9) (m := 6) (nx := 11) (r := 13) (tl := [(0, v1)]) (st' := []) (by decide +kernel) rfl (by decide +kernel) rfl (x166 h C v1 (by omega) (by omega)) ?_
  rintro h2 ⟨Ch2, Qh2⟩
  have Xh2 : zXR msx153 (0) (0) h h2 := X.tr (c2 := 0) (s2 := 0) Qh2 (by decide +kernel) (by decide) (by decide)
  have Gh2_0 : gV h2 r := G_r.x Qh2
  refine zwW_p [(1, 0, 2)] (q := 12) (ls' := [(2, 1), (2, r)]) (st' := [(2, 1)]) (by decide +kernel) rfl ?_
  refine zwW_gc Ch2.1 (kd := 12) (bn := 8) (n := 13) (c := 13) (nx := 15) (by decide +kernel) ?_
  refine zwW_p [(1, 1, 2)] (q := 16) (ls' := [(2, 1), (2, r)]) (st' := [(2, r), (2, 13)]) (by decide +kernel) rfl ?_
  refine zwX_gi Ch2 (kd := 11) (bn := 9) (n := 17) (nx := 19) (by decide +kernel) Gh2_0.2.1 Gh2_0.1 rfl ?_
  intro v3 ev3 lv3 uv3
  refine zwW_cmv Ch2.1 (op := 60) (k' := 214) (n := 1) (kd := 9) (m := 6) (nx := 22) (r := 13) (tl := [(0, v3)]) (st' := []) (by decide +kernel) rfl (by decide +kernel) rfl (x214 h2 Ch2 v3 (by omega)) ?_
  rintro h4 ⟨Ch4, Qh4⟩
  have Xh4 : zXR msx153 (0) (0) h h4 := Xh2.tr (c2 := 0) (s2 := 0) Qh4 (by decide +kernel) (by decide) (by decide)
  have Gh4_0 : gV h4 r := Gh2_0.x Qh4
  refine zwW_p [(1, 0, 2)] (q := 23) (ls' := [(2, 1), (2, r)]) (st' := [(2, 1)]) (by decide +kernel) rfl ?_
  refine zwW_gc Ch4.1 (kd := 12) (bn := 8) (n := 13) (c := 13) (nx := 26) (by decide +kernel) ?_
  refine zwW_p [(0, 2, 0), (1, 0, 2)] (q := 28) (ls' := [(2, 1), (2, r)]) (st' := [(2, 1), (0, 2), (2, 13)]) (by decide +kernel) rfl ?_
  refine zwW_gs Ch4.1 (kd := 12) (bn := 0) (n := 13) (t := 0) (lo := 0) (hi := 156) (nx := 31) (by decide +kernel) ?_
  intro v5 ev5 lv5 uv5
  refine zwW_cm Ch4.1 (op := 60) (k' := 172) (n := 2) (kd := 9) (m := 6) (nx := 34) (r := 13) (tl := [(0, 2), (0, v5)]) (st' := []) (by decide +kernel) rfl (by decide +kernel) rfl (x172 h4 Ch4 2 v5 (by omega) (by omega)) ?_
  rintro v7 h8 ⟨Ch8, Qh8, f6⟩
  have Xh8 : zXR msx153 (0) (0) h h8 := Xh4.tr (c2 := 0) (s2 := 0) Qh8 (by decide +kernel) (by decide) (by decide)
  have Gh8_0 : gV h8 r := Gh4_0.x Qh8
  refine zwW_p [(0, 0, 0)] (q := 35) (ls' := [(2, 1), (2, r)]) (st' := [(0, 0), (0, v7)]) (by decide +kernel) rfl ?_
  refine zwW_max (nx := 38) (by decide +kernel) rfl ?_
  intro v9 ev9
  refine zwW_ret (nx := 39) (a := 0) (b := 0) (by decide +kernel) rfl (Or.inl rfl) ?_
  exact ⟨Ch8, Xh8.le (by decide) (by decide), by omega⟩
def msx134 : Zms := [(17, 17, 0, 13), (18, 18, 0, 400)]
-- WheelLand.askOfWeaving(ILWheelLand$House;LWheelLand$Lot;I)I
theorem x134 {sc : List Int} (h : Hp) (C : CI h) (a r q b : Int) (q_a : -2147483648 ≤ a ∧ a ≤ 2147483647) (G_r : gH h r) (G_q : gL h q) (q_b : -2147483648 ≤ b ∧ b ≤ 2147483647) : zwC sc 4 134 [(2, 1), (0, a), (2, r), (2, q), (0, b)] h (zwRt 0 (fun x g => CI g ∧ zXR msx134 (0) (0) h g ∧ (-2147483648 ≤ x ∧ x ≤ 2147483647))) := by
  refine zwC_of (D := 3) 5 (by decide +kernel) rfl (ls := [(2, 1), (0, a), (2, r), (2, q), (0, b)]) rfl ?_
  have lw_r := G_r.1
  have lw_q := G_q.1
  have X : zXR msx134 0 0 h h := zXR.rf _ _
  refine zwW_p [(1, 0, 2)] (q := 1) (ls' := [(2, 1), (0, a), (2, r), (2, q), (0, b)]) (st' := [(2, 1)]) (by decide +kernel) rfl ?_
  refine zwW_gc C.1 (kd := 12) (bn := 8) (n := 13) (c := 13) (nx := 4) (by decide +kernel) ?_
  refine zwW_p [(1, 0, 2)] (q := 5) (ls' := [(2, 1), (0, a), (2, r), (2, q), (0, b)]) (st' := [(2, 1), (2, 13)]) (by decide +kernel) rfl ?_
  refine zwW_gs C.1 (kd := 12) (bn := 0) (n := 13) (t := 0) (lo := 0) (hi := 156) (nx := 8) (by decide +kernel) ?_
  intro v1 ev1 lv1 uv1
  refine zwW_cmv C.1 (op := 60) (k' := 166) (n := 1) (kd := 9) (m := 6) (nx := 11) (r := 13) (tl := [(0, v1)]) (st' := []) (by decide +kernel) rfl (by decide +kernel) rfl (x166 h C v1 (by omega) (by omega)) ?_
  rintro h2 ⟨Ch2, Qh2⟩
  have Xh2 : zXR msx134 (0) (0) h h2 := X.tr (c2 := 0) (s2 := 0) Qh2 (by decide +kernel) (by decide) (by decide)
  have Gh2_0 : gH h2 r := G_r.x Qh2
  have Gh2_1 : gL h2 q := G_q.x Qh2
  refine zwW_p [(1, 0, 2)] (q := 12) (ls' := [(2, 1), (0, a), (2, r), (2, q), (0, b)]) (st' := [(2, 1)]) (by decide +kernel) rfl ?_
  refine zwW_gc Ch2.1 (kd := 12) (bn := 8) (n := 13) (c := 13) (nx := 15) (by decide +kernel) ?_
  refine zwW_p [(1, 3, 2)] (q := 16) (ls' := [(2, 1), (0, a), (2, r), (2, q), (0, b)]) (st' := [(2, q), (2, 13)]) (by decide +kernel) rfl ?_
  refine zwW_get (kd := 6) (bn := 1) (t := 2) (n := 7) (nx := 19) (by decide +kernel) Gh2_1.2.1 rfl ?_
  obtain ⟨v3, ev3⟩ : ∃ z, z = fld h2 q 1 := ⟨_, rfl⟩
  rw [← ev3]
  have Gv3 : gH h2 v3 := by rw [ev3]; exact Gh2_1.2.2
  have lv3 := Gv3.1
  refine zwW_p [(1, 0, 2)] (q := 20) (ls' := [(2, 1), (0, a), (2, r), (2, q), (0, b)]) (st' := [(2, 1), (2, v3), (2, 13)]) (by decide +kernel) rfl ?_
  refine zwW_gs Ch2.1 (kd := 12) (bn := 0) (n := 13) (t := 0) (lo := 0) (hi := 156) (nx := 23) (by decide +kernel) ?_
  intro v4 ev4 lv4 uv4
  refine zwW_cs (k' := 162) (n := 1) (nx := 26) (as := [(0, v4)]) (st' := [(2, v3), (2, 13)]) (by decide +kernel) rfl (x162 h2 Ch2 v4 (by omega) (by omega)) rfl ?_
  rintro v5 _ ⟨rfl, f6, f7, f8⟩
  refine zwW_cmv Ch2.1 (op := 60) (k' := 167) (n := 2) (kd := 9) (m := 6) (nx := 29) (r := 13) (tl := [(2, v3), (0, v5)]) (st' := []) (by decide +kernel) rfl (by decide +kernel) rfl (x167 h2 Ch2 v3 v5 Gv3 (by omega)) ?_
  rintro h9 ⟨Ch9, Qh9⟩
  have Xh9 : zXR msx134 (0) (0) h h9 := Xh2.tr (c2 := 0) (s2 := 0) Qh9 (by decide +kernel) (by decide) (by decide)
  have Gh9_0 : gH h9 r := Gh2_0.x Qh9
  have Gh9_1 : gL h9 q := Gh2_1.x Qh9
  refine zwW_p [(1, 0, 2)] (q := 30) (ls' := [(2, 1), (0, a), (2, r), (2, q), (0, b)]) (st' := [(2, 1)]) (by decide +kernel) rfl ?_
  refine zwW_gc Ch9.1 (kd := 12) (bn := 8) (n := 13) (c := 13) (nx := 33) (by decide +kernel) ?_
  refine zwW_p [(1, 2, 2)] (q := 34) (ls' := [(2, 1), (0, a), (2, r), (2, q), (0, b)]) (st' := [(2, r), (2, 13)]) (by decide +kernel) rfl ?_
  refine zwX_gi Ch9 (kd := 4) (bn := 4) (n := 19) (nx := 37) (by decide +kernel) Gh9_0.2.1 Gh9_0.1 rfl ?_
  intro v10 ev10 lv10 uv10
  refine zwW_p [(1, 0, 2), (1, 3, 2)] (q := 39) (ls' := [(2, 1), (0, a), (2, r), (2, q), (0, b)]) (st' := [(2, q), (2, 1), (0, v10), (2, 13)]) (by decide +kernel) rfl ?_
  refine zwW_get (kd := 6) (bn := 1) (t := 2) (n := 7) (nx := 42) (by decide +kernel) Gh9_1.2.1 rfl ?_
  obtain ⟨v11, ev11⟩ : ∃ z, z = fld h9 q 1 := ⟨_, rfl⟩
  rw [← ev11]
  have Gv11 : gH h9 v11 := by rw [ev11]; exact Gh9_1.2.2
  have lv11 := Gv11.1
  refine zwW_get (kd := 4) (bn := 1) (t := 2) (n := 19) (nx := 45) (by decide +kernel) Gv11.2.1 rfl ?_
  obtain ⟨v12, ev12⟩ : ∃ z, z = fld h9 v11 1 := ⟨_, rfl⟩
  rw [← ev12]
  have Gv12 : gV h9 v12 := by rw [ev12]; exact Gv11.2.2
  have lv12 := Gv12.1
  refine zwW_p [(1, 2, 2)] (q := 46) (ls' := [(2, 1), (0, a), (2, r), (2, q), (0, b)]) (st' := [(2, r), (2, v12), (2, 1), (0, v10), (2, 13)]) (by decide +kernel) rfl ?_
  refine zwW_get (kd := 4) (bn := 1) (t := 2) (n := 19) (nx := 49) (by decide +kernel) Gh9_0.2.1 rfl ?_
  obtain ⟨v13, ev13⟩ : ∃ z, z = fld h9 r 1 := ⟨_, rfl⟩
  rw [← ev13]
  have Gv13 : gV h9 v13 := by rw [ev13]; exact Gh9_0.2.2
  have lv13 := Gv13.1
  refine zwW_cm Ch9.1 (op := 60) (k' := 105) (n := 2) (kd := 12) (m := 13) (nx := 52) (r := 1) (tl := [(2, v12), (2, v13)]) (st' := [(0, v10), (2, 13)]) (by decide +kernel) rfl (by decide +kernel) rfl (x105 h9 Ch9 v12 v13 (Or.inr Gv12) (Or.inr Gv13)) ?_
  rintro v14 _ ⟨rfl, f15, f16⟩
  refine zwW_cmv Ch9.1 (op := 60) (k' := 168) (n := 2) (kd := 9) (m := 6) (nx := 55) (r := 13) (tl := [(0, v10), (0, v14)]) (st' := []) (by decide +kernel) rfl (by decide +kernel) rfl (x168 h9 Ch9 v10 v14 (by omega) (by omega)) ?_
  rintro h17 ⟨Ch17, Qh17⟩
  have Xh17 : zXR msx134 (0) (0) h h17 := Xh9.tr (c2 := 0) (s2 := 0) Qh17 (by decide +kernel) (by decide) (by decide)
  have Gh17_0 : gH h17 r := Gh9_0.x Qh17
  have Gh17_1 : gL h17 q := Gh9_1.x Qh17
  refine zwW_p [(1, 0, 2)] (q := 56) (ls' := [(2, 1), (0, a), (2, r), (2, q), (0, b)]) (st' := [(2, 1)]) (by decide +kernel) rfl ?_
  refine zwW_gc Ch17.1 (kd := 12) (bn := 8) (n := 13) (c := 13) (nx := 59) (by decide +kernel) ?_
  refine zwW_p [(1, 3, 2)] (q := 60) (ls' := [(2, 1), (0, a), (2, r), (2, q), (0, b)]) (st' := [(2, q), (2, 13)]) (by decide +kernel) rfl ?_
  refine zwX_gi Ch17 (kd := 6) (bn := 3) (n := 7) (nx := 63) (by decide +kernel) Gh17_1.2.1 Gh17_1.1 rfl ?_
  intro v18 ev18 lv18 uv18
  refine zwW_p [(1, 3, 2)] (q := 64) (ls' := [(2, 1), (0, a), (2, r), (2, q), (0, b)]) (st' := [(2, q), (0, v18), (2, 13)]) (by decide +kernel) rfl ?_
  refine zwX_gi Ch17 (kd := 6) (bn := 4) (n := 7) (nx := 67) (by decide +kernel) Gh17_1.2.1 Gh17_1.1 rfl ?_
  intro v19 ev19 lv19 uv19
  refine zwW_p [(1, 4, 0)] (q := 69) (ls' := [(2, 1), (0, a), (2, r), (2, q), (0, b)]) (st' := [(0, b), (0, v19), (0, v18), (2, 13)]) (by decide +kernel) rfl ?_
  refine zwW_cmv Ch17.1 (op := 60) (k' := 171) (n := 3) (kd := 9) (m := 6) (nx := 72) (r := 13) (tl := [(0, v18), (0, v19), (0, b)]) (st' := []) (by decide +kernel) rfl (by decide +kernel) rfl (x171 h17 Ch17 v18 v19 b (by omega) (by omega) (by omega)) ?_
  rintro h20 ⟨Ch20, Qh20⟩
  have Xh20 : zXR msx134 (0) (0) h h20 := Xh17.tr (c2 := 0) (s2 := 0) Qh20 (by decide +kernel) (by decide) (by decide)
  have Gh20_0 : gH h20 r := Gh17_0.x Qh20
  have Gh20_1 : gL h20 q := Gh17_1.x Qh20
  refine zwW_p [(1, 0, 2)] (q := 73) (ls' := [(2, 1), (0, a), (2, r), (2, q), (0, b)]) (st' := [(2, 1)]) (by decide +kernel) rfl ?_
  refine zwW_gc Ch20.1 (kd := 12) (bn := 8) (n := 13) (c := 13) (nx := 76) (by decide +kernel) ?_
  refine zwW_p [(1, 1, 0), (1, 0, 2)] (q := 78) (ls' := [(2, 1), (0, a), (2, r), (2, q), (0, b)]) (st' := [(2, 1), (0, a), (2, 13)]) (by decide +kernel) rfl ?_
  refine zwW_gs Ch20.1 (kd := 12) (bn := 0) (n := 13) (t := 0) (lo := 0) (hi := 156) (nx := 81) (by decide +kernel) ?_
  intro v21 ev21 lv21 uv21
  refine zwW_cm Ch20.1 (op := 60) (k' := 172) (n := 2) (kd := 9) (m := 6) (nx := 84) (r := 13) (tl := [(0, a), (0, v21)]) (st' := []) (by decide +kernel) rfl (by decide +kernel) rfl (x172 h20 Ch20 a v21 (by omega) (by omega)) ?_
  rintro v23 h24 ⟨Ch24, Qh24, f22⟩
  have Xh24 : zXR msx134 (0) (0) h h24 := Xh20.tr (c2 := 0) (s2 := 0) Qh24 (by decide +kernel) (by decide) (by decide)
  have Gh24_0 : gH h24 r := Gh20_0.x Qh24
  have Gh24_1 : gL h24 q := Gh20_1.x Qh24
  refine zwW_ret (nx := 85) (a := 0) (b := 0) (by decide +kernel) rfl (Or.inl rfl) ?_
  exact ⟨Ch24, Xh24.le (by decide) (by decide), by omega⟩
def msx207 : Zms := [(17, 17, 0, 13), (18, 18, 0, 400)]
-- WheelLand.lastingBarOf(LWheelLand$House;LWheelLand$Lot;I)I
theorem x207 {sc : List Int} (h : Hp) (C : CI h) (r q a : Int) (G_r : gH h r) (G_q : gL h q) (q_a : -2147483648 ≤ a ∧ a ≤ 2147483647) : zwC sc 5 207 [(2, 1), (2, r), (2, q), (0, a)] h (zwRt 0 (fun x g => CI g ∧ zXR msx207 (0) (0) h g ∧ (-2147483648 ≤ x ∧ x ≤ 2147483647))) := by
  refine zwC_of (D := 4) 4 (by decide +kernel) rfl (ls := [(2, 1), (2, r), (2, q), (0, a)]) rfl ?_
  have lw_r := G_r.1
  have lw_q := G_q.1
  have X : zXR msx207 0 0 h h := zXR.rf _ _
  refine zwW_p [(1, 1, 2)] (q := 1) (ls' := [(2, 1), (2, r), (2, q), (0, a)]) (st' := [(2, r)]) (by decide +kernel) rfl ?_
  refine zwW_cv (op := 60) (k' := 110) (n := 0) (kd := 4) (m := 19) (nx := 4) (r := r) (tl := []) (st' := []) (by decide +kernel) rfl (by decide +kernel) G_r.2.1 (x110 h C r G_r) rfl ?_
  rintro x _ ⟨rfl, ⟨rfl, c1⟩ | ⟨rfl, c1⟩⟩
  · refine zwif_ne (q := 9) (nx := 7) (by decide +kernel) (fun c2 => ?_) (fun c2 => ?_)
    · refine zwW_p [(1, 2, 2)] (q := 10) (ls' := [(2, 1), (2, r), (2, q), (0, a)]) (st' := [(2, q)]) (by decide +kernel) rfl ?_
      refine zwX_gi C (kd := 6) (bn := 3) (n := 7) (nx := 13) (by decide +kernel) G_q.2.1 G_q.1 rfl ?_
      intro v3 ev3 lv3 uv3
      refine zwW_p [(1, 1, 2)] (q := 14) (ls' := [(2, 1), (2, r), (2, q), (0, a)]) (st' := [(2, r), (0, v3)]) (by decide +kernel) rfl ?_
      refine zwX_gi C (kd := 4) (bn := 11) (n := 19) (nx := 17) (by decide +kernel) G_r.2.1 G_r.1 rfl ?_
      intro v4 ev4 lv4 uv4
      refine zwW_p [(1, 1, 2)] (q := 18) (ls' := [(2, 1), (2, r), (2, q), (0, a)]) (st' := [(2, r), (0, v4), (0, v3)]) (by decide +kernel) rfl ?_
      refine zwX_gi C (kd := 4) (bn := 12) (n := 19) (nx := 21) (by decide +kernel) G_r.2.1 G_r.1 rfl ?_
      intro v5 ev5 lv5 uv5
      refine zwW_cs (k' := 98) (n := 3) (nx := 24) (as := [(0, v3), (0, v4), (0, v5)]) (st' := []) (by decide +kernel) rfl (x98 h C v3 v4 v5 (by omega) (by omega) (by omega)) rfl ?_
      rintro x _ ⟨rfl, ⟨rfl, c6⟩ | ⟨rfl, c6⟩⟩
      · refine zwif_eq (q := 29) (nx := 27) (by decide +kernel) (fun c7 => ?_) (fun c7 => ?_)
        · exfalso; omega
        · refine zwW_p [(0, 2, 0)] (q := 28) (ls' := [(2, 1), (2, r), (2, q), (0, a)]) (st' := [(0, 2)]) (by decide +kernel) rfl ?_
          refine zwW_ret (nx := 29) (a := 0) (b := 0) (by decide +kernel) rfl (Or.inl rfl) ?_
          exact ⟨C, X.le (by decide) (by decide), by omega⟩
      · refine zwif_eq (q := 29) (nx := 27) (by decide +kernel) (fun c8 => ?_) (fun c8 => ?_)
        · refine zwW_p [(1, 2, 2)] (q := 30) (ls' := [(2, 1), (2, r), (2, q), (0, a)]) (st' := [(2, q)]) (by decide +kernel) rfl ?_
          refine zwX_gi C (kd := 6) (bn := 4) (n := 7) (nx := 33) (by decide +kernel) G_q.2.1 G_q.1 rfl ?_
          intro v9 ev9 lv9 uv9
          refine zwW_p [(1, 2, 2)] (q := 34) (ls' := [(2, 1), (2, r), (2, q), (0, a)]) (st' := [(2, q), (0, v9)]) (by decide +kernel) rfl ?_
          refine zwX_gi C (kd := 6) (bn := 3) (n := 7) (nx := 37) (by decide +kernel) G_q.2.1 G_q.1 rfl ?_
          intro v10 ev10 lv10 uv10
          refine zwW_p [(0, 30, 0)] (q := 39) (ls' := [(2, 1), (2, r), (2, q), (0, a)]) (st' := [(0, 30), (0, v10), (0, v9)]) (by decide +kernel) rfl ?_
          refine zwW_adw (nx := 40) (by decide +kernel) ?_
          intro v11 ev11 lv11 uv11
          have Ev11 : v11 = w32 ((fld h q 3) + 30) := by rw [ev11, ev10]
          refine zwic_ge (q := 45) (nx := 43) (by decide +kernel) (fun c12 => ?_) (fun c12 => ?_)
          · refine zwW_p [(1, 0, 2), (1, 2, 2)] (q := 47) (ls' := [(2, 1), (2, r), (2, q), (0, a)]) (st' := [(2, q), (2, 1)]) (by decide +kernel) rfl ?_
            refine zwW_get (kd := 6) (bn := 1) (t := 2) (n := 7) (nx := 50) (by decide +kernel) G_q.2.1 rfl ?_
            obtain ⟨v13, ev13⟩ : ∃ z, z = fld h q 1 := ⟨_, rfl⟩
            rw [← ev13]
            have Gv13 : gH h v13 := by rw [ev13]; exact G_q.2.2
            have lv13 := Gv13.1
            refine zwW_get (kd := 4) (bn := 1) (t := 2) (n := 19) (nx := 53) (by decide +kernel) Gv13.2.1 rfl ?_
            obtain ⟨v14, ev14⟩ : ∃ z, z = fld h v13 1 := ⟨_, rfl⟩
            rw [← ev14]
            have Gv14 : gV h v14 := by rw [ev14]; exact Gv13.2.2
            have lv14 := Gv14.1
            refine zwW_p [(1, 1, 2)] (q := 54) (ls' := [(2, 1), (2, r), (2, q), (0, a)]) (st' := [(2, r), (2, v14), (2, 1)]) (by decide +kernel) rfl ?_
            refine zwW_get (kd := 4) (bn := 1) (t := 2) (n := 19) (nx := 57) (by decide +kernel) G_r.2.1 rfl ?_
            obtain ⟨v15, ev15⟩ : ∃ z, z = fld h r 1 := ⟨_, rfl⟩
            rw [← ev15]
            have Gv15 : gV h v15 := by rw [ev15]; exact G_r.2.2
            have lv15 := Gv15.1
            refine zwW_cm C.1 (op := 60) (k' := 105) (n := 2) (kd := 12) (m := 13) (nx := 60) (r := 1) (tl := [(2, v14), (2, v15)]) (st' := []) (by decide +kernel) rfl (by decide +kernel) rfl (x105 h C v14 v15 (Or.inr Gv14) (Or.inr Gv15)) ?_
            rintro v16 _ ⟨rfl, f17, f18⟩
            refine zwW_p [(0, -1, 0)] (q := 61) (ls' := [(2, 1), (2, r), (2, q), (0, a)]) (st' := [(0, -1), (0, v16)]) (by decide +kernel) rfl ?_
            refine zwic_ne (q := 66) (nx := 64) (by decide +kernel) (fun c19 => ?_) (fun c19 => ?_)
            · refine zwW_p [(1, 0, 2), (0, 3, 0), (1, 1, 2), (1, 2, 2), (1, 3, 0)] (q := 71) (ls' := [(2, 1), (2, r), (2, q), (0, a)]) (st' := [(0, a), (2, q), (2, r), (0, 3), (2, 1)]) (by decide +kernel) rfl ?_
              refine zwW_cm C.1 (op := 60) (k' := 134) (n := 4) (kd := 12) (m := 13) (nx := 74) (r := 1) (tl := [(0, 3), (2, r), (2, q), (0, a)]) (st' := []) (by decide +kernel) rfl (by decide +kernel) rfl (x134 h C 3 r q a (by omega) G_r G_q (by omega)) ?_
              rintro v21 h22 ⟨Ch22, Qh22, f20⟩
              have Xh22 : zXR msx207 (0) (0) h h22 := X.tr (c2 := 0) (s2 := 0) Qh22 (by decide +kernel) (by decide) (by decide)
              have Gh22_0 : gH h22 r := G_r.x Qh22
              have Gh22_1 : gL h22 q := G_q.x Qh22
              refine zwif_ne (q := 81) (nx := 77) (by decide +kernel) (fun c23 => ?_) (fun c23 => ?_)
              · refine zwW_p [(0, 0, 0)] (q := 82) (ls' := [(2, 1), (2, r), (2, q), (0, a)]) (st' := [(0, 0)]) (by decide +kernel) rfl ?_
                refine zwW_ret (nx := 83) (a := 0) (b := 0) (by decide +kernel) rfl (Or.inl rfl) ?_
                exact ⟨Ch22, Xh22.le (by decide) (by decide), by omega⟩
              · refine zwW_p [(0, 5, 0), (24, 82, 0)] (q := 82) (ls' := [(2, 1), (2, r), (2, q), (0, a)]) (st' := [(0, 5)]) (by decide +kernel) rfl ?_
                refine zwW_ret (nx := 83) (a := 0) (b := 0) (by decide +kernel) rfl (Or.inl rfl) ?_
                exact ⟨Ch22, Xh22.le (by decide) (by decide), by omega⟩
            · refine zwW_p [(0, 4, 0)] (q := 65) (ls' := [(2, 1), (2, r), (2, q), (0, a)]) (st' := [(0, 4)]) (by decide +kernel) rfl ?_
              refine zwW_ret (nx := 66) (a := 0) (b := 0) (by decide +kernel) rfl (Or.inl rfl) ?_
              exact ⟨C, X.le (by decide) (by decide), by omega⟩
          · refine zwW_p [(0, 3, 0)] (q := 44) (ls' := [(2, 1), (2, r), (2, q), (0, a)]) (st' := [(0, 3)]) (by decide +kernel) rfl ?_
            refine zwW_ret (nx := 45) (a := 0) (b := 0) (by decide +kernel) rfl (Or.inl rfl) ?_
            exact ⟨C, X.le (by decide) (by decide), by omega⟩
        · exfalso; omega
    · exfalso; omega
  · refine zwif_ne (q := 9) (nx := 7) (by decide +kernel) (fun c24 => ?_) (fun c24 => ?_)
    · exfalso; omega
    · refine zwW_p [(0, 1, 0)] (q := 8) (ls' := [(2, 1), (2, r), (2, q), (0, a)]) (st' := [(0, 1)]) (by decide +kernel) rfl ?_
      refine zwW_ret (nx := 9) (a := 0) (b := 0) (by decide +kernel) rfl (Or.inl rfl) ?_
      exact ⟨C, X.le (by decide) (by decide), by omega⟩
def msx131 : Zms := [(17, 17, 0, 13), (18, 18, 0, 400)]
-- WheelLand.barOf(LWheelLand$House;LWheelLand$Lot;I)I
theorem x131 {sc : List Int} (h : Hp) (C : CI h) (r q a : Int) (G_r : gH h r) (G_q : gL h q) (q_a : -2147483648 ≤ a ∧ a ≤ 2147483647) : zwC sc 6 131 [(2, 1), (2, r), (2, q), (0, a)] h (zwRt 0 (fun x g => CI g ∧ zXR msx131 (0) (0) h g ∧ (-2147483648 ≤ x ∧ x ≤ 2147483647))) := by
  refine zwC_of (D := 5) 5 (by decide +kernel) rfl (ls := [(2, 1), (2, r), (2, q), (0, a), (9, 0)]) rfl ?_
  have lw_r := G_r.1
  have lw_q := G_q.1
  have X : zXR msx131 0 0 h h := zXR.rf _ _
  refine zwW_p [(1, 0, 2), (1, 1, 2), (1, 2, 2), (1, 3, 0)] (q := 4) (ls' := [(2, 1), (2, r), (2, q), (0, a), (9, 0)]) (st' := [(0, a), (2, q), (2, r), (2, 1)]) (by decide +kernel) rfl ?_
  refine zwW_cm C.1 (op := 60) (k' := 207) (n := 3) (kd := 12) (m := 13) (nx := 7) (r := 1) (tl := [(2, r), (2, q), (0, a)]) (st' := []) (by decide +kernel) rfl (by decide +kernel) rfl (x207 h C r q a G_r G_q (by omega)) ?_
  rintro v2 h3 ⟨Ch3, Qh3, f1⟩
  have Xh3 : zXR msx131 (0) (0) h h3 := X.tr (c2 := 0) (s2 := 0) Qh3 (by decide +kernel) (by decide) (by decide)
  have Gh3_0 : gH h3 r := G_r.x Qh3
  have Gh3_1 : gL h3 q := G_q.x Qh3
  refine zwW_p [(2, 4, 0), (1, 4, 0)] (q := 11) (ls' := [(2, 1), (2, r), (2, q), (0, a), (0, v2)]) (st' := [(0, v2)]) (by decide +kernel) rfl ?_
  refine zwif_eq (q := 17) (nx := 14) (by decide +kernel) (fun c4 => ?_) (fun c4 => ?_)
  · refine zwW_p [(1, 2, 2)] (q := 18) (ls' := [(2, 1), (2, r), (2, q), (0, a), (0, v2)]) (st' := [(2, q)]) (by decide +kernel) rfl ?_
    refine zwX_gi Ch3 (kd := 6) (bn := 6) (n := 7) (nx := 21) (by decide +kernel) Gh3_1.2.1 Gh3_1.1 rfl ?_
    intro v5 ev5 lv5 uv5
    refine zwW_p [(1, 3, 0)] (q := 22) (ls' := [(2, 1), (2, r), (2, q), (0, a), (0, v2)]) (st' := [(0, a), (0, v5)]) (by decide +kernel) rfl ?_
    refine zwic_ge (q := 28) (nx := 25) (by decide +kernel) (fun c6 => ?_) (fun c6 => ?_)
    · refine zwW_p [(1, 1, 2)] (q := 29) (ls' := [(2, 1), (2, r), (2, q), (0, a), (0, v2)]) (st' := [(2, r)]) (by decide +kernel) rfl ?_
      refine zwX_gi Ch3 (kd := 4) (bn := 13) (n := 19) (nx := 32) (by decide +kernel) Gh3_0.2.1 Gh3_0.1 rfl ?_
      intro v7 ev7 lv7 uv7
      refine zwW_p [(1, 1, 2)] (q := 33) (ls' := [(2, 1), (2, r), (2, q), (0, a), (0, v2)]) (st' := [(2, r), (0, v7)]) (by decide +kernel) rfl ?_
      refine zwX_gi Ch3 (kd := 4) (bn := 14) (n := 19) (nx := 36) (by decide +kernel) Gh3_0.2.1 Gh3_0.1 rfl ?_
      intro v8 ev8 lv8 uv8
      refine zwW_sbw (nx := 37) (by decide +kernel) ?_
      intro v9 ev9 lv9 uv9
      have Ev9 : v9 = w32 ((fld h3 r 13) - (fld h3 r 14)) := by rw [ev9, ev7, ev8]
      refine zwW_p [(1, 3, 0)] (q := 38) (ls' := [(2, 1), (2, r), (2, q), (0, a), (0, v2)]) (st' := [(0, a), (0, v9)]) (by decide +kernel) rfl ?_
      refine zwic_ge (q := 46) (nx := 41) (by decide +kernel) (fun c10 => ?_) (fun c10 => ?_)
      · refine zwW_p [(0, 0, 0)] (q := 47) (ls' := [(2, 1), (2, r), (2, q), (0, a), (0, v2)]) (st' := [(0, 0)]) (by decide +kernel) rfl ?_
        refine zwW_ret (nx := 48) (a := 0) (b := 0) (by decide +kernel) rfl (Or.inl rfl) ?_
        exact ⟨Ch3, Xh3.le (by decide) (by decide), by omega⟩
      · refine zwW_p [(0, 7, 0), (24, 47, 0)] (q := 47) (ls' := [(2, 1), (2, r), (2, q), (0, a), (0, v2)]) (st' := [(0, 7)]) (by decide +kernel) rfl ?_
        refine zwW_ret (nx := 48) (a := 0) (b := 0) (by decide +kernel) rfl (Or.inl rfl) ?_
        exact ⟨Ch3, Xh3.le (by decide) (by decide), by omega⟩
    · refine zwW_p [(0, 6, 0)] (q := 27) (ls' := [(2, 1), (2, r), (2, q), (0, a), (0, v2)]) (st' := [(0, 6)]) (by decide +kernel) rfl ?_
      refine zwW_ret (nx := 28) (a := 0) (b := 0) (by decide +kernel) rfl (Or.inl rfl) ?_
      exact ⟨Ch3, Xh3.le (by decide) (by decide), by omega⟩
  · refine zwW_p [(1, 4, 0)] (q := 16) (ls' := [(2, 1), (2, r), (2, q), (0, a), (0, v2)]) (st' := [(0, v2)]) (by decide +kernel) rfl ?_
    refine zwW_ret (nx := 17) (a := 0) (b := 0) (by decide +kernel) rfl (Or.inl rfl) ?_
    exact ⟨Ch3, Xh3.le (by decide) (by decide), by omega⟩
end
section
/-! the class's grammar, search -/
section ZK
def msxK : Zms := [(9, 9, 2, 7), (11, 11, 0, 400)]
def zKX (sc : List Int) (D y : Nat) (a : Int) : Prop := ∀ h : Hp, CI h → zwC sc D y [(2, 9), (0, a)] h (zwRt 0 (fun x g => CI g ∧ zXR msxK (0) (0) h g ∧ (0 ≤ x ∧ x ≤ 1)))
theorem zKX.up {sc : List Int} {D D' y : Nat} {a : Int} (hD : D ≤ D') (H : zKX sc D y a) : zKX sc D' y a := fun h C => zwC_up hD (H h C)
def msxT : Zms := [(19, 19, 4, 5), (24, 24, 0, 6), (25, 25, 0, 6), (26, 26, 0, 6)]
def zKS (sc : List Int) (D : Nat) (a : Int) : Prop := ∀ h : Hp, CI h → ∀ b : Int, -2147483648 ≤ b ∧ b ≤ 2147483647 → zwC sc D 212 [(2, 19), (0, a), (0, b)] h (zwRv (fun g => CI g ∧ zXR msxT (0) (0) h g))
end ZK
end
section
/-! contracts of the class -/
theorem x212 {sc : List Int} (a : Int) (D0 : Nat) (pa : 0 ≤ a ∧ a ≤ 6) (HS : a < 6 → zKS sc D0 (a + 1)) : zKS sc (D0 + 9) a := by
  intro h C b q_b
  refine zwC_of (D := D0 + 8) 4 (by decide +kernel) rfl (ls := [(2, 19), (0, a), (0, b), (9, 0)]) rfl ?_
  have X : zXR msxT 0 0 h h := zXR.rf _ _
  refine zwW_p [(1, 2, 0), (1, 0, 2)] (q := 2) (ls' := [(2, 19), (0, a), (0, b), (9, 0)]) (st' := [(2, 19), (0, b)]) (by decide +kernel) rfl ?_
  refine zwW_gs C.1 (kd := 3) (bn := 4) (n := 10) (t := 0) (lo := -2147483648) (hi := 2147483647) (nx := 5) (by decide +kernel) ?_
  intro v1 ev1 lv1 uv1
  refine zwic_lt (q := 9) (nx := 8) (by decide +kernel) (fun c2 => ?_) (fun c2 => ?_)
  · refine zwW_p [(1, 1, 0), (1, 0, 2)] (q := 11) (ls' := [(2, 19), (0, a), (0, b), (9, 0)]) (st' := [(2, 19), (0, a)]) (by decide +kernel) rfl ?_
    refine zwW_gc C.1 (kd := 3) (bn := 0) (n := 10) (c := 20) (nx := 14) (by decide +kernel) ?_
    refine zwW_cm C.1 (op := 60) (k' := 96) (n := 0) (kd := 0) (m := 3) (nx := 17) (r := 20) (tl := []) (st' := [(0, a)]) (by decide +kernel) rfl (by decide +kernel) rfl (x96_20 C) ?_
    rintro v3 _ ⟨rfl, ev3⟩
    have bv3 := zLb_20 C
    refine zwic_ge (q := 26) (nx := 20) (by decide +kernel) (fun c4 => ?_) (fun c4 => ?_)
    · refine zwW_p [(1, 0, 2), (1, 2, 0)] (q := 28) (ls' := [(2, 19), (0, a), (0, b), (9, 0)]) (st' := [(0, b), (2, 19)]) (by decide +kernel) rfl ?_
      refine zwW_ps C.1 (kd := 3) (bn := 4) (n := 10) (lo := -2147483648) (hi := 2147483647) (nx := 31) (by decide +kernel) (by first | omega | exact ⟨by omega, by omega⟩) ?_
      intro h5 eh5 Ih5
      have Ch5 : CI h5 := C.wc eh5 Ih5 (by decide) (by decide)
      have Qh5 : zXR [(19, 19, 4, 5)] 0 0 h h5 := zXR.wc eh5 rfl ⟨by decide, by decide, Or.inl (by decide)⟩ (by first | decide | exact ⟨by decide, by decide⟩)
      have Xh5 : zXR msxT (0) (0) h h5 := X.tr (c2 := 0) (s2 := 0) Qh5 (by decide +kernel) (by decide) (by decide)
      have th5_21_2 : fld h5 21 2 = fld h 21 2 := Qh5.f (a1 := 21) (a2 := 21) (j1 := 2) (j2 := 3) (by decide +kernel) (by first | decide | exact ⟨by decide, by decide⟩) (by first | decide | exact ⟨by decide, by decide⟩) (by first | decide | exact ⟨by decide, by decide⟩)
      refine zwW_p [(1, 0, 2)] (q := 32) (ls' := [(2, 19), (0, a), (0, b), (9, 0)]) (st' := [(2, 19)]) (by decide +kernel) rfl ?_
      refine zwW_gc Ch5.1 (kd := 3) (bn := 8) (n := 10) (c := 25) (nx := 35) (by decide +kernel) ?_
      refine zwW_p [(0, 0, 0), (1, 0, 2)] (q := 37) (ls' := [(2, 19), (0, a), (0, b), (9, 0)]) (st' := [(2, 19), (0, 0), (2, 25)]) (by decide +kernel) rfl ?_
      refine zwW_gc Ch5.1 (kd := 3) (bn := 9) (n := 10) (c := 26) (nx := 40) (by decide +kernel) ?_
      refine zwW_p [(0, 0, 0), (0, 6, 0)] (q := 43) (ls' := [(2, 19), (0, a), (0, b), (9, 0)]) (st' := [(0, 6), (0, 0), (2, 26), (0, 0), (2, 25)]) (by decide +kernel) rfl ?_
      refine zwX_copy Ch5 (A := 25) (B := 26) (n := 6) (nx := 46) (by decide +kernel) (by decide +kernel) (by decide +kernel) (Ch5.1.s (a1 := 25) (a2 := 25) (by decide +kernel) (by decide) (by decide)) (Ch5.1.s (a1 := 26) (a2 := 26) (by decide +kernel) (by decide) (by decide)) (by decide) rfl ?_
      rintro h6 Ch6 Qh6 fh6 oh6
      have Xh6 : zXR msxT (0) (0) h h6 := Xh5.tr (c2 := 0) (s2 := 0) Qh6 (by decide +kernel) (by decide) (by decide)
      have th6_21_2 : fld h6 21 2 = fld h5 21 2 := Qh6.f (a1 := 21) (a2 := 21) (j1 := 2) (j2 := 3) (by decide +kernel) (by first | decide | exact ⟨by decide, by decide⟩) (by first | decide | exact ⟨by decide, by decide⟩) (by first | decide | exact ⟨by decide, by decide⟩)
      refine zwW_retv (nx := 47) (a := 0) (b := 0) (by decide +kernel) ?_
      exact ⟨Ch6, Xh6.le (by decide) (by decide)⟩
    · refine zwW_p [(1, 1, 0), (0, 6, 0)] (q := 23) (ls' := [(2, 19), (0, a), (0, b), (9, 0)]) (st' := [(0, 6), (0, a)]) (by decide +kernel) rfl ?_
      refine zwic_lt (q := 47) (nx := 26) (by decide +kernel) (fun c7 => ?_) (fun c7 => ?_)
      · refine zwW_p [(1, 0, 2)] (q := 48) (ls' := [(2, 19), (0, a), (0, b), (9, 0)]) (st' := [(2, 19)]) (by decide +kernel) rfl ?_
        refine zwW_gc C.1 (kd := 3) (bn := 8) (n := 10) (c := 25) (nx := 51) (by decide +kernel) ?_
        refine zwW_p [(1, 1, 0), (0, -1, 0)] (q := 53) (ls' := [(2, 19), (0, a), (0, b), (9, 0)]) (st' := [(0, -1), (0, a), (2, 25)]) (by decide +kernel) rfl ?_
        refine zwW_as C.1 (a1 := 25) (a2 := 25) (n := 6) (lo := -2147483648) (hi := 2147483647) (nx := 54) (by decide +kernel) (by first | decide | exact ⟨by decide, by decide⟩) (by first | omega | exact ⟨by omega, by omega⟩) (by first | decide | exact ⟨by decide, by decide⟩) ?_
        intro h8 eh8 Ih8
        have Ch8 : CI h8 := C.wc eh8 Ih8 (by decide) (by decide)
        have Qh8 : zXR [(25, 25, 0, 6)] 0 0 h h8 := zXR.wc eh8 rfl ⟨by decide, by decide, Or.inl (by decide)⟩ (by first | omega | exact ⟨by omega, by omega⟩)
        have Xh8 : zXR msxT (0) (0) h h8 := X.tr (c2 := 0) (s2 := 0) Qh8 (by decide +kernel) (by decide) (by decide)
        have th8_21_2 : fld h8 21 2 = fld h 21 2 := Qh8.f (a1 := 21) (a2 := 21) (j1 := 2) (j2 := 3) (by decide +kernel) (by first | decide | exact ⟨by decide, by decide⟩) (by first | decide | exact ⟨by decide, by decide⟩) (by first | decide | exact ⟨by decide, by decide⟩)
        refine zwW_p [(1, 0, 2)] (q := 55) (ls' := [(2, 19), (0, a), (0, b), (9, 0)]) (st' := [(2, 19)]) (by decide +kernel) rfl ?_
        refine zwW_gc Ch8.1 (kd := 3) (bn := 6) (n := 10) (c := 23) (nx := 58) (by decide +kernel) ?_
        refine zwW_p [(1, 1, 0)] (q := 59) (ls' := [(2, 19), (0, a), (0, b), (9, 0)]) (st' := [(0, a), (2, 23)]) (by decide +kernel) rfl ?_
        refine zwW_al Ch8.1 (a1 := 23) (a2 := 23) (kd := 20) (n := 6) (t := 0) (lo := -2147483648) (hi := 2147483647) (nx := 60) (by decide +kernel) (by first | decide | exact ⟨by decide, by decide⟩) (by first | omega | exact ⟨by omega, by omega⟩) ?_
        intro v9 ev9 lv9 uv9
        refine zwif_ne (q := 71) (nx := 63) (by decide +kernel) (fun c10 => ?_) (fun c10 => ?_)
        · refine zwW_p [(0, 0, 0), (2, 3, 0)] (q := 73) (ls' := [(2, 19), (0, a), (0, b), (0, 0)]) (st' := []) (by decide +kernel) rfl ?_
          have L11 : ∀ (n : Nat) (v3L11 : Int) (hL11 : Hp), n = ((1000 - v3L11)).toNat → (0 ≤ v3L11 ∧ v3L11 ≤ 1000) → CI hL11 → zXR msxT (0) (0) h hL11 → zwW sc (D0 + 8) 212 73 [(2, 19), (0, a), (0, b), (0, v3L11)] [] hL11 (zwRv (fun g => CI g ∧ zXR msxT (0) (0) h g)) := by
            intro n
            induction n using Nat.strongRecOn with
            | ind n IHL11 =>
              intro v3L11 hL11 hnL11 iL11_0 ChL11 XhL11
              refine zwW_p [(1, 3, 0), (1, 0, 2)] (q := 75) (ls' := [(2, 19), (0, a), (0, b), (0, v3L11)]) (st' := [(2, 19), (0, v3L11)]) (by decide +kernel) rfl ?_
              refine zwW_gc ChL11.1 (kd := 3) (bn := 1) (n := 10) (c := 21) (nx := 78) (by decide +kernel) ?_
              refine zwW_cm ChL11.1 (op := 60) (k' := 96) (n := 0) (kd := 0) (m := 3) (nx := 81) (r := 21) (tl := []) (st' := [(0, v3L11)]) (by decide +kernel) rfl (by decide +kernel) rfl (x96_21 ChL11) ?_
              rintro v12 _ ⟨rfl, ev12⟩
              have bv12 := zLb_21 ChL11
              refine zwic_ge (q := 180) (nx := 84) (by decide +kernel) (fun c13 => ?_) (fun c13 => ?_)
              · refine zwW_retv (nx := 181) (a := 0) (b := 0) (by decide +kernel) ?_
                exact ⟨ChL11, XhL11.le (by decide) (by decide)⟩
              · refine zwW_p [(1, 3, 0), (0, 6, 0)] (q := 87) (ls' := [(2, 19), (0, a), (0, b), (0, v3L11)]) (st' := [(0, 6), (0, v3L11)]) (by decide +kernel) rfl ?_
                refine zwic_ge (q := 180) (nx := 90) (by decide +kernel) (fun c14 => ?_) (fun c14 => ?_)
                · exfalso; omega
                · refine zwW_p [(1, 0, 2)] (q := 91) (ls' := [(2, 19), (0, a), (0, b), (0, v3L11)]) (st' := [(2, 19)]) (by decide +kernel) rfl ?_
                  refine zwW_gc ChL11.1 (kd := 3) (bn := 6) (n := 10) (c := 23) (nx := 94) (by decide +kernel) ?_
                  refine zwW_p [(1, 1, 0)] (q := 95) (ls' := [(2, 19), (0, a), (0, b), (0, v3L11)]) (st' := [(0, a), (2, 23)]) (by decide +kernel) rfl ?_
                  refine zwW_al ChL11.1 (a1 := 23) (a2 := 23) (kd := 20) (n := 6) (t := 0) (lo := -2147483648) (hi := 2147483647) (nx := 96) (by decide +kernel) (by first | decide | exact ⟨by decide, by decide⟩) (by first | omega | exact ⟨by omega, by omega⟩) ?_
                  intro v15 ev15 lv15 uv15
                  refine zwW_p [(1, 3, 0)] (q := 97) (ls' := [(2, 19), (0, a), (0, b), (0, v3L11)]) (st' := [(0, v3L11), (0, v15)]) (by decide +kernel) rfl ?_
                  refine zwW_any2 (a := 9) (nx := 98) (by decide +kernel) rfl (by first | omega | exact ⟨by omega, by omega⟩) (Or.inr (by first | decide | exact ⟨by decide, by decide⟩)) ?_
                  intro v16 lv16 uv16
                  refine zwW_p [(0, 1, 0)] (q := 99) (ls' := [(2, 19), (0, a), (0, b), (0, v3L11)]) (st' := [(0, 1), (0, v16)]) (by decide +kernel) rfl ?_
                  refine zwW_any2 (a := 5) (nx := 100) (by decide +kernel) rfl (by first | omega | exact ⟨by omega, by omega⟩) (Or.inr (by first | decide | exact ⟨by decide, by decide⟩)) ?_
                  intro v17 lv17 uv17
                  refine zwif_eq (q := 174) (nx := 103) (by decide +kernel) (fun c18 => ?_) (fun c18 => ?_)
                  · refine zwW_inc (i := 3) (c := 1) (x := v3L11) (nx := 177) (by decide +kernel) rfl (by first | omega | exact ⟨by omega, by omega⟩) (ls' := [(2, 19), (0, a), (0, b), (0, (v3L11 + 1))]) rfl ?_
                    refine zwW_p [(24, 73, 0)] (q := 73) (ls' := [(2, 19), (0, a), (0, b), (0, (v3L11 + 1))]) (st' := []) (by decide +kernel) rfl ?_
                    exact IHL11 ((1000 - (v3L11 + 1))).toNat (by omega) (v3L11 + 1) hL11 rfl (by omega) ChL11 (XhL11.le (by decide) (by decide))
                  · refine zwW_p [(1, 0, 2)] (q := 104) (ls' := [(2, 19), (0, a), (0, b), (0, v3L11)]) (st' := [(2, 19)]) (by decide +kernel) rfl ?_
                    refine zwW_gc ChL11.1 (kd := 3) (bn := 8) (n := 10) (c := 25) (nx := 107) (by decide +kernel) ?_
                    refine zwW_p [(1, 1, 0), (1, 3, 0)] (q := 109) (ls' := [(2, 19), (0, a), (0, b), (0, v3L11)]) (st' := [(0, v3L11), (0, a), (2, 25)]) (by decide +kernel) rfl ?_
                    refine zwW_as ChL11.1 (a1 := 25) (a2 := 25) (n := 6) (lo := -2147483648) (hi := 2147483647) (nx := 110) (by decide +kernel) (by first | decide | exact ⟨by decide, by decide⟩) (by first | omega | exact ⟨by omega, by omega⟩) (by first | omega | exact ⟨by omega, by omega⟩) ?_
                    intro h19 eh19 Ih19
                    have Ch19 : CI h19 := ChL11.wc eh19 Ih19 (by decide) (by decide)
                    have Qh19 : zXR [(25, 25, 0, 6)] 0 0 hL11 h19 := zXR.wc eh19 rfl ⟨by decide, by decide, Or.inl (by decide)⟩ (by first | omega | exact ⟨by omega, by omega⟩)
                    have Xh19 : zXR msxT (0) (0) h h19 := XhL11.tr (c2 := 0) (s2 := 0) Qh19 (by decide +kernel) (by decide) (by decide)
                    have th19_21_2 : fld h19 21 2 = fld hL11 21 2 := Qh19.f (a1 := 21) (a2 := 21) (j1 := 2) (j2 := 3) (by decide +kernel) (by first | decide | exact ⟨by decide, by decide⟩) (by first | decide | exact ⟨by decide, by decide⟩) (by first | decide | exact ⟨by decide, by decide⟩)
                    refine zwW_p [(1, 0, 2)] (q := 111) (ls' := [(2, 19), (0, a), (0, b), (0, v3L11)]) (st' := [(2, 19)]) (by decide +kernel) rfl ?_
                    refine zwW_gc Ch19.1 (kd := 3) (bn := 7) (n := 10) (c := 24) (nx := 114) (by decide +kernel) ?_
                    refine zwW_p [(1, 3, 0), (14, 0, 0)] (q := 116) (ls' := [(2, 19), (0, a), (0, b), (0, v3L11)]) (st' := [(0, v3L11), (2, 24), (0, v3L11), (2, 24)]) (by decide +kernel) rfl ?_
                    refine zwW_al Ch19.1 (a1 := 24) (a2 := 24) (kd := 20) (n := 6) (t := 0) (lo := -2147483648) (hi := 2147483647) (nx := 117) (by decide +kernel) (by first | decide | exact ⟨by decide, by decide⟩) (by first | omega | exact ⟨by omega, by omega⟩) ?_
                    intro v20 ev20 lv20 uv20
                    refine zwW_p [(1, 0, 2)] (q := 118) (ls' := [(2, 19), (0, a), (0, b), (0, v3L11)]) (st' := [(2, 19), (0, v20), (0, v3L11), (2, 24)]) (by decide +kernel) rfl ?_
                    refine zwW_gc Ch19.1 (kd := 3) (bn := 5) (n := 10) (c := 22) (nx := 121) (by decide +kernel) ?_
                    refine zwW_p [(1, 1, 0)] (q := 122) (ls' := [(2, 19), (0, a), (0, b), (0, v3L11)]) (st' := [(0, a), (2, 22), (0, v20), (0, v3L11), (2, 24)]) (by decide +kernel) rfl ?_
                    refine zwW_al Ch19.1 (a1 := 22) (a2 := 22) (kd := 20) (n := 6) (t := 0) (lo := -2147483648) (hi := 2147483647) (nx := 123) (by decide +kernel) (by first | decide | exact ⟨by decide, by decide⟩) (by first | omega | exact ⟨by omega, by omega⟩) ?_
                    intro v21 ev21 lv21 uv21
                    refine zwW_adw (nx := 124) (by decide +kernel) ?_
                    intro v22 ev22 lv22 uv22
                    refine zwW_as Ch19.1 (a1 := 24) (a2 := 24) (n := 6) (lo := -2147483648) (hi := 2147483647) (nx := 125) (by decide +kernel) (by first | decide | exact ⟨by decide, by decide⟩) (by first | omega | exact ⟨by omega, by omega⟩) (by first | omega | exact ⟨by omega, by omega⟩) ?_
                    intro h23 eh23 Ih23
                    have Ch23 : CI h23 := Ch19.wc eh23 Ih23 (by decide) (by decide)
                    have Qh23 : zXR [(24, 24, 0, 6)] 0 0 h19 h23 := zXR.wc eh23 rfl ⟨by decide, by decide, Or.inl (by decide)⟩ (by first | omega | exact ⟨by omega, by omega⟩)
                    have Xh23 : zXR msxT (0) (0) h h23 := Xh19.tr (c2 := 0) (s2 := 0) Qh23 (by decide +kernel) (by decide) (by decide)
                    have th23_21_2 : fld h23 21 2 = fld h19 21 2 := Qh23.f (a1 := 21) (a2 := 21) (j1 := 2) (j2 := 3) (by decide +kernel) (by first | decide | exact ⟨by decide, by decide⟩) (by first | decide | exact ⟨by decide, by decide⟩) (by first | decide | exact ⟨by decide, by decide⟩)
                    refine zwW_p [(1, 0, 2), (1, 1, 0), (0, 1, 0)] (q := 128) (ls' := [(2, 19), (0, a), (0, b), (0, v3L11)]) (st' := [(0, 1), (0, a), (2, 19)]) (by decide +kernel) rfl ?_
                    refine zwW_add (nx := 129) (by decide +kernel) (by first | omega | exact ⟨by omega, by omega⟩) ?_
                    refine zwW_p [(1, 2, 0), (1, 0, 2)] (q := 131) (ls' := [(2, 19), (0, a), (0, b), (0, v3L11)]) (st' := [(2, 19), (0, b), (0, (a + 1)), (2, 19)]) (by decide +kernel) rfl ?_
                    refine zwW_gc Ch23.1 (kd := 3) (bn := 7) (n := 10) (c := 24) (nx := 134) (by decide +kernel) ?_
                    refine zwW_p [(1, 3, 0)] (q := 135) (ls' := [(2, 19), (0, a), (0, b), (0, v3L11)]) (st' := [(0, v3L11), (2, 24), (0, b), (0, (a + 1)), (2, 19)]) (by decide +kernel) rfl ?_
                    refine zwW_al Ch23.1 (a1 := 24) (a2 := 24) (kd := 20) (n := 6) (t := 0) (lo := -2147483648) (hi := 2147483647) (nx := 136) (by decide +kernel) (by first | decide | exact ⟨by decide, by decide⟩) (by first | omega | exact ⟨by omega, by omega⟩) ?_
                    intro v24 ev24 lv24 uv24
                    refine zwW_p [(1, 0, 2)] (q := 137) (ls' := [(2, 19), (0, a), (0, b), (0, v3L11)]) (st' := [(2, 19), (0, v24), (0, b), (0, (a + 1)), (2, 19)]) (by decide +kernel) rfl ?_
                    refine zwW_gc Ch23.1 (kd := 3) (bn := 1) (n := 10) (c := 21) (nx := 140) (by decide +kernel) ?_
                    refine zwW_p [(1, 3, 0)] (q := 141) (ls' := [(2, 19), (0, a), (0, b), (0, v3L11)]) (st' := [(0, v3L11), (2, 21), (0, v24), (0, b), (0, (a + 1)), (2, 19)]) (by decide +kernel) rfl ?_
                    refine zwW_cm Ch23.1 (op := 60) (k' := 123) (n := 1) (kd := 0) (m := 3) (nx := 144) (r := 21) (tl := [(0, v3L11)]) (st' := [(0, v24), (0, b), (0, (a + 1)), (2, 19)]) (by decide +kernel) rfl (by decide +kernel) rfl (x123_21 Ch23 (i := v3L11) (by first | omega | exact ⟨by omega, by omega⟩)) ?_
                    rintro v25 _ ⟨rfl, Gv25, ev25⟩
                    have lv25 := Gv25.1
                    refine zwW_cast (a := 4) (kd := 4) (n := 19) (nx := 147) (by decide +kernel) rfl (Or.inr Gv25.2.1) ?_
                    refine zwX_gi Ch23 (kd := 4) (bn := 13) (n := 19) (nx := 150) (by decide +kernel) Gv25.2.1 Gv25.1 rfl ?_
                    intro v26 ev26 lv26 uv26
                    refine zwW_cs (k' := 151) (n := 2) (nx := 153) (as := [(0, v24), (0, v26)]) (st' := [(0, b), (0, (a + 1)), (2, 19)]) (by decide +kernel) rfl (x151 h23 Ch23 v24 v26 (by omega) (by omega)) (Nat.ble_eq_true_of_le (by omega)) ?_
                    rintro v27 _ ⟨rfl, f28⟩
                    refine zwW_max (nx := 156) (by decide +kernel) rfl ?_
                    intro v29 ev29
                    refine zwW_cmv Ch23.1 (op := 60) (k' := 212) (n := 2) (kd := 3) (m := 10) (nx := 159) (r := 19) (tl := [(0, (a + 1)), (0, v29)]) (st' := []) (by decide +kernel) rfl (by decide +kernel) (Nat.ble_eq_true_of_le (by omega)) (HS (by omega) h23 Ch23 v29 (by omega)) ?_
                    rintro h30 ⟨Ch30, Qh30⟩
                    have Xh30 : zXR msxT (0) (0) h h30 := Xh23.tr (c2 := 0) (s2 := 0) Qh30 (by decide +kernel) (by decide) (by decide)
                    have th30_21_2 : fld h30 21 2 = fld h23 21 2 := Qh30.f (a1 := 21) (a2 := 21) (j1 := 2) (j2 := 3) (by decide +kernel) (by first | decide | exact ⟨by decide, by decide⟩) (by first | decide | exact ⟨by decide, by decide⟩) (by first | decide | exact ⟨by decide, by decide⟩)
                    refine zwW_p [(1, 0, 2)] (q := 160) (ls' := [(2, 19), (0, a), (0, b), (0, v3L11)]) (st' := [(2, 19)]) (by decide +kernel) rfl ?_
                    refine zwW_gc Ch30.1 (kd := 3) (bn := 7) (n := 10) (c := 24) (nx := 163) (by decide +kernel) ?_
                    refine zwW_p [(1, 3, 0), (14, 0, 0)] (q := 165) (ls' := [(2, 19), (0, a), (0, b), (0, v3L11)]) (st' := [(0, v3L11), (2, 24), (0, v3L11), (2, 24)]) (by decide +kernel) rfl ?_
                    refine zwW_al Ch30.1 (a1 := 24) (a2 := 24) (kd := 20) (n := 6) (t := 0) (lo := -2147483648) (hi := 2147483647) (nx := 166) (by decide +kernel) (by first | decide | exact ⟨by decide, by decide⟩) (by first | omega | exact ⟨by omega, by omega⟩) ?_
                    intro v31 ev31 lv31 uv31
                    refine zwW_p [(1, 0, 2)] (q := 167) (ls' := [(2, 19), (0, a), (0, b), (0, v3L11)]) (st' := [(2, 19), (0, v31), (0, v3L11), (2, 24)]) (by decide +kernel) rfl ?_
                    refine zwW_gc Ch30.1 (kd := 3) (bn := 5) (n := 10) (c := 22) (nx := 170) (by decide +kernel) ?_
                    refine zwW_p [(1, 1, 0)] (q := 171) (ls' := [(2, 19), (0, a), (0, b), (0, v3L11)]) (st' := [(0, a), (2, 22), (0, v31), (0, v3L11), (2, 24)]) (by decide +kernel) rfl ?_
                    refine zwW_al Ch30.1 (a1 := 22) (a2 := 22) (kd := 20) (n := 6) (t := 0) (lo := -2147483648) (hi := 2147483647) (nx := 172) (by decide +kernel) (by first | decide | exact ⟨by decide, by decide⟩) (by first | omega | exact ⟨by omega, by omega⟩) ?_
                    intro v32 ev32 lv32 uv32
                    refine zwW_sbw (nx := 173) (by decide +kernel) ?_
                    intro v33 ev33 lv33 uv33
                    refine zwW_as Ch30.1 (a1 := 24) (a2 := 24) (n := 6) (lo := -2147483648) (hi := 2147483647) (nx := 174) (by decide +kernel) (by first | decide | exact ⟨by decide, by decide⟩) (by first | omega | exact ⟨by omega, by omega⟩) (by first | omega | exact ⟨by omega, by omega⟩) ?_
                    intro h34 eh34 Ih34
                    have Ch34 : CI h34 := Ch30.wc eh34 Ih34 (by decide) (by decide)
                    have Qh34 : zXR [(24, 24, 0, 6)] 0 0 h30 h34 := zXR.wc eh34 rfl ⟨by decide, by decide, Or.inl (by decide)⟩ (by first | omega | exact ⟨by omega, by omega⟩)
                    have Xh34 : zXR msxT (0) (0) h h34 := Xh30.tr (c2 := 0) (s2 := 0) Qh34 (by decide +kernel) (by decide) (by decide)
                    have th34_21_2 : fld h34 21 2 = fld h30 21 2 := Qh34.f (a1 := 21) (a2 := 21) (j1 := 2) (j2 := 3) (by decide +kernel) (by first | decide | exact ⟨by decide, by decide⟩) (by first | decide | exact ⟨by decide, by decide⟩) (by first | decide | exact ⟨by decide, by decide⟩)
                    refine zwW_inc (i := 3) (c := 1) (x := v3L11) (nx := 177) (by decide +kernel) rfl (by first | omega | exact ⟨by omega, by omega⟩) (ls' := [(2, 19), (0, a), (0, b), (0, (v3L11 + 1))]) rfl ?_
                    refine zwW_p [(24, 73, 0)] (q := 73) (ls' := [(2, 19), (0, a), (0, b), (0, (v3L11 + 1))]) (st' := []) (by decide +kernel) rfl ?_
                    exact IHL11 ((1000 - (v3L11 + 1))).toNat (by omega) (v3L11 + 1) h34 rfl (by omega) Ch34 (Xh34.le (by decide) (by decide))
          exact L11 _ 0 h8 rfl (by omega) Ch8 (Xh8.le (by decide) (by decide))
        · refine zwW_p [(1, 0, 2), (1, 1, 0), (0, 1, 0)] (q := 66) (ls' := [(2, 19), (0, a), (0, b), (9, 0)]) (st' := [(0, 1), (0, a), (2, 19)]) (by decide +kernel) rfl ?_
          refine zwW_add (nx := 67) (by decide +kernel) (by first | omega | exact ⟨by omega, by omega⟩) ?_
          refine zwW_p [(1, 2, 0)] (q := 68) (ls' := [(2, 19), (0, a), (0, b), (9, 0)]) (st' := [(0, b), (0, (a + 1)), (2, 19)]) (by decide +kernel) rfl ?_
          refine zwW_cmv Ch8.1 (op := 60) (k' := 212) (n := 2) (kd := 3) (m := 10) (nx := 71) (r := 19) (tl := [(0, (a + 1)), (0, b)]) (st' := []) (by decide +kernel) rfl (by decide +kernel) (Nat.ble_eq_true_of_le (by omega)) (HS (by omega) h8 Ch8 b (by omega)) ?_
          rintro h35 ⟨Ch35, Qh35⟩
          have Xh35 : zXR msxT (0) (0) h h35 := Xh8.tr (c2 := 0) (s2 := 0) Qh35 (by decide +kernel) (by decide) (by decide)
          have th35_21_2 : fld h35 21 2 = fld h8 21 2 := Qh35.f (a1 := 21) (a2 := 21) (j1 := 2) (j2 := 3) (by decide +kernel) (by first | decide | exact ⟨by decide, by decide⟩) (by first | decide | exact ⟨by decide, by decide⟩) (by first | decide | exact ⟨by decide, by decide⟩)
          refine zwW_p [(0, 0, 0), (2, 3, 0)] (q := 73) (ls' := [(2, 19), (0, a), (0, b), (0, 0)]) (st' := []) (by decide +kernel) rfl ?_
          have L36 : ∀ (n : Nat) (v3L36 : Int) (hL36 : Hp), n = ((1000 - v3L36)).toNat → (0 ≤ v3L36 ∧ v3L36 ≤ 1000) → CI hL36 → zXR msxT (0) (0) h hL36 → zwW sc (D0 + 8) 212 73 [(2, 19), (0, a), (0, b), (0, v3L36)] [] hL36 (zwRv (fun g => CI g ∧ zXR msxT (0) (0) h g)) := by
            intro n
            induction n using Nat.strongRecOn with
            | ind n IHL36 =>
              intro v3L36 hL36 hnL36 iL36_0 ChL36 XhL36
              refine zwW_p [(1, 3, 0), (1, 0, 2)] (q := 75) (ls' := [(2, 19), (0, a), (0, b), (0, v3L36)]) (st' := [(2, 19), (0, v3L36)]) (by decide +kernel) rfl ?_
              refine zwW_gc ChL36.1 (kd := 3) (bn := 1) (n := 10) (c := 21) (nx := 78) (by decide +kernel) ?_
              refine zwW_cm ChL36.1 (op := 60) (k' := 96) (n := 0) (kd := 0) (m := 3) (nx := 81) (r := 21) (tl := []) (st' := [(0, v3L36)]) (by decide +kernel) rfl (by decide +kernel) rfl (x96_21 ChL36) ?_
              rintro v37 _ ⟨rfl, ev37⟩
              have bv37 := zLb_21 ChL36
              refine zwic_ge (q := 180) (nx := 84) (by decide +kernel) (fun c38 => ?_) (fun c38 => ?_)
              · refine zwW_retv (nx := 181) (a := 0) (b := 0) (by decide +kernel) ?_
                exact ⟨ChL36, XhL36.le (by decide) (by decide)⟩
              · refine zwW_p [(1, 3, 0), (0, 6, 0)] (q := 87) (ls' := [(2, 19), (0, a), (0, b), (0, v3L36)]) (st' := [(0, 6), (0, v3L36)]) (by decide +kernel) rfl ?_
                refine zwic_ge (q := 180) (nx := 90) (by decide +kernel) (fun c39 => ?_) (fun c39 => ?_)
                · exfalso; omega
                · refine zwW_p [(1, 0, 2)] (q := 91) (ls' := [(2, 19), (0, a), (0, b), (0, v3L36)]) (st' := [(2, 19)]) (by decide +kernel) rfl ?_
                  refine zwW_gc ChL36.1 (kd := 3) (bn := 6) (n := 10) (c := 23) (nx := 94) (by decide +kernel) ?_
                  refine zwW_p [(1, 1, 0)] (q := 95) (ls' := [(2, 19), (0, a), (0, b), (0, v3L36)]) (st' := [(0, a), (2, 23)]) (by decide +kernel) rfl ?_
                  refine zwW_al ChL36.1 (a1 := 23) (a2 := 23) (kd := 20) (n := 6) (t := 0) (lo := -2147483648) (hi := 2147483647) (nx := 96) (by decide +kernel) (by first | decide | exact ⟨by decide, by decide⟩) (by first | omega | exact ⟨by omega, by omega⟩) ?_
                  intro v40 ev40 lv40 uv40
                  refine zwW_p [(1, 3, 0)] (q := 97) (ls' := [(2, 19), (0, a), (0, b), (0, v3L36)]) (st' := [(0, v3L36), (0, v40)]) (by decide +kernel) rfl ?_
                  refine zwW_any2 (a := 9) (nx := 98) (by decide +kernel) rfl (by first | omega | exact ⟨by omega, by omega⟩) (Or.inr (by first | decide | exact ⟨by decide, by decide⟩)) ?_
                  intro v41 lv41 uv41
                  refine zwW_p [(0, 1, 0)] (q := 99) (ls' := [(2, 19), (0, a), (0, b), (0, v3L36)]) (st' := [(0, 1), (0, v41)]) (by decide +kernel) rfl ?_
                  refine zwW_any2 (a := 5) (nx := 100) (by decide +kernel) rfl (by first | omega | exact ⟨by omega, by omega⟩) (Or.inr (by first | decide | exact ⟨by decide, by decide⟩)) ?_
                  intro v42 lv42 uv42
                  refine zwif_eq (q := 174) (nx := 103) (by decide +kernel) (fun c43 => ?_) (fun c43 => ?_)
                  · refine zwW_inc (i := 3) (c := 1) (x := v3L36) (nx := 177) (by decide +kernel) rfl (by first | omega | exact ⟨by omega, by omega⟩) (ls' := [(2, 19), (0, a), (0, b), (0, (v3L36 + 1))]) rfl ?_
                    refine zwW_p [(24, 73, 0)] (q := 73) (ls' := [(2, 19), (0, a), (0, b), (0, (v3L36 + 1))]) (st' := []) (by decide +kernel) rfl ?_
                    exact IHL36 ((1000 - (v3L36 + 1))).toNat (by omega) (v3L36 + 1) hL36 rfl (by omega) ChL36 (XhL36.le (by decide) (by decide))
                  · refine zwW_p [(1, 0, 2)] (q := 104) (ls' := [(2, 19), (0, a), (0, b), (0, v3L36)]) (st' := [(2, 19)]) (by decide +kernel) rfl ?_
                    refine zwW_gc ChL36.1 (kd := 3) (bn := 8) (n := 10) (c := 25) (nx := 107) (by decide +kernel) ?_
                    refine zwW_p [(1, 1, 0), (1, 3, 0)] (q := 109) (ls' := [(2, 19), (0, a), (0, b), (0, v3L36)]) (st' := [(0, v3L36), (0, a), (2, 25)]) (by decide +kernel) rfl ?_
                    refine zwW_as ChL36.1 (a1 := 25) (a2 := 25) (n := 6) (lo := -2147483648) (hi := 2147483647) (nx := 110) (by decide +kernel) (by first | decide | exact ⟨by decide, by decide⟩) (by first | omega | exact ⟨by omega, by omega⟩) (by first | omega | exact ⟨by omega, by omega⟩) ?_
                    intro h44 eh44 Ih44
                    have Ch44 : CI h44 := ChL36.wc eh44 Ih44 (by decide) (by decide)
                    have Qh44 : zXR [(25, 25, 0, 6)] 0 0 hL36 h44 := zXR.wc eh44 rfl ⟨by decide, by decide, Or.inl (by decide)⟩ (by first | omega | exact ⟨by omega, by omega⟩)
                    have Xh44 : zXR msxT (0) (0) h h44 := XhL36.tr (c2 := 0) (s2 := 0) Qh44 (by decide +kernel) (by decide) (by decide)
                    have th44_21_2 : fld h44 21 2 = fld hL36 21 2 := Qh44.f (a1 := 21) (a2 := 21) (j1 := 2) (j2 := 3) (by decide +kernel) (by first | decide | exact ⟨by decide, by decide⟩) (by first | decide | exact ⟨by decide, by decide⟩) (by first | decide | exact ⟨by decide, by decide⟩)
                    refine zwW_p [(1, 0, 2)] (q := 111) (ls' := [(2, 19), (0, a), (0, b), (0, v3L36)]) (st' := [(2, 19)]) (by decide +kernel) rfl ?_
                    refine zwW_gc Ch44.1 (kd := 3) (bn := 7) (n := 10) (c := 24) (nx := 114) (by decide +kernel) ?_
                    refine zwW_p [(1, 3, 0), (14, 0, 0)] (q := 116) (ls' := [(2, 19), (0, a), (0, b), (0, v3L36)]) (st' := [(0, v3L36), (2, 24), (0, v3L36), (2, 24)]) (by decide +kernel) rfl ?_
                    refine zwW_al Ch44.1 (a1 := 24) (a2 := 24) (kd := 20) (n := 6) (t := 0) (lo := -2147483648) (hi := 2147483647) (nx := 117) (by decide +kernel) (by first | decide | exact ⟨by decide, by decide⟩) (by first | omega | exact ⟨by omega, by omega⟩) ?_
                    intro v45 ev45 lv45 uv45
                    refine zwW_p [(1, 0, 2)] (q := 118) (ls' := [(2, 19), (0, a), (0, b), (0, v3L36)]) (st' := [(2, 19), (0, v45), (0, v3L36), (2, 24)]) (by decide +kernel) rfl ?_
                    refine zwW_gc Ch44.1 (kd := 3) (bn := 5) (n := 10) (c := 22) (nx := 121) (by decide +kernel) ?_
                    refine zwW_p [(1, 1, 0)] (q := 122) (ls' := [(2, 19), (0, a), (0, b), (0, v3L36)]) (st' := [(0, a), (2, 22), (0, v45), (0, v3L36), (2, 24)]) (by decide +kernel) rfl ?_
                    refine zwW_al Ch44.1 (a1 := 22) (a2 := 22) (kd := 20) (n := 6) (t := 0) (lo := -2147483648) (hi := 2147483647) (nx := 123) (by decide +kernel) (by first | decide | exact ⟨by decide, by decide⟩) (by first | omega | exact ⟨by omega, by omega⟩) ?_
                    intro v46 ev46 lv46 uv46
                    refine zwW_adw (nx := 124) (by decide +kernel) ?_
                    intro v47 ev47 lv47 uv47
                    refine zwW_as Ch44.1 (a1 := 24) (a2 := 24) (n := 6) (lo := -2147483648) (hi := 2147483647) (nx := 125) (by decide +kernel) (by first | decide | exact ⟨by decide, by decide⟩) (by first | omega | exact ⟨by omega, by omega⟩) (by first | omega | exact ⟨by omega, by omega⟩) ?_
                    intro h48 eh48 Ih48
                    have Ch48 : CI h48 := Ch44.wc eh48 Ih48 (by decide) (by decide)
                    have Qh48 : zXR [(24, 24, 0, 6)] 0 0 h44 h48 := zXR.wc eh48 rfl ⟨by decide, by decide, Or.inl (by decide)⟩ (by first | omega | exact ⟨by omega, by omega⟩)
                    have Xh48 : zXR msxT (0) (0) h h48 := Xh44.tr (c2 := 0) (s2 := 0) Qh48 (by decide +kernel) (by decide) (by decide)
                    have th48_21_2 : fld h48 21 2 = fld h44 21 2 := Qh48.f (a1 := 21) (a2 := 21) (j1 := 2) (j2 := 3) (by decide +kernel) (by first | decide | exact ⟨by decide, by decide⟩) (by first | decide | exact ⟨by decide, by decide⟩) (by first | decide | exact ⟨by decide, by decide⟩)
                    refine zwW_p [(1, 0, 2), (1, 1, 0), (0, 1, 0)] (q := 128) (ls' := [(2, 19), (0, a), (0, b), (0, v3L36)]) (st' := [(0, 1), (0, a), (2, 19)]) (by decide +kernel) rfl ?_
                    refine zwW_add (nx := 129) (by decide +kernel) (by first | omega | exact ⟨by omega, by omega⟩) ?_
                    refine zwW_p [(1, 2, 0), (1, 0, 2)] (q := 131) (ls' := [(2, 19), (0, a), (0, b), (0, v3L36)]) (st' := [(2, 19), (0, b), (0, (a + 1)), (2, 19)]) (by decide +kernel) rfl ?_
                    refine zwW_gc Ch48.1 (kd := 3) (bn := 7) (n := 10) (c := 24) (nx := 134) (by decide +kernel) ?_
                    refine zwW_p [(1, 3, 0)] (q := 135) (ls' := [(2, 19), (0, a), (0, b), (0, v3L36)]) (st' := [(0, v3L36), (2, 24), (0, b), (0, (a + 1)), (2, 19)]) (by decide +kernel) rfl ?_
                    refine zwW_al Ch48.1 (a1 := 24) (a2 := 24) (kd := 20) (n := 6) (t := 0) (lo := -2147483648) (hi := 2147483647) (nx := 136) (by decide +kernel) (by first | decide | exact ⟨by decide, by decide⟩) (by first | omega | exact ⟨by omega, by omega⟩) ?_
                    intro v49 ev49 lv49 uv49
                    refine zwW_p [(1, 0, 2)] (q := 137) (ls' := [(2, 19), (0, a), (0, b), (0, v3L36)]) (st' := [(2, 19), (0, v49), (0, b), (0, (a + 1)), (2, 19)]) (by decide +kernel) rfl ?_
                    refine zwW_gc Ch48.1 (kd := 3) (bn := 1) (n := 10) (c := 21) (nx := 140) (by decide +kernel) ?_
                    refine zwW_p [(1, 3, 0)] (q := 141) (ls' := [(2, 19), (0, a), (0, b), (0, v3L36)]) (st' := [(0, v3L36), (2, 21), (0, v49), (0, b), (0, (a + 1)), (2, 19)]) (by decide +kernel) rfl ?_
                    refine zwW_cm Ch48.1 (op := 60) (k' := 123) (n := 1) (kd := 0) (m := 3) (nx := 144) (r := 21) (tl := [(0, v3L36)]) (st' := [(0, v49), (0, b), (0, (a + 1)), (2, 19)]) (by decide +kernel) rfl (by decide +kernel) rfl (x123_21 Ch48 (i := v3L36) (by first | omega | exact ⟨by omega, by omega⟩)) ?_
                    rintro v50 _ ⟨rfl, Gv50, ev50⟩
                    have lv50 := Gv50.1
                    refine zwW_cast (a := 4) (kd := 4) (n := 19) (nx := 147) (by decide +kernel) rfl (Or.inr Gv50.2.1) ?_
                    refine zwX_gi Ch48 (kd := 4) (bn := 13) (n := 19) (nx := 150) (by decide +kernel) Gv50.2.1 Gv50.1 rfl ?_
                    intro v51 ev51 lv51 uv51
                    refine zwW_cs (k' := 151) (n := 2) (nx := 153) (as := [(0, v49), (0, v51)]) (st' := [(0, b), (0, (a + 1)), (2, 19)]) (by decide +kernel) rfl (x151 h48 Ch48 v49 v51 (by omega) (by omega)) (Nat.ble_eq_true_of_le (by omega)) ?_
                    rintro v52 _ ⟨rfl, f53⟩
                    refine zwW_max (nx := 156) (by decide +kernel) rfl ?_
                    intro v54 ev54
                    refine zwW_cmv Ch48.1 (op := 60) (k' := 212) (n := 2) (kd := 3) (m := 10) (nx := 159) (r := 19) (tl := [(0, (a + 1)), (0, v54)]) (st' := []) (by decide +kernel) rfl (by decide +kernel) (Nat.ble_eq_true_of_le (by omega)) (HS (by omega) h48 Ch48 v54 (by omega)) ?_
                    rintro h55 ⟨Ch55, Qh55⟩
                    have Xh55 : zXR msxT (0) (0) h h55 := Xh48.tr (c2 := 0) (s2 := 0) Qh55 (by decide +kernel) (by decide) (by decide)
                    have th55_21_2 : fld h55 21 2 = fld h48 21 2 := Qh55.f (a1 := 21) (a2 := 21) (j1 := 2) (j2 := 3) (by decide +kernel) (by first | decide | exact ⟨by decide, by decide⟩) (by first | decide | exact ⟨by decide, by decide⟩) (by first | decide | exact ⟨by decide, by decide⟩)
                    refine zwW_p [(1, 0, 2)] (q := 160) (ls' := [(2, 19), (0, a), (0, b), (0, v3L36)]) (st' := [(2, 19)]) (by decide +kernel) rfl ?_
                    refine zwW_gc Ch55.1 (kd := 3) (bn := 7) (n := 10) (c := 24) (nx := 163) (by decide +kernel) ?_
                    refine zwW_p [(1, 3, 0), (14, 0, 0)] (q := 165) (ls' := [(2, 19), (0, a), (0, b), (0, v3L36)]) (st' := [(0, v3L36), (2, 24), (0, v3L36), (2, 24)]) (by decide +kernel) rfl ?_
                    refine zwW_al Ch55.1 (a1 := 24) (a2 := 24) (kd := 20) (n := 6) (t := 0) (lo := -2147483648) (hi := 2147483647) (nx := 166) (by decide +kernel) (by first | decide | exact ⟨by decide, by decide⟩) (by first | omega | exact ⟨by omega, by omega⟩) ?_
                    intro v56 ev56 lv56 uv56
                    refine zwW_p [(1, 0, 2)] (q := 167) (ls' := [(2, 19), (0, a), (0, b), (0, v3L36)]) (st' := [(2, 19), (0, v56), (0, v3L36), (2, 24)]) (by decide +kernel) rfl ?_
                    refine zwW_gc Ch55.1 (kd := 3) (bn := 5) (n := 10) (c := 22) (nx := 170) (by decide +kernel) ?_
                    refine zwW_p [(1, 1, 0)] (q := 171) (ls' := [(2, 19), (0, a), (0, b), (0, v3L36)]) (st' := [(0, a), (2, 22), (0, v56), (0, v3L36), (2, 24)]) (by decide +kernel) rfl ?_
                    refine zwW_al Ch55.1 (a1 := 22) (a2 := 22) (kd := 20) (n := 6) (t := 0) (lo := -2147483648) (hi := 2147483647) (nx := 172) (by decide +kernel) (by first | decide | exact ⟨by decide, by decide⟩) (by first | omega | exact ⟨by omega, by omega⟩) ?_
                    intro v57 ev57 lv57 uv57
                    refine zwW_sbw (nx := 173) (by decide +kernel) ?_
                    intro v58 ev58 lv58 uv58
                    refine zwW_as Ch55.1 (a1 := 24) (a2 := 24) (n := 6) (lo := -2147483648) (hi := 2147483647) (nx := 174) (by decide +kernel) (by first | decide | exact ⟨by decide, by decide⟩) (by first | omega | exact ⟨by omega, by omega⟩) (by first | omega | exact ⟨by omega, by omega⟩) ?_
                    intro h59 eh59 Ih59
                    have Ch59 : CI h59 := Ch55.wc eh59 Ih59 (by decide) (by decide)
                    have Qh59 : zXR [(24, 24, 0, 6)] 0 0 h55 h59 := zXR.wc eh59 rfl ⟨by decide, by decide, Or.inl (by decide)⟩ (by first | omega | exact ⟨by omega, by omega⟩)
                    have Xh59 : zXR msxT (0) (0) h h59 := Xh55.tr (c2 := 0) (s2 := 0) Qh59 (by decide +kernel) (by decide) (by decide)
                    have th59_21_2 : fld h59 21 2 = fld h55 21 2 := Qh59.f (a1 := 21) (a2 := 21) (j1 := 2) (j2 := 3) (by decide +kernel) (by first | decide | exact ⟨by decide, by decide⟩) (by first | decide | exact ⟨by decide, by decide⟩) (by first | decide | exact ⟨by decide, by decide⟩)
                    refine zwW_inc (i := 3) (c := 1) (x := v3L36) (nx := 177) (by decide +kernel) rfl (by first | omega | exact ⟨by omega, by omega⟩) (ls' := [(2, 19), (0, a), (0, b), (0, (v3L36 + 1))]) rfl ?_
                    refine zwW_p [(24, 73, 0)] (q := 73) (ls' := [(2, 19), (0, a), (0, b), (0, (v3L36 + 1))]) (st' := []) (by decide +kernel) rfl ?_
                    exact IHL36 ((1000 - (v3L36 + 1))).toNat (by omega) (v3L36 + 1) h59 rfl (by omega) Ch59 (Xh59.le (by decide) (by decide))
          exact L36 _ 0 h35 rfl (by omega) Ch35 (Xh35.le (by decide) (by decide))
      · exfalso; omega
  · refine zwW_retv (nx := 9) (a := 0) (b := 0) (by decide +kernel) ?_
    exact ⟨C, X.le (by decide) (by decide)⟩
end
section
/-! the class's grammar and search, all depths -/
section ZK2
theorem zksearch (sc : List Int) : ∀ (n : Nat) (a : Int), n ≤ 6 → a = 6 - (n : Int) → zKS sc (9 * n + 9) a
  | 0, a, _, ha => by
    have ha : a = 6 := by omega
    subst ha
    exact x212 6 0 (by omega) (fun h => by omega)
  | n + 1, a, hn, ha => by
    have k := zksearch sc n (a + 1) (by omega) (by omega)
    exact x212 a (9 * (n + 1)) (by omega) (fun _ => k)
theorem zk_search (sc : List Int) : zKS sc 70 0 := fun h C b hb => zwC_up (by decide) (zksearch sc 6 0 (by decide) (by decide) h C b hb)
end ZK2
end
section
/-! contracts of the class -/
def msx146 : Zms := [(19, 19, 4, 5), (24, 24, 0, 6), (25, 25, 0, 6), (26, 26, 0, 6)]
-- WheelLand$Handwork.find()V
theorem x146 {sc : List Int} (h : Hp) (C : CI h) : zwC sc 71 146 [(2, 19)] h (zwRv (fun g => CI g ∧ zXR msx146 (0) (0) h g)) := by
  refine zwC_of (D := 70) 1 (by decide +kernel) rfl (ls := [(2, 19)]) rfl ?_
  have X : zXR msx146 0 0 h h := zXR.rf _ _
  refine zwW_p [(1, 0, 2), (0, 1000000, 0)] (q := 3) (ls' := [(2, 19)]) (st' := [(0, 1000000), (2, 19)]) (by decide +kernel) rfl ?_
  refine zwW_ps C.1 (kd := 3) (bn := 4) (n := 10) (lo := -2147483648) (hi := 2147483647) (nx := 6) (by decide +kernel) (by first | decide | exact ⟨by decide, by decide⟩) ?_
  intro h1 eh1 Ih1
  have Ch1 : CI h1 := C.wc eh1 Ih1 (by decide) (by decide)
  have Qh1 : zXR [(19, 19, 4, 5)] 0 0 h h1 := zXR.wc eh1 rfl ⟨by decide, by decide, Or.inl (by decide)⟩ (by first | decide | exact ⟨by decide, by decide⟩)
  have Xh1 : zXR msx146 (0) (0) h h1 := X.tr (c2 := 0) (s2 := 0) Qh1 (by decide +kernel) (by decide) (by decide)
  refine zwW_p [(1, 0, 2), (0, 0, 0), (0, 0, 0)] (q := 9) (ls' := [(2, 19)]) (st' := [(0, 0), (0, 0), (2, 19)]) (by decide +kernel) rfl ?_
  refine zwW_cmv Ch1.1 (op := 60) (k' := 212) (n := 2) (kd := 3) (m := 10) (nx := 12) (r := 19) (tl := [(0, 0), (0, 0)]) (st' := []) (by decide +kernel) rfl (by decide +kernel) rfl (zk_search sc h1 Ch1 0 (by omega)) ?_
  rintro h2 ⟨Ch2, Qh2⟩
  have Xh2 : zXR msx146 (0) (0) h h2 := Xh1.tr (c2 := 0) (s2 := 0) Qh2 (by decide +kernel) (by decide) (by decide)
  refine zwW_retv (nx := 13) (a := 0) (b := 0) (by decide +kernel) ?_
  exact ⟨Ch2, Xh2.le (by decide) (by decide)⟩
-- WheelLand.wouldSpin(LWheelLand$House;)I
theorem x170 {sc : List Int} (h : Hp) (C : CI h) (r : Int) (G_r : gH h r) : zwC sc 3 170 [(2, 1), (2, r)] h (zwRt 0 (fun x g => h = g ∧ (-2147483648 ≤ x ∧ x ≤ 2147483647) ∧ (x ≤ 0 ∨ fld h 4 2 < 300))) := by
  refine zwC_of (D := 2) 3 (by decide +kernel) rfl (ls := [(2, 1), (2, r), (9, 0)]) rfl ?_
  have lw_r := G_r.1
  refine zwW_p [(1, 0, 2)] (q := 1) (ls' := [(2, 1), (2, r), (9, 0)]) (st' := [(2, 1)]) (by decide +kernel) rfl ?_
  refine zwW_gc C.1 (kd := 12) (bn := 4) (n := 13) (c := 4) (nx := 4) (by decide +kernel) ?_
  refine zwW_cm C.1 (op := 60) (k' := 96) (n := 0) (kd := 0) (m := 3) (nx := 7) (r := 4) (tl := []) (st' := []) (by decide +kernel) rfl (by decide +kernel) rfl (x96_4 C) ?_
  rintro v1 _ ⟨rfl, ev1⟩
  have bv1 := zLb_4 C
  refine zwW_p [(0, 300, 0)] (q := 10) (ls' := [(2, 1), (2, r), (9, 0)]) (st' := [(0, 300), (0, v1)]) (by decide +kernel) rfl ?_
  refine zwic_lt (q := 15) (nx := 13) (by decide +kernel) (fun c2 => ?_) (fun c2 => ?_)
  · refine zwW_p [(1, 1, 2)] (q := 16) (ls' := [(2, 1), (2, r), (9, 0)]) (st' := [(2, r)]) (by decide +kernel) rfl ?_
    refine zwX_gi C (kd := 4) (bn := 2) (n := 19) (nx := 19) (by decide +kernel) G_r.2.1 G_r.1 rfl ?_
    intro v3 ev3 lv3 uv3
    refine zwW_p [(1, 1, 2)] (q := 20) (ls' := [(2, 1), (2, r), (9, 0)]) (st' := [(2, r), (0, v3)]) (by decide +kernel) rfl ?_
    refine zwW_get (kd := 4) (bn := 1) (t := 2) (n := 19) (nx := 23) (by decide +kernel) G_r.2.1 rfl ?_
    obtain ⟨v4, ev4⟩ : ∃ z, z = fld h r 1 := ⟨_, rfl⟩
    rw [← ev4]
    have Gv4 : gV h v4 := by rw [ev4]; exact G_r.2.2
    have lv4 := Gv4.1
    refine zwW_p [(1, 0, 2)] (q := 24) (ls' := [(2, 1), (2, r), (9, 0)]) (st' := [(2, 1), (2, v4), (0, v3)]) (by decide +kernel) rfl ?_
    refine zwW_gs C.1 (kd := 12) (bn := 0) (n := 13) (t := 0) (lo := 0) (hi := 156) (nx := 27) (by decide +kernel) ?_
    intro v5 ev5 lv5 uv5
    refine zwW_cs (k' := 162) (n := 1) (nx := 30) (as := [(0, v5)]) (st' := [(2, v4), (0, v3)]) (by decide +kernel) rfl (x162 h C v5 (by omega) (by omega)) rfl ?_
    rintro v6 _ ⟨rfl, f7, f8, f9⟩
    refine zwW_cv (op := 60) (k' := 222) (n := 1) (kd := 11) (m := 17) (nx := 33) (r := v4) (tl := [(0, v6)]) (st' := [(0, v3)]) (by decide +kernel) rfl (by decide +kernel) Gv4.2.1 (x222 h C v4 v6 Gv4 (by omega)) rfl ?_
    rintro v10 _ ⟨rfl, f11⟩
    refine zwW_mlw (nx := 34) (by decide +kernel) ?_
    intro v12 ev12 lv12 uv12
    have Ev12 : v12 = w32 ((fld h r 2) * v10) := by rw [ev12, ev3]
    refine zwW_p [(2, 2, 0), (1, 2, 0), (1, 1, 2)] (q := 37) (ls' := [(2, 1), (2, r), (0, v12)]) (st' := [(2, r), (0, v12)]) (by decide +kernel) rfl ?_
    refine zwX_gi C (kd := 4) (bn := 3) (n := 19) (nx := 40) (by decide +kernel) G_r.2.1 G_r.1 rfl ?_
    intro v13 ev13 lv13 uv13
    refine zwW_p [(1, 1, 2)] (q := 41) (ls' := [(2, 1), (2, r), (0, v12)]) (st' := [(2, r), (0, v13), (0, v12)]) (by decide +kernel) rfl ?_
    refine zwX_gi C (kd := 4) (bn := 7) (n := 19) (nx := 44) (by decide +kernel) G_r.2.1 G_r.1 rfl ?_
    intro v14 ev14 lv14 uv14
    refine zwW_p [(1, 1, 2)] (q := 45) (ls' := [(2, 1), (2, r), (0, v12)]) (st' := [(2, r), (0, v14), (0, v13), (0, v12)]) (by decide +kernel) rfl ?_
    refine zwW_get (kd := 4) (bn := 1) (t := 2) (n := 19) (nx := 48) (by decide +kernel) G_r.2.1 rfl ?_
    rw [← ev4]
    refine zwX_gi C (kd := 11) (bn := 3) (n := 17) (nx := 51) (by decide +kernel) Gv4.2.1 Gv4.1 rfl ?_
    intro v16 ev16 lv16 uv16
    refine zwW_cs (k' := 223) (n := 4) (nx := 54) (as := [(0, v12), (0, v13), (0, v14), (0, v16)]) (st' := []) (by decide +kernel) rfl (x223 h C v12 v13 v14 v16 (by omega) (by omega) (by omega) (by omega)) rfl ?_
    rintro v17 _ ⟨rfl, f18⟩
    refine zwW_ret (nx := 55) (a := 0) (b := 0) (by decide +kernel) rfl (Or.inl rfl) ?_
    exact ⟨rfl, by omega, by omega⟩
  · refine zwW_p [(0, 0, 0)] (q := 14) (ls' := [(2, 1), (2, r), (9, 0)]) (st' := [(0, 0)]) (by decide +kernel) rfl ?_
    refine zwW_ret (nx := 15) (a := 0) (b := 0) (by decide +kernel) rfl (Or.inl rfl) ?_
    exact ⟨rfl, by omega, by omega⟩
def msx232 : Zms := [(1, 1, 1, 2), (1004, 1004, 6, 7), (1004, 1004, 8, 9), (1004, 1004, 9, 10), (1004, 1004, 10, 11), (1011, 1011, 5, 6), (1011, 1011, 6, 7), (1011, 1011, 7, 8), (1011, 1011, 10, 11), (1011, 1011, 13, 14), (1011, 1011, 14, 15)]
-- WheelLand.buyYard(LWheelLand$House;I)V
theorem x232 {sc : List Int} (h : Hp) (C : CI h) (r a : Int) (G_r : gH h r) (q_a : -2147483648 ≤ a ∧ a ≤ 2147483647) : zwC sc 2 232 [(2, 1), (2, r), (0, a)] h (zwRv (fun g => CI g ∧ zXR msx232 (0) (0) h g)) := by
  refine zwC_of (D := 1) 5 (by decide +kernel) rfl (ls := [(2, 1), (2, r), (0, a), (9, 0), (9, 0)]) rfl ?_
  have lw_r := G_r.1
  have X : zXR msx232 0 0 h h := zXR.rf _ _
  refine zwW_p [(1, 1, 2)] (q := 1) (ls' := [(2, 1), (2, r), (0, a), (9, 0), (9, 0)]) (st' := [(2, r)]) (by decide +kernel) rfl ?_
  refine zwW_get (kd := 4) (bn := 1) (t := 2) (n := 19) (nx := 4) (by decide +kernel) G_r.2.1 rfl ?_
  obtain ⟨v1, ev1⟩ : ∃ z, z = fld h r 1 := ⟨_, rfl⟩
  rw [← ev1]
  have Gv1 : gV h v1 := by rw [ev1]; exact G_r.2.2
  have lv1 := Gv1.1
  refine zwW_p [(2, 3, 2), (1, 3, 2), (1, 1, 2)] (q := 7) (ls' := [(2, 1), (2, r), (0, a), (2, v1), (9, 0)]) (st' := [(2, r), (2, v1)]) (by decide +kernel) rfl ?_
  refine zwX_gi C (kd := 4) (bn := 6) (n := 19) (nx := 10) (by decide +kernel) G_r.2.1 G_r.1 rfl ?_
  intro v2 ev2 lv2 uv2
  refine zwW_p [(1, 2, 0)] (q := 11) (ls' := [(2, 1), (2, r), (0, a), (2, v1), (9, 0)]) (st' := [(0, a), (0, v2), (2, v1)]) (by decide +kernel) rfl ?_
  refine zwW_cv (op := 60) (k' := 154) (n := 2) (kd := 11) (m := 17) (nx := 14) (r := v1) (tl := [(0, v2), (0, a)]) (st' := []) (by decide +kernel) rfl (by decide +kernel) Gv1.2.1 (x154 h C v1 v2 a Gv1 (by omega) (by omega)) rfl ?_
  rintro v3 _ ⟨rfl, f4⟩
  refine zwW_p [(2, 4, 0), (1, 4, 0)] (q := 18) (ls' := [(2, 1), (2, r), (0, a), (2, v1), (0, v3)]) (st' := [(0, v3)]) (by decide +kernel) rfl ?_
  refine zwif_ne (q := 51) (nx := 21) (by decide +kernel) (fun c5 => ?_) (fun c5 => ?_)
  · refine zwW_p [(1, 4, 0), (0, 1, 0)] (q := 54) (ls' := [(2, 1), (2, r), (0, a), (2, v1), (0, v3)]) (st' := [(0, 1), (0, v3)]) (by decide +kernel) rfl ?_
    refine zwic_ne (q := 99) (nx := 57) (by decide +kernel) (fun c6 => ?_) (fun c6 => ?_)
    · refine zwW_p [(1, 1, 2), (12, 0, 0)] (q := 101) (ls' := [(2, 1), (2, r), (0, a), (2, v1), (0, v3)]) (st' := [(2, r), (2, r)]) (by decide +kernel) rfl ?_
      refine zwX_gi C (kd := 4) (bn := 8) (n := 19) (nx := 104) (by decide +kernel) G_r.2.1 G_r.1 rfl ?_
      intro v7 ev7 lv7 uv7
      refine zwW_p [(0, 1, 0)] (q := 105) (ls' := [(2, 1), (2, r), (0, a), (2, v1), (0, v3)]) (st' := [(0, 1), (0, v7), (2, r)]) (by decide +kernel) rfl ?_
      refine zwW_adw (nx := 106) (by decide +kernel) ?_
      intro v8 ev8 lv8 uv8
      have Ev8 : v8 = w32 ((fld h r 8) + 1) := by rw [ev8, ev7]
      refine zwX_pi C (kd := 4) (bn := 8) (n := 19) (nx := 109) (by decide +kernel) G_r.2.1 G_r.1 (by first | omega | exact ⟨by omega, by omega⟩) ?_
      rintro h9 eh9 Ch9 Qh9
      have Xh9 : zXR msx232 (0) (0) h h9 := X.tr (c2 := 0) (s2 := 0) Qh9 (by decide +kernel) (by decide) (by decide)
      have Gh9_0 : gH h9 r := G_r.x Qh9
      have Gh9_1 : gV h9 v1 := Gv1.x Qh9
      refine zwW_retv (nx := 110) (a := 0) (b := 0) (by decide +kernel) ?_
      exact ⟨Ch9, Xh9.le (by decide) (by decide)⟩
    · refine zwW_p [(1, 3, 2)] (q := 58) (ls' := [(2, 1), (2, r), (0, a), (2, v1), (0, v3)]) (st' := [(2, v1)]) (by decide +kernel) rfl ?_
      refine zwW_cvv (op := 60) (k' := 259) (n := 0) (kd := 11) (m := 17) (nx := 61) (r := v1) (tl := []) (st' := []) (by decide +kernel) rfl (by decide +kernel) Gv1.2.1 (x259 h C v1 Gv1) rfl ?_
      rintro h10 ⟨Ch10, Qh10⟩
      have Xh10 : zXR msx232 (0) (0) h h10 := X.tr (c2 := 0) (s2 := 0) Qh10 (by decide +kernel) (by decide) (by decide)
      have Gh10_0 : gH h10 r := G_r.x Qh10
      have Gh10_1 : gV h10 v1 := Gv1.x Qh10
      refine zwW_p [(1, 1, 2), (12, 0, 0)] (q := 63) (ls' := [(2, 1), (2, r), (0, a), (2, v1), (0, v3)]) (st' := [(2, r), (2, r)]) (by decide +kernel) rfl ?_
      refine zwX_gi Ch10 (kd := 4) (bn := 10) (n := 19) (nx := 66) (by decide +kernel) Gh10_0.2.1 Gh10_0.1 rfl ?_
      intro v11 ev11 lv11 uv11
      refine zwW_p [(0, 1, 0)] (q := 67) (ls' := [(2, 1), (2, r), (0, a), (2, v1), (0, v3)]) (st' := [(0, 1), (0, v11), (2, r)]) (by decide +kernel) rfl ?_
      refine zwW_adw (nx := 68) (by decide +kernel) ?_
      intro v12 ev12 lv12 uv12
      have Ev12 : v12 = w32 ((fld h10 r 10) + 1) := by rw [ev12, ev11]
      refine zwX_pi Ch10 (kd := 4) (bn := 10) (n := 19) (nx := 71) (by decide +kernel) Gh10_0.2.1 Gh10_0.1 (by first | omega | exact ⟨by omega, by omega⟩) ?_
      rintro h13 eh13 Ch13 Qh13
      have Xh13 : zXR msx232 (0) (0) h h13 := Xh10.tr (c2 := 0) (s2 := 0) Qh13 (by decide +kernel) (by decide) (by decide)
      have Gh13_0 : gH h13 r := Gh10_0.x Qh13
      have Gh13_1 : gV h13 v1 := Gh10_1.x Qh13
      refine zwW_p [(1, 1, 2), (12, 0, 0)] (q := 73) (ls' := [(2, 1), (2, r), (0, a), (2, v1), (0, v3)]) (st' := [(2, r), (2, r)]) (by decide +kernel) rfl ?_
      refine zwX_gi Ch13 (kd := 4) (bn := 6) (n := 19) (nx := 76) (by decide +kernel) Gh13_0.2.1 Gh13_0.1 rfl ?_
      intro v14 ev14 lv14 uv14
      refine zwW_p [(1, 3, 2)] (q := 77) (ls' := [(2, 1), (2, r), (0, a), (2, v1), (0, v3)]) (st' := [(2, v1), (0, v14), (2, r)]) (by decide +kernel) rfl ?_
      refine zwX_gi Ch13 (kd := 11) (bn := 9) (n := 17) (nx := 80) (by decide +kernel) Gh13_1.2.1 Gh13_1.1 rfl ?_
      intro v15 ev15 lv15 uv15
      refine zwW_p [(1, 2, 0)] (q := 81) (ls' := [(2, 1), (2, r), (0, a), (2, v1), (0, v3)]) (st' := [(0, a), (0, v15), (0, v14), (2, r)]) (by decide +kernel) rfl ?_
      refine zwW_adw (nx := 82) (by decide +kernel) ?_
      intro v16 ev16 lv16 uv16
      have Ev16 : v16 = w32 ((fld h13 v1 9) + a) := by rw [ev16, ev15]
      refine zwW_sbw (nx := 83) (by decide +kernel) ?_
      intro v17 ev17 lv17 uv17
      have Ev17 : v17 = w32 ((fld h13 r 6) - (w32 ((fld h13 v1 9) + a))) := by rw [ev17, ev14, Ev16]
      refine zwX_pi Ch13 (kd := 4) (bn := 6) (n := 19) (nx := 86) (by decide +kernel) Gh13_0.2.1 Gh13_0.1 (by first | omega | exact ⟨by omega, by omega⟩) ?_
      rintro h18 eh18 Ch18 Qh18
      have Xh18 : zXR msx232 (0) (0) h h18 := Xh13.tr (c2 := 0) (s2 := 0) Qh18 (by decide +kernel) (by decide) (by decide)
      have Gh18_0 : gH h18 r := Gh13_0.x Qh18
      have Gh18_1 : gV h18 v1 := Gh13_1.x Qh18
      refine zwW_p [(1, 0, 2), (12, 0, 0)] (q := 88) (ls' := [(2, 1), (2, r), (0, a), (2, v1), (0, v3)]) (st' := [(2, 1), (2, 1)]) (by decide +kernel) rfl ?_
      refine zwW_gs Ch18.1 (kd := 12) (bn := 1) (n := 13) (t := 0) (lo := -2147483648) (hi := 2147483647) (nx := 91) (by decide +kernel) ?_
      intro v19 ev19 lv19 uv19
      refine zwW_p [(1, 2, 0)] (q := 92) (ls' := [(2, 1), (2, r), (0, a), (2, v1), (0, v3)]) (st' := [(0, a), (0, v19), (2, 1)]) (by decide +kernel) rfl ?_
      refine zwW_adw (nx := 93) (by decide +kernel) ?_
      intro v20 ev20 lv20 uv20
      refine zwW_ps Ch18.1 (kd := 12) (bn := 1) (n := 13) (lo := -2147483648) (hi := 2147483647) (nx := 96) (by decide +kernel) (by first | omega | exact ⟨by omega, by omega⟩) ?_
      intro h21 eh21 Ih21
      have Ch21 : CI h21 := Ch18.wc eh21 Ih21 (by decide) (by decide)
      have Qh21 : zXR [(1, 1, 1, 2)] 0 0 h18 h21 := zXR.wc eh21 rfl ⟨by decide, by decide, Or.inl (by decide)⟩ (by first | decide | exact ⟨by decide, by decide⟩)
      have Xh21 : zXR msx232 (0) (0) h h21 := Xh18.tr (c2 := 0) (s2 := 0) Qh21 (by decide +kernel) (by decide) (by decide)
      have Gh21_0 : gH h21 r := Gh18_0.x Qh21
      have Gh21_1 : gV h21 v1 := Gh18_1.x Qh21
      refine zwW_p [(24, 109, 0)] (q := 109) (ls' := [(2, 1), (2, r), (0, a), (2, v1), (0, v3)]) (st' := []) (by decide +kernel) rfl ?_
      refine zwW_retv (nx := 110) (a := 0) (b := 0) (by decide +kernel) ?_
      exact ⟨Ch21, Xh21.le (by decide) (by decide)⟩
  · refine zwW_p [(1, 3, 2)] (q := 22) (ls' := [(2, 1), (2, r), (0, a), (2, v1), (0, v3)]) (st' := [(2, v1)]) (by decide +kernel) rfl ?_
    refine zwW_cvv (op := 60) (k' := 258) (n := 0) (kd := 11) (m := 17) (nx := 25) (r := v1) (tl := []) (st' := []) (by decide +kernel) rfl (by decide +kernel) Gv1.2.1 (x258 h C v1 Gv1) rfl ?_
    rintro h22 ⟨Ch22, Qh22⟩
    have Xh22 : zXR msx232 (0) (0) h h22 := X.tr (c2 := 0) (s2 := 0) Qh22 (by decide +kernel) (by decide) (by decide)
    have Gh22_0 : gH h22 r := G_r.x Qh22
    have Gh22_1 : gV h22 v1 := Gv1.x Qh22
    refine zwW_p [(1, 1, 2), (12, 0, 0)] (q := 27) (ls' := [(2, 1), (2, r), (0, a), (2, v1), (0, v3)]) (st' := [(2, r), (2, r)]) (by decide +kernel) rfl ?_
    refine zwX_gi Ch22 (kd := 4) (bn := 9) (n := 19) (nx := 30) (by decide +kernel) Gh22_0.2.1 Gh22_0.1 rfl ?_
    intro v23 ev23 lv23 uv23
    refine zwW_p [(0, 1, 0)] (q := 31) (ls' := [(2, 1), (2, r), (0, a), (2, v1), (0, v3)]) (st' := [(0, 1), (0, v23), (2, r)]) (by decide +kernel) rfl ?_
    refine zwW_adw (nx := 32) (by decide +kernel) ?_
    intro v24 ev24 lv24 uv24
    have Ev24 : v24 = w32 ((fld h22 r 9) + 1) := by rw [ev24, ev23]
    refine zwX_pi Ch22 (kd := 4) (bn := 9) (n := 19) (nx := 35) (by decide +kernel) Gh22_0.2.1 Gh22_0.1 (by first | omega | exact ⟨by omega, by omega⟩) ?_
    rintro h25 eh25 Ch25 Qh25
    have Xh25 : zXR msx232 (0) (0) h h25 := Xh22.tr (c2 := 0) (s2 := 0) Qh25 (by decide +kernel) (by decide) (by decide)
    have Gh25_0 : gH h25 r := Gh22_0.x Qh25
    have Gh25_1 : gV h25 v1 := Gh22_1.x Qh25
    refine zwW_p [(1, 1, 2), (12, 0, 0)] (q := 37) (ls' := [(2, 1), (2, r), (0, a), (2, v1), (0, v3)]) (st' := [(2, r), (2, r)]) (by decide +kernel) rfl ?_
    refine zwX_gi Ch25 (kd := 4) (bn := 6) (n := 19) (nx := 40) (by decide +kernel) Gh25_0.2.1 Gh25_0.1 rfl ?_
    intro v26 ev26 lv26 uv26
    refine zwW_p [(1, 3, 2)] (q := 41) (ls' := [(2, 1), (2, r), (0, a), (2, v1), (0, v3)]) (st' := [(2, v1), (0, v26), (2, r)]) (by decide +kernel) rfl ?_
    refine zwX_gi Ch25 (kd := 11) (bn := 8) (n := 17) (nx := 44) (by decide +kernel) Gh25_1.2.1 Gh25_1.1 rfl ?_
    intro v27 ev27 lv27 uv27
    refine zwW_sbw (nx := 45) (by decide +kernel) ?_
    intro v28 ev28 lv28 uv28
    have Ev28 : v28 = w32 ((fld h25 r 6) - (fld h25 v1 8)) := by rw [ev28, ev26, ev27]
    refine zwX_pi Ch25 (kd := 4) (bn := 6) (n := 19) (nx := 48) (by decide +kernel) Gh25_0.2.1 Gh25_0.1 (by first | omega | exact ⟨by omega, by omega⟩) ?_
    rintro h29 eh29 Ch29 Qh29
    have Xh29 : zXR msx232 (0) (0) h h29 := Xh25.tr (c2 := 0) (s2 := 0) Qh29 (by decide +kernel) (by decide) (by decide)
    have Gh29_0 : gH h29 r := Gh25_0.x Qh29
    have Gh29_1 : gV h29 v1 := Gh25_1.x Qh29
    refine zwW_p [(24, 109, 0)] (q := 109) (ls' := [(2, 1), (2, r), (0, a), (2, v1), (0, v3)]) (st' := []) (by decide +kernel) rfl ?_
    refine zwW_retv (nx := 110) (a := 0) (b := 0) (by decide +kernel) ?_
    exact ⟨Ch29, Xh29.le (by decide) (by decide)⟩
def msx185 : Zms := [(4, 4, 0, 3), (1004, 1004, 18, 19), (1011, 1011, 3, 4)]
-- WheelLand.spinAll()I
theorem x185 {sc : List Int} (h : Hp) (C : CI h) (hl : h.length ≤ 999930000) : zwC sc 7 185 [(2, 1)] h (zwRt 0 (fun x g => CI g ∧ zXR msx185 (0) (0) h g ∧ (-2147483648 ≤ x ∧ x ≤ 2147483647))) := by
  refine zwC_of (D := 6) 6 (by decide +kernel) rfl (ls := [(2, 1), (9, 0), (9, 0), (9, 0), (9, 0), (9, 0)]) rfl ?_
  have X : zXR msx185 0 0 h h := zXR.rf _ _
  refine zwW_p [(1, 0, 2)] (q := 1) (ls' := [(2, 1), (9, 0), (9, 0), (9, 0), (9, 0), (9, 0)]) (st' := [(2, 1)]) (by decide +kernel) rfl ?_
  refine zwW_gs C.1 (kd := 12) (bn := 0) (n := 13) (t := 0) (lo := 0) (hi := 156) (nx := 4) (by decide +kernel) ?_
  intro v1 ev1 lv1 uv1
  refine zwW_cs (k' := 162) (n := 1) (nx := 7) (as := [(0, v1)]) (st' := []) (by decide +kernel) rfl (x162 h C v1 (by omega) (by omega)) rfl ?_
  rintro v2 _ ⟨rfl, f3, f4, f5⟩
  refine zwW_p [(2, 1, 0), (0, 0, 0), (2, 2, 0), (0, 0, 0), (2, 3, 0)] (q := 12) (ls' := [(2, 1), (0, v2), (0, 0), (0, 0), (9, 0), (9, 0)]) (st' := []) (by decide +kernel) rfl ?_
  have L6 : ∀ (n : Nat) (v2L6 v3L6 : Int) (w4L6 w5L6 : Vl) (hL6 : Hp), n = ((1000 - v3L6)).toNat → (-2147483648 ≤ v2L6 ∧ v2L6 ≤ 2147483647) → (0 ≤ v3L6 ∧ v3L6 ≤ 1000) → CI hL6 → zXR msx185 (0) (0) h hL6 → zwW sc (6) 185 12 [(2, 1), (0, v2), (0, v2L6), (0, v3L6), w4L6, w5L6] [] hL6 (zwRt 0 (fun x g => CI g ∧ zXR msx185 (0) (0) h g ∧ (-2147483648 ≤ x ∧ x ≤ 2147483647))) := by
    intro n
    induction n using Nat.strongRecOn with
    | ind n IHL6 =>
      intro v2L6 v3L6 w4L6 w5L6 hL6 hnL6 iL6_0 iL6_1 ChL6 XhL6
      refine zwW_p [(1, 3, 0), (1, 0, 2)] (q := 14) (ls' := [(2, 1), (0, v2), (0, v2L6), (0, v3L6), w4L6, w5L6]) (st' := [(2, 1), (0, v3L6)]) (by decide +kernel) rfl ?_
      refine zwW_gc ChL6.1 (kd := 12) (bn := 3) (n := 13) (c := 3) (nx := 17) (by decide +kernel) ?_
      refine zwW_cm ChL6.1 (op := 60) (k' := 96) (n := 0) (kd := 0) (m := 3) (nx := 20) (r := 3) (tl := []) (st' := [(0, v3L6)]) (by decide +kernel) rfl (by decide +kernel) rfl (x96_3 ChL6) ?_
      rintro v7 _ ⟨rfl, ev7⟩
      have bv7 := zLb_3 ChL6
      refine zwic_ge (q := 129) (nx := 23) (by decide +kernel) (fun c8 => ?_) (fun c8 => ?_)
      · refine zwW_p [(1, 2, 0)] (q := 130) (ls' := [(2, 1), (0, v2), (0, v2L6), (0, v3L6), w4L6, w5L6]) (st' := [(0, v2L6)]) (by decide +kernel) rfl ?_
        refine zwW_ret (nx := 131) (a := 0) (b := 0) (by decide +kernel) rfl (Or.inl rfl) ?_
        exact ⟨ChL6, XhL6.le (by decide) (by decide), by omega⟩
      · refine zwW_p [(1, 0, 2)] (q := 24) (ls' := [(2, 1), (0, v2), (0, v2L6), (0, v3L6), w4L6, w5L6]) (st' := [(2, 1)]) (by decide +kernel) rfl ?_
        refine zwW_gc ChL6.1 (kd := 12) (bn := 3) (n := 13) (c := 3) (nx := 27) (by decide +kernel) ?_
        refine zwW_p [(1, 3, 0)] (q := 28) (ls' := [(2, 1), (0, v2), (0, v2L6), (0, v3L6), w4L6, w5L6]) (st' := [(0, v3L6), (2, 3)]) (by decide +kernel) rfl ?_
        refine zwW_cm ChL6.1 (op := 60) (k' := 123) (n := 1) (kd := 0) (m := 3) (nx := 31) (r := 3) (tl := [(0, v3L6)]) (st' := []) (by decide +kernel) rfl (by decide +kernel) rfl (x123_3 ChL6 (i := v3L6) (by first | omega | exact ⟨by omega, by omega⟩)) ?_
        rintro v9 _ ⟨rfl, Gv9, ev9⟩
        have lv9 := Gv9.1
        refine zwW_cast (a := 4) (kd := 4) (n := 19) (nx := 34) (by decide +kernel) rfl (Or.inr Gv9.2.1) ?_
        refine zwW_p [(2, 4, 2), (1, 4, 2), (12, 0, 0)] (q := 39) (ls' := [(2, 1), (0, v2), (0, v2L6), (0, v3L6), (2, v9), w5L6]) (st' := [(2, v9), (2, v9)]) (by decide +kernel) rfl ?_
        refine zwX_gi ChL6 (kd := 4) (bn := 18) (n := 19) (nx := 42) (by decide +kernel) Gv9.2.1 Gv9.1 rfl ?_
        intro v10 ev10 lv10 uv10
        refine zwW_p [(1, 4, 2), (1, 1, 0)] (q := 45) (ls' := [(2, 1), (0, v2), (0, v2L6), (0, v3L6), (2, v9), w5L6]) (st' := [(0, v2), (2, v9), (0, v10), (2, v9)]) (by decide +kernel) rfl ?_
        refine zwW_cv (op := 60) (k' := 230) (n := 1) (kd := 4) (m := 19) (nx := 48) (r := v9) (tl := [(0, v2)]) (st' := [(0, v10), (2, v9)]) (by decide +kernel) rfl (by decide +kernel) Gv9.2.1 (x230 hL6 ChL6 v9 v2 Gv9 (by omega)) rfl ?_
        rintro v11 _ ⟨rfl, f12⟩
        refine zwW_adw (nx := 49) (by decide +kernel) ?_
        intro v13 ev13 lv13 uv13
        have Ev13 : v13 = w32 ((fld hL6 v9 18) + v11) := by rw [ev13, ev10]
        refine zwX_pi ChL6 (kd := 4) (bn := 18) (n := 19) (nx := 52) (by decide +kernel) Gv9.2.1 Gv9.1 (by first | omega | exact ⟨by omega, by omega⟩) ?_
        rintro h14 eh14 Ch14 Qh14
        have Xh14 : zXR msx185 (0) (0) h h14 := XhL6.tr (c2 := 0) (s2 := 0) Qh14 (by decide +kernel) (by decide) (by decide)
        have Gh14_0 : gH h14 v9 := Gv9.x Qh14
        have th14_4_2 : fld h14 4 2 = fld hL6 4 2 := Qh14.f (a1 := 4) (a2 := 4) (j1 := 2) (j2 := 3) (by decide +kernel) (by first | decide | exact ⟨by decide, by decide⟩) (by first | decide | exact ⟨by decide, by decide⟩) (by first | decide | exact ⟨by decide, by decide⟩)
        refine zwW_p [(1, 0, 2), (1, 4, 2)] (q := 55) (ls' := [(2, 1), (0, v2), (0, v2L6), (0, v3L6), (2, v9), w5L6]) (st' := [(2, v9), (2, 1)]) (by decide +kernel) rfl ?_
        refine zwW_cm Ch14.1 (op := 60) (k' := 170) (n := 1) (kd := 12) (m := 13) (nx := 58) (r := 1) (tl := [(2, v9)]) (st' := []) (by decide +kernel) rfl (by decide +kernel) rfl (x170 h14 Ch14 v9 Gh14_0) ?_
        rintro v15 _ ⟨rfl, f16, f17⟩
        refine zwW_p [(2, 5, 0), (1, 5, 0)] (q := 62) (ls' := [(2, 1), (0, v2), (0, v2L6), (0, v3L6), (2, v9), (0, v15)]) (st' := [(0, v15)]) (by decide +kernel) rfl ?_
        refine zwif_le (q := 123) (nx := 65) (by decide +kernel) (fun c18 => ?_) (fun c18 => ?_)
        · refine zwW_inc (i := 3) (c := 1) (x := v3L6) (nx := 126) (by decide +kernel) rfl (by first | omega | exact ⟨by omega, by omega⟩) (ls' := [(2, 1), (0, v2), (0, v2L6), (0, (v3L6 + 1)), (2, v9), (0, v15)]) rfl ?_
          refine zwW_p [(24, 12, 0)] (q := 12) (ls' := [(2, 1), (0, v2), (0, v2L6), (0, (v3L6 + 1)), (2, v9), (0, v15)]) (st' := []) (by decide +kernel) rfl ?_
          exact IHL6 ((1000 - (v3L6 + 1))).toNat (by omega) v2L6 (v3L6 + 1) (2, v9) (0, v15) h14 rfl (by omega) (by omega) Ch14 (Xh14.le (by decide) (by decide))
        · refine zwW_p [(1, 4, 2)] (q := 67) (ls' := [(2, 1), (0, v2), (0, v2L6), (0, v3L6), (2, v9), (0, v15)]) (st' := [(2, v9)]) (by decide +kernel) rfl ?_
          refine zwW_get (kd := 4) (bn := 1) (t := 2) (n := 19) (nx := 70) (by decide +kernel) Gh14_0.2.1 rfl ?_
          obtain ⟨v19, ev19⟩ : ∃ z, z = fld h14 v9 1 := ⟨_, rfl⟩
          rw [← ev19]
          have Gv19 : gV h14 v19 := by rw [ev19]; exact Gh14_0.2.2
          have lv19 := Gv19.1
          refine zwW_p [(12, 0, 0)] (q := 71) (ls' := [(2, 1), (0, v2), (0, v2L6), (0, v3L6), (2, v9), (0, v15)]) (st' := [(2, v19), (2, v19)]) (by decide +kernel) rfl ?_
          refine zwX_gi Ch14 (kd := 11) (bn := 3) (n := 17) (nx := 74) (by decide +kernel) Gv19.2.1 Gv19.1 rfl ?_
          intro v20 ev20 lv20 uv20
          refine zwW_p [(1, 5, 0), (1, 4, 2)] (q := 78) (ls' := [(2, 1), (0, v2), (0, v2L6), (0, v3L6), (2, v9), (0, v15)]) (st' := [(2, v9), (0, v15), (0, v20), (2, v19)]) (by decide +kernel) rfl ?_
          refine zwX_gi Ch14 (kd := 4) (bn := 7) (n := 19) (nx := 81) (by decide +kernel) Gh14_0.2.1 Gh14_0.1 rfl ?_
          intro v21 ev21 lv21 uv21
          refine zwW_cs (k' := 151) (n := 2) (nx := 84) (as := [(0, v15), (0, v21)]) (st' := [(0, v20), (2, v19)]) (by decide +kernel) rfl (x151 h14 Ch14 v15 v21 (by omega) (by omega)) rfl ?_
          rintro v22 _ ⟨rfl, f23⟩
          refine zwW_sbw (nx := 85) (by decide +kernel) ?_
          intro v24 ev24 lv24 uv24
          have Ev24 : v24 = w32 ((fld h14 v19 3) - v22) := by rw [ev24, ev20]
          refine zwX_pi Ch14 (kd := 11) (bn := 3) (n := 17) (nx := 88) (by decide +kernel) Gv19.2.1 Gv19.1 (by first | omega | exact ⟨by omega, by omega⟩) ?_
          rintro h25 eh25 Ch25 Qh25
          have Xh25 : zXR msx185 (0) (0) h h25 := Xh14.tr (c2 := 0) (s2 := 0) Qh25 (by decide +kernel) (by decide) (by decide)
          have Gh25_0 : gH h25 v9 := Gh14_0.x Qh25
          have th25_4_2 : fld h25 4 2 = fld h14 4 2 := Qh25.f (a1 := 4) (a2 := 4) (j1 := 2) (j2 := 3) (by decide +kernel) (by first | decide | exact ⟨by decide, by decide⟩) (by first | decide | exact ⟨by decide, by decide⟩) (by first | decide | exact ⟨by decide, by decide⟩)
          refine zwW_p [(1, 0, 2)] (q := 89) (ls' := [(2, 1), (0, v2), (0, v2L6), (0, v3L6), (2, v9), (0, v15)]) (st' := [(2, 1)]) (by decide +kernel) rfl ?_
          refine zwW_gc Ch25.1 (kd := 12) (bn := 4) (n := 13) (c := 4) (nx := 92) (by decide +kernel) ?_
          refine zwW_new (kd := 6) (n := 7) (nx := 95) (by decide +kernel) rfl rfl ?_
          rintro h26 r27 eh26 er27
          have Oh26 : zOld h25 h26 := by rw [eh26]; exact zOld.app _
          have Yh26 : zDy h26 := by rw [eh26]; exact Ch25.2.1.app (fun x hx => by rw [List.eq_of_mem_replicate hx]; decide)
          have Ch26 : CI h26 := Ch25.old Oh26 Yh26
          have Xh26 := Oh26.X Ch25
          have th26_4_2 : fld h26 4 2 = fld h25 4 2 := Xh26.f (a1 := 4) (a2 := 4) (j1 := 2) (j2 := 3) (by decide +kernel) (by first | decide | exact ⟨by decide, by decide⟩) (by first | decide | exact ⟨by decide, by decide⟩) (by first | decide | exact ⟨by decide, by decide⟩)
          have Gh26_0 : gH h26 v9 := Gh25_0.x Xh26
          refine zwW_p [(12, 0, 0), (1, 0, 2)] (q := 97) (ls' := [(2, 1), (0, v2), (0, v2L6), (0, v3L6), (2, v9), (0, v15)]) (st' := [(2, 1), (2, r27), (2, r27), (2, 4)]) (by decide +kernel) rfl ?_
          refine zwW_gc Ch26.1 (kd := 12) (bn := 4) (n := 13) (c := 4) (nx := 100) (by decide +kernel) ?_
          refine zwW_cm Ch26.1 (op := 60) (k' := 96) (n := 0) (kd := 0) (m := 3) (nx := 103) (r := 4) (tl := []) (st' := [(2, r27), (2, r27), (2, 4)]) (by decide +kernel) rfl (by decide +kernel) rfl (x96_4 Ch26) ?_
          rintro v28 _ ⟨rfl, ev28⟩
          have bv28 := zLb_4 Ch26
          refine zwW_p [(1, 4, 2), (1, 0, 2)] (q := 106) (ls' := [(2, 1), (0, v2), (0, v2L6), (0, v3L6), (2, v9), (0, v15)]) (st' := [(2, 1), (2, v9), (0, v28), (2, r27), (2, r27), (2, 4)]) (by decide +kernel) rfl ?_
          refine zwW_gs Ch26.1 (kd := 12) (bn := 0) (n := 13) (t := 0) (lo := 0) (hi := 156) (nx := 109) (by decide +kernel) ?_
          intro v29 ev29 lv29 uv29
          refine zwW_p [(1, 5, 0)] (q := 111) (ls' := [(2, 1), (0, v2), (0, v2L6), (0, v3L6), (2, v9), (0, v15)]) (st' := [(0, v15), (0, v29), (2, v9), (0, v28), (2, r27), (2, r27), (2, 4)]) (by decide +kernel) rfl ?_
          subst er27 eh26
          refine zwW_cvv (op := 62) (k' := 231) (n := 4) (kd := 6) (m := 7) (nx := 114) (r := ((h25.length + 1 : Nat) : Int)) (tl := [(0, v28), (2, v9), (0, v29), (0, v15)]) (st' := [(2, ((h25.length + 1 : Nat) : Int)), (2, 4)]) (by decide +kernel) rfl (by decide +kernel) (sh_new _ _) (x231 h25 Ch25 v28 v9 v29 v15 (by omega) (by omega) (by omega) Gh25_0 (fun g O Cg => x169 g Cg v9 (Gh25_0.x (O.X Ch25)))) rfl ?_
          rintro h30 ⟨Ch30, Qh30, Nh30, Fh30_0⟩
          obtain ⟨nr27, err27⟩ : ∃ z, z = ((h25.length + 1 : Nat) : Int) := ⟨_, rfl⟩
          rw [← err27] at Nh30 ⊢
          try rw [← err27] at Fh30_0
          have Xh30 : zXR msx185 (1) (7) h h30 := Xh25.tr (c2 := 1) (s2 := 7) Qh30 (by decide +kernel) (by decide) (by decide)
          have Gh30_0 : gH h30 v9 := Gh25_0.x Qh30
          have th30_4_2 : fld h30 4 2 = fld h25 4 2 := Qh30.f (a1 := 4) (a2 := 4) (j1 := 2) (j2 := 3) (by decide +kernel) (by first | decide | exact ⟨by decide, by decide⟩) (by first | decide | exact ⟨by decide, by decide⟩) (by first | decide | exact ⟨by decide, by decide⟩)
          have lnr27 := Nh30.1
          refine zwW_cm Ch30.1 (op := 60) (k' := 100) (n := 1) (kd := 0) (m := 3) (nx := 117) (r := 4) (tl := [(2, nr27)]) (st' := []) (by decide +kernel) rfl (by decide +kernel) rfl (x100_4 Ch30 Nh30 (by omega) (by have := Xh30.hl C Ch30 (by decide) hl; omega)) ?_
          rintro x h32 ⟨rfl, Ah32⟩
          have Ch32 := Ah32.1
          have Qh32 : zXR [(4, 4, 0, 3)] (-1) (-7) h30 h32 := Ah32.2.1
          have zh32 : fld h32 4 2 = fld h30 4 2 + 1 := Ah32.2.2.1
          have Xh32 : zXR msx185 (0) (0) h h32 := Xh30.tr (c2 := 0) (s2 := 0) Qh32 (by decide +kernel) (by decide) (by decide)
          have Gh32_0 : gH h32 v9 := Gh30_0.x Qh32
          refine zwW_p [(15, 0, 0), (1, 2, 0), (1, 5, 0)] (q := 121) (ls' := [(2, 1), (0, v2), (0, v2L6), (0, v3L6), (2, v9), (0, v15)]) (st' := [(0, v15), (0, v2L6)]) (by decide +kernel) rfl ?_
          refine zwW_adw (nx := 122) (by decide +kernel) ?_
          intro v33 ev33 lv33 uv33
          refine zwW_p [(2, 2, 0)] (q := 123) (ls' := [(2, 1), (0, v2), (0, v33), (0, v3L6), (2, v9), (0, v15)]) (st' := []) (by decide +kernel) rfl ?_
          refine zwW_inc (i := 3) (c := 1) (x := v3L6) (nx := 126) (by decide +kernel) rfl (by first | omega | exact ⟨by omega, by omega⟩) (ls' := [(2, 1), (0, v2), (0, v33), (0, (v3L6 + 1)), (2, v9), (0, v15)]) rfl ?_
          refine zwW_p [(24, 12, 0)] (q := 12) (ls' := [(2, 1), (0, v2), (0, v33), (0, (v3L6 + 1)), (2, v9), (0, v15)]) (st' := []) (by decide +kernel) rfl ?_
          exact IHL6 ((1000 - (v3L6 + 1))).toNat (by omega) v33 (v3L6 + 1) (2, v9) (0, v15) h32 rfl (by omega) (by omega) Ch32 (Xh32.le (by decide) (by decide))
  exact L6 _ 0 0 (9, 0) (9, 0) h rfl (by omega) (by omega) C (X.le (by decide) (by decide))
def msx186 : Zms := [(1, 1, 1, 2), (17, 17, 0, 13), (18, 18, 0, 400), (1004, 1004, 6, 7), (1004, 1004, 8, 9), (1004, 1004, 9, 10), (1004, 1004, 10, 11), (1011, 1011, 5, 6), (1011, 1011, 6, 7), (1011, 1011, 7, 8), (1011, 1011, 10, 11), (1011, 1011, 13, 14), (1011, 1011, 14, 15)]
-- WheelLand.buyAll()V
theorem x186 {sc : List Int} (h : Hp) (C : CI h) : zwC sc 5 186 [(2, 1)] h (zwRv (fun g => CI g ∧ zXR msx186 (0) (0) h g)) := by
  refine zwC_of (D := 4) 3 (by decide +kernel) rfl (ls := [(2, 1), (9, 0), (9, 0)]) rfl ?_
  have X : zXR msx186 0 0 h h := zXR.rf _ _
  refine zwW_p [(0, 0, 0), (2, 1, 0)] (q := 2) (ls' := [(2, 1), (0, 0), (9, 0)]) (st' := []) (by decide +kernel) rfl ?_
  have L1 : ∀ (n : Nat) (v1L1 : Int) (w2L1 : Vl) (hL1 : Hp), n = ((1000 - v1L1)).toNat → (0 ≤ v1L1 ∧ v1L1 ≤ 1000) → CI hL1 → zXR msx186 (0) (0) h hL1 → zwW sc (4) 186 2 [(2, 1), (0, v1L1), w2L1] [] hL1 (zwRv (fun g => CI g ∧ zXR msx186 (0) (0) h g)) := by
    intro n
    induction n using Nat.strongRecOn with
    | ind n IHL1 =>
      intro v1L1 w2L1 hL1 hnL1 iL1_0 ChL1 XhL1
      refine zwW_p [(1, 1, 0), (1, 0, 2)] (q := 4) (ls' := [(2, 1), (0, v1L1), w2L1]) (st' := [(2, 1), (0, v1L1)]) (by decide +kernel) rfl ?_
      refine zwW_gc ChL1.1 (kd := 12) (bn := 3) (n := 13) (c := 3) (nx := 7) (by decide +kernel) ?_
      refine zwW_cm ChL1.1 (op := 60) (k' := 96) (n := 0) (kd := 0) (m := 3) (nx := 10) (r := 3) (tl := []) (st' := [(0, v1L1)]) (by decide +kernel) rfl (by decide +kernel) rfl (x96_3 ChL1) ?_
      rintro v2 _ ⟨rfl, ev2⟩
      have bv2 := zLb_3 ChL1
      refine zwic_ge (q := 58) (nx := 13) (by decide +kernel) (fun c3 => ?_) (fun c3 => ?_)
      · refine zwW_retv (nx := 59) (a := 0) (b := 0) (by decide +kernel) ?_
        exact ⟨ChL1, XhL1.le (by decide) (by decide)⟩
      · refine zwW_p [(1, 0, 2)] (q := 14) (ls' := [(2, 1), (0, v1L1), w2L1]) (st' := [(2, 1)]) (by decide +kernel) rfl ?_
        refine zwW_gc ChL1.1 (kd := 12) (bn := 3) (n := 13) (c := 3) (nx := 17) (by decide +kernel) ?_
        refine zwW_p [(1, 1, 0)] (q := 18) (ls' := [(2, 1), (0, v1L1), w2L1]) (st' := [(0, v1L1), (2, 3)]) (by decide +kernel) rfl ?_
        refine zwW_cm ChL1.1 (op := 60) (k' := 123) (n := 1) (kd := 0) (m := 3) (nx := 21) (r := 3) (tl := [(0, v1L1)]) (st' := []) (by decide +kernel) rfl (by decide +kernel) rfl (x123_3 ChL1 (i := v1L1) (by first | omega | exact ⟨by omega, by omega⟩)) ?_
        rintro v4 _ ⟨rfl, Gv4, ev4⟩
        have lv4 := Gv4.1
        refine zwW_cast (a := 4) (kd := 4) (n := 19) (nx := 24) (by decide +kernel) rfl (Or.inr Gv4.2.1) ?_
        refine zwW_p [(2, 2, 2), (1, 0, 2)] (q := 26) (ls' := [(2, 1), (0, v1L1), (2, v4)]) (st' := [(2, 1)]) (by decide +kernel) rfl ?_
        refine zwW_gs ChL1.1 (kd := 12) (bn := 0) (n := 13) (t := 0) (lo := 0) (hi := 156) (nx := 29) (by decide +kernel) ?_
        intro v5 ev5 lv5 uv5
        refine zwW_p [(1, 2, 2)] (q := 30) (ls' := [(2, 1), (0, v1L1), (2, v4)]) (st' := [(2, v4), (0, v5)]) (by decide +kernel) rfl ?_
        refine zwX_gi ChL1 (kd := 4) (bn := 5) (n := 19) (nx := 33) (by decide +kernel) Gv4.2.1 Gv4.1 rfl ?_
        intro v6 ev6 lv6 uv6
        refine zwW_adw (nx := 34) (by decide +kernel) ?_
        intro v7 ev7 lv7 uv7
        have Ev7 : v7 = w32 (v5 + (fld hL1 v4 5)) := by rw [ev7, ev6]
        refine zwW_p [(0, 4, 0)] (q := 35) (ls' := [(2, 1), (0, v1L1), (2, v4)]) (st' := [(0, 4), (0, v7)]) (by decide +kernel) rfl ?_
        refine zwW_tmw (nx := 36) (by decide +kernel) (by first | omega | exact ⟨by omega, by omega⟩) (by omega) ?_
        intro v8 ev8 lv8 uv8
        refine zwif_ne (q := 52) (nx := 39) (by decide +kernel) (fun c9 => ?_) (fun c9 => ?_)
        · refine zwW_inc (i := 1) (c := 1) (x := v1L1) (nx := 55) (by decide +kernel) rfl (by first | omega | exact ⟨by omega, by omega⟩) (ls' := [(2, 1), (0, (v1L1 + 1)), (2, v4)]) rfl ?_
          refine zwW_p [(24, 2, 0)] (q := 2) (ls' := [(2, 1), (0, (v1L1 + 1)), (2, v4)]) (st' := []) (by decide +kernel) rfl ?_
          exact IHL1 ((1000 - (v1L1 + 1))).toNat (by omega) (v1L1 + 1) (2, v4) hL1 rfl (by omega) ChL1 (XhL1.le (by decide) (by decide))
        · refine zwW_p [(1, 0, 2), (1, 2, 2), (1, 0, 2), (1, 2, 2)] (q := 43) (ls' := [(2, 1), (0, v1L1), (2, v4)]) (st' := [(2, v4), (2, 1), (2, v4), (2, 1)]) (by decide +kernel) rfl ?_
          refine zwW_get (kd := 4) (bn := 1) (t := 2) (n := 19) (nx := 46) (by decide +kernel) Gv4.2.1 rfl ?_
          obtain ⟨v10, ev10⟩ : ∃ z, z = fld hL1 v4 1 := ⟨_, rfl⟩
          rw [← ev10]
          have Gv10 : gV hL1 v10 := by rw [ev10]; exact Gv4.2.2
          have lv10 := Gv10.1
          refine zwW_cm ChL1.1 (op := 60) (k' := 153) (n := 1) (kd := 12) (m := 13) (nx := 49) (r := 1) (tl := [(2, v10)]) (st' := [(2, v4), (2, 1)]) (by decide +kernel) rfl (by decide +kernel) rfl (x153 hL1 ChL1 v10 Gv10) ?_
          rintro v12 h13 ⟨Ch13, Qh13, f11⟩
          have Xh13 : zXR msx186 (0) (0) h h13 := XhL1.tr (c2 := 0) (s2 := 0) Qh13 (by decide +kernel) (by decide) (by decide)
          have Gh13_0 : gH h13 v4 := Gv4.x Qh13
          refine zwW_cmv Ch13.1 (op := 60) (k' := 232) (n := 2) (kd := 12) (m := 13) (nx := 52) (r := 1) (tl := [(2, v4), (0, v12)]) (st' := []) (by decide +kernel) rfl (by decide +kernel) rfl (x232 h13 Ch13 v4 v12 Gh13_0 (by omega)) ?_
          rintro h14 ⟨Ch14, Qh14⟩
          have Xh14 : zXR msx186 (0) (0) h h14 := Xh13.tr (c2 := 0) (s2 := 0) Qh14 (by decide +kernel) (by decide) (by decide)
          have Gh14_0 : gH h14 v4 := Gh13_0.x Qh14
          refine zwW_inc (i := 1) (c := 1) (x := v1L1) (nx := 55) (by decide +kernel) rfl (by first | omega | exact ⟨by omega, by omega⟩) (ls' := [(2, 1), (0, (v1L1 + 1)), (2, v4)]) rfl ?_
          refine zwW_p [(24, 2, 0)] (q := 2) (ls' := [(2, 1), (0, (v1L1 + 1)), (2, v4)]) (st' := []) (by decide +kernel) rfl ?_
          exact IHL1 ((1000 - (v1L1 + 1))).toNat (by omega) (v1L1 + 1) (2, v4) h14 rfl (by omega) Ch14 (Xh14.le (by decide) (by decide))
  exact L1 _ 0 (9, 0) h rfl (by omega) C (X.le (by decide) (by decide))
def msx187 : Zms := [(36, 36, 0, 8), (1011, 1011, 4, 5)]
-- WheelLand.spreadWord()V
theorem x187 {sc : List Int} (h : Hp) (C : CI h) : zwC sc 5 187 [(2, 1)] h (zwRv (fun g => CI g ∧ zXR msx187 (0) (0) h g)) := by
  refine zwC_of (D := 4) 5 (by decide +kernel) rfl (ls := [(2, 1), (9, 0), (9, 0), (9, 0), (9, 0)]) rfl ?_
  have X : zXR msx187 0 0 h h := zXR.rf _ _
  refine zwW_p [(1, 0, 2)] (q := 1) (ls' := [(2, 1), (9, 0), (9, 0), (9, 0), (9, 0)]) (st' := [(2, 1)]) (by decide +kernel) rfl ?_
  refine zwW_gc C.1 (kd := 12) (bn := 2) (n := 13) (c := 2) (nx := 4) (by decide +kernel) ?_
  refine zwW_cm C.1 (op := 60) (k' := 96) (n := 0) (kd := 0) (m := 3) (nx := 7) (r := 2) (tl := []) (st' := []) (by decide +kernel) rfl (by decide +kernel) rfl (x96_2 C) ?_
  rintro v1 _ ⟨rfl, ev1⟩
  have bv1 := zLb_2 C
  refine zwW_p [(1, 0, 2)] (q := 8) (ls' := [(2, 1), (9, 0), (9, 0), (9, 0), (9, 0)]) (st' := [(2, 1), (0, v1)]) (by decide +kernel) rfl ?_
  refine zwW_gc C.1 (kd := 12) (bn := 12) (n := 13) (c := 36) (nx := 11) (by decide +kernel) ?_
  refine zwW_len (kd := 20) (n := 8) (nx := 12) (by decide +kernel) (C.1.s (a1 := 36) (a2 := 36) (by decide +kernel) (by omega) (by omega)) rfl ?_
  refine zwW_min (nx := 15) (by decide +kernel) rfl ?_
  intro v2 ev2
  refine zwW_p [(2, 1, 0), (0, 0, 0), (2, 2, 0)] (q := 18) (ls' := [(2, 1), (0, v2), (0, 0), (9, 0), (9, 0)]) (st' := []) (by decide +kernel) rfl ?_
  have L3 : ∀ (n : Nat) (v2L3 : Int) (hL3 : Hp), n = ((1000 - v2L3)).toNat → (fld hL3 2 2 = fld h 2 2) → (0 ≤ v2L3 ∧ v2L3 ≤ 1000) → CI hL3 → zXR msx187 (0) (0) h hL3 → zwW sc (4) 187 18 [(2, 1), (0, v2), (0, v2L3), (9, 0), (9, 0)] [] hL3 (zwRv (fun g => CI g ∧ zXR msx187 (0) (0) h g)) := by
    intro n
    induction n using Nat.strongRecOn with
    | ind n IHL3 =>
      intro v2L3 hL3 hnL3 iL3_0 iL3_1 ChL3 XhL3
      refine zwW_p [(1, 2, 0), (1, 1, 0)] (q := 20) (ls' := [(2, 1), (0, v2), (0, v2L3), (9, 0), (9, 0)]) (st' := [(0, v2), (0, v2L3)]) (by decide +kernel) rfl ?_
      refine zwic_ge (q := 49) (nx := 23) (by decide +kernel) (fun c4 => ?_) (fun c4 => ?_)
      · refine zwW_p [(0, 0, 0), (2, 2, 0)] (q := 51) (ls' := [(2, 1), (0, v2), (0, 0), (9, 0), (9, 0)]) (st' := []) (by decide +kernel) rfl ?_
        have L5 : ∀ (n : Nat) (v2L5 : Int) (w3L5 w4L5 : Vl) (hL5 : Hp), n = ((1000 - v2L5)).toNat → (fld hL5 2 2 = fld h 2 2) → (0 ≤ v2L5 ∧ v2L5 ≤ 1000) → CI hL5 → zXR msx187 (0) (0) h hL5 → zwW sc (4) 187 51 [(2, 1), (0, v2), (0, v2L5), w3L5, w4L5] [] hL5 (zwRv (fun g => CI g ∧ zXR msx187 (0) (0) h g)) := by
          intro n
          induction n using Nat.strongRecOn with
          | ind n IHL5 =>
            intro v2L5 w3L5 w4L5 hL5 hnL5 iL5_0 iL5_1 ChL5 XhL5
            refine zwW_p [(1, 2, 0), (1, 1, 0)] (q := 53) (ls' := [(2, 1), (0, v2), (0, v2L5), w3L5, w4L5]) (st' := [(0, v2), (0, v2L5)]) (by decide +kernel) rfl ?_
            refine zwic_ge (q := 132) (nx := 56) (by decide +kernel) (fun c6 => ?_) (fun c6 => ?_)
            · refine zwW_retv (nx := 133) (a := 0) (b := 0) (by decide +kernel) ?_
              exact ⟨ChL5, XhL5.le (by decide) (by decide)⟩
            · refine zwW_p [(1, 0, 2)] (q := 57) (ls' := [(2, 1), (0, v2), (0, v2L5), w3L5, w4L5]) (st' := [(2, 1)]) (by decide +kernel) rfl ?_
              refine zwW_gc ChL5.1 (kd := 12) (bn := 12) (n := 13) (c := 36) (nx := 60) (by decide +kernel) ?_
              refine zwW_p [(1, 2, 0)] (q := 61) (ls' := [(2, 1), (0, v2), (0, v2L5), w3L5, w4L5]) (st' := [(0, v2L5), (2, 36)]) (by decide +kernel) rfl ?_
              refine zwW_al ChL5.1 (a1 := 36) (a2 := 36) (kd := 20) (n := 8) (t := 0) (lo := -2147483648) (hi := 2147483647) (nx := 62) (by decide +kernel) (by first | decide | exact ⟨by decide, by decide⟩) (by first | omega | exact ⟨by omega, by omega⟩) ?_
              intro v7 ev7 lv7 uv7
              refine zwW_p [(0, 1, 0)] (q := 63) (ls' := [(2, 1), (0, v2), (0, v2L5), w3L5, w4L5]) (st' := [(0, 1), (0, v7)]) (by decide +kernel) rfl ?_
              refine zwW_sbw (nx := 64) (by decide +kernel) ?_
              intro v8 ev8 lv8 uv8
              refine zwW_p [(0, 0, 0)] (q := 65) (ls' := [(2, 1), (0, v2), (0, v2L5), w3L5, w4L5]) (st' := [(0, 0), (0, v8)]) (by decide +kernel) rfl ?_
              refine zwW_max (nx := 68) (by decide +kernel) rfl ?_
              intro v9 ev9
              refine zwW_p [(2, 3, 0), (0, 0, 0), (2, 4, 0)] (q := 72) (ls' := [(2, 1), (0, v2), (0, v2L5), (0, v9), (0, 0)]) (st' := []) (by decide +kernel) rfl ?_
              have L10 : ∀ (n : Nat) (v3L10 v4L10 : Int) (hL10 : Hp), n = ((1000 - v4L10)).toNat → (fld hL10 2 2 = fld h 2 2) → (-2147483648 ≤ v3L10 ∧ v3L10 ≤ 2147483647) → (0 ≤ v4L10 ∧ v4L10 ≤ 1000) → CI hL10 → zXR msx187 (0) (0) h hL10 → zwW sc (4) 187 72 [(2, 1), (0, v2), (0, v2L5), (0, v3L10), (0, v4L10)] [] hL10 (zwRv (fun g => CI g ∧ zXR msx187 (0) (0) h g)) := by
                intro n
                induction n using Nat.strongRecOn with
                | ind n IHL10 =>
                  intro v3L10 v4L10 hL10 hnL10 iL10_0 iL10_1 iL10_2 ChL10 XhL10
                  refine zwW_p [(1, 4, 0), (1, 1, 0)] (q := 75) (ls' := [(2, 1), (0, v2), (0, v2L5), (0, v3L10), (0, v4L10)]) (st' := [(0, v2), (0, v4L10)]) (by decide +kernel) rfl ?_
                  refine zwic_ge (q := 111) (nx := 78) (by decide +kernel) (fun c11 => ?_) (fun c11 => ?_)
                  · refine zwW_p [(1, 0, 2)] (q := 112) (ls' := [(2, 1), (0, v2), (0, v2L5), (0, v3L10), (0, v4L10)]) (st' := [(2, 1)]) (by decide +kernel) rfl ?_
                    refine zwW_gc ChL10.1 (kd := 12) (bn := 2) (n := 13) (c := 2) (nx := 115) (by decide +kernel) ?_
                    refine zwW_p [(1, 2, 0)] (q := 116) (ls' := [(2, 1), (0, v2), (0, v2L5), (0, v3L10), (0, v4L10)]) (st' := [(0, v2L5), (2, 2)]) (by decide +kernel) rfl ?_
                    refine zwW_cm ChL10.1 (op := 60) (k' := 123) (n := 1) (kd := 0) (m := 3) (nx := 119) (r := 2) (tl := [(0, v2L5)]) (st' := []) (by decide +kernel) rfl (by decide +kernel) rfl (x123_2 ChL10 (i := v2L5) (by first | omega | exact ⟨by omega, by omega⟩)) ?_
                    rintro v12 _ ⟨rfl, Gv12, ev12⟩
                    have lv12 := Gv12.1
                    refine zwW_cast (a := 11) (kd := 11) (n := 17) (nx := 122) (by decide +kernel) rfl (Or.inr Gv12.2.1) ?_
                    refine zwW_p [(1, 3, 0)] (q := 123) (ls' := [(2, 1), (0, v2), (0, v2L5), (0, v3L10), (0, v4L10)]) (st' := [(0, v3L10), (2, v12)]) (by decide +kernel) rfl ?_
                    refine zwX_pi ChL10 (kd := 11) (bn := 4) (n := 17) (nx := 126) (by decide +kernel) Gv12.2.1 Gv12.1 (by first | omega | exact ⟨by omega, by omega⟩) ?_
                    rintro h13 eh13 Ch13 Qh13
                    have Xh13 : zXR msx187 (0) (0) h h13 := XhL10.tr (c2 := 0) (s2 := 0) Qh13 (by decide +kernel) (by decide) (by decide)
                    have th13_2_2 : fld h13 2 2 = fld hL10 2 2 := Qh13.f (a1 := 2) (a2 := 2) (j1 := 2) (j2 := 3) (by decide +kernel) (by first | decide | exact ⟨by decide, by decide⟩) (by first | decide | exact ⟨by decide, by decide⟩) (by first | decide | exact ⟨by decide, by decide⟩)
                    refine zwW_inc (i := 2) (c := 1) (x := v2L5) (nx := 129) (by decide +kernel) rfl (by first | omega | exact ⟨by omega, by omega⟩) (ls' := [(2, 1), (0, v2), (0, (v2L5 + 1)), (0, v3L10), (0, v4L10)]) rfl ?_
                    refine zwW_p [(24, 51, 0)] (q := 51) (ls' := [(2, 1), (0, v2), (0, (v2L5 + 1)), (0, v3L10), (0, v4L10)]) (st' := []) (by decide +kernel) rfl ?_
                    exact IHL5 ((1000 - (v2L5 + 1))).toNat (by omega) (v2L5 + 1) (0, v3L10) (0, v4L10) h13 rfl (by omega) (by omega) Ch13 (Xh13.le (by decide) (by decide))
                  · refine zwW_p [(1, 0, 2)] (q := 79) (ls' := [(2, 1), (0, v2), (0, v2L5), (0, v3L10), (0, v4L10)]) (st' := [(2, 1)]) (by decide +kernel) rfl ?_
                    refine zwW_gc ChL10.1 (kd := 12) (bn := 6) (n := 13) (c := 6) (nx := 82) (by decide +kernel) ?_
                    refine zwW_p [(1, 2, 0), (1, 4, 0)] (q := 85) (ls' := [(2, 1), (0, v2), (0, v2L5), (0, v3L10), (0, v4L10)]) (st' := [(0, v4L10), (0, v2L5), (2, 6)]) (by decide +kernel) rfl ?_
                    refine zwW_cm ChL10.1 (op := 60) (k' := 233) (n := 2) (kd := 8) (m := 2) (nx := 88) (r := 6) (tl := [(0, v2L5), (0, v4L10)]) (st' := []) (by decide +kernel) rfl (by decide +kernel) rfl (x233 hL10 ChL10 v2L5 v4L10 (by omega) (by omega)) ?_
                    rintro x _ ⟨rfl, ⟨rfl, c14⟩ | ⟨rfl, c14⟩⟩
                    · refine zwif_eq (q := 105) (nx := 91) (by decide +kernel) (fun c15 => ?_) (fun c15 => ?_)
                      · exfalso; omega
                      · refine zwW_p [(1, 3, 0), (1, 0, 2)] (q := 93) (ls' := [(2, 1), (0, v2), (0, v2L5), (0, v3L10), (0, v4L10)]) (st' := [(2, 1), (0, v3L10)]) (by decide +kernel) rfl ?_
                        refine zwW_gc ChL10.1 (kd := 12) (bn := 12) (n := 13) (c := 36) (nx := 96) (by decide +kernel) ?_
                        refine zwW_p [(1, 4, 0)] (q := 98) (ls' := [(2, 1), (0, v2), (0, v2L5), (0, v3L10), (0, v4L10)]) (st' := [(0, v4L10), (2, 36), (0, v3L10)]) (by decide +kernel) rfl ?_
                        refine zwW_al ChL10.1 (a1 := 36) (a2 := 36) (kd := 20) (n := 8) (t := 0) (lo := -2147483648) (hi := 2147483647) (nx := 99) (by decide +kernel) (by first | decide | exact ⟨by decide, by decide⟩) (by first | omega | exact ⟨by omega, by omega⟩) ?_
                        intro v16 ev16 lv16 uv16
                        refine zwW_p [(0, 2, 0)] (q := 100) (ls' := [(2, 1), (0, v2), (0, v2L5), (0, v3L10), (0, v4L10)]) (st' := [(0, 2), (0, v16), (0, v3L10)]) (by decide +kernel) rfl ?_
                        refine zwW_sbw (nx := 101) (by decide +kernel) ?_
                        intro v17 ev17 lv17 uv17
                        refine zwW_max (nx := 104) (by decide +kernel) rfl ?_
                        intro v18 ev18
                        refine zwW_p [(2, 3, 0)] (q := 105) (ls' := [(2, 1), (0, v2), (0, v2L5), (0, v18), (0, v4L10)]) (st' := []) (by decide +kernel) rfl ?_
                        refine zwW_inc (i := 4) (c := 1) (x := v4L10) (nx := 108) (by decide +kernel) rfl (by first | omega | exact ⟨by omega, by omega⟩) (ls' := [(2, 1), (0, v2), (0, v2L5), (0, v18), (0, (v4L10 + 1))]) rfl ?_
                        refine zwW_p [(24, 72, 0)] (q := 72) (ls' := [(2, 1), (0, v2), (0, v2L5), (0, v18), (0, (v4L10 + 1))]) (st' := []) (by decide +kernel) rfl ?_
                        exact IHL10 ((1000 - (v4L10 + 1))).toNat (by omega) v18 (v4L10 + 1) hL10 rfl (by omega) (by omega) (by omega) ChL10 (XhL10.le (by decide) (by decide))
                    · refine zwif_eq (q := 105) (nx := 91) (by decide +kernel) (fun c19 => ?_) (fun c19 => ?_)
                      · refine zwW_inc (i := 4) (c := 1) (x := v4L10) (nx := 108) (by decide +kernel) rfl (by first | omega | exact ⟨by omega, by omega⟩) (ls' := [(2, 1), (0, v2), (0, v2L5), (0, v3L10), (0, (v4L10 + 1))]) rfl ?_
                        refine zwW_p [(24, 72, 0)] (q := 72) (ls' := [(2, 1), (0, v2), (0, v2L5), (0, v3L10), (0, (v4L10 + 1))]) (st' := []) (by decide +kernel) rfl ?_
                        exact IHL10 ((1000 - (v4L10 + 1))).toNat (by omega) v3L10 (v4L10 + 1) hL10 rfl (by omega) (by omega) (by omega) ChL10 (XhL10.le (by decide) (by decide))
                      · exfalso; omega
              exact L10 _ v9 0 hL5 rfl (by omega) (by omega) (by omega) ChL5 (XhL5.le (by decide) (by decide))
        exact L5 _ 0 (9, 0) (9, 0) hL3 rfl (by omega) (by omega) ChL3 (XhL3.le (by decide) (by decide))
      · refine zwW_p [(1, 0, 2)] (q := 24) (ls' := [(2, 1), (0, v2), (0, v2L3), (9, 0), (9, 0)]) (st' := [(2, 1)]) (by decide +kernel) rfl ?_
        refine zwW_gc ChL3.1 (kd := 12) (bn := 12) (n := 13) (c := 36) (nx := 27) (by decide +kernel) ?_
        refine zwW_p [(1, 2, 0), (1, 0, 2)] (q := 29) (ls' := [(2, 1), (0, v2), (0, v2L3), (9, 0), (9, 0)]) (st' := [(2, 1), (0, v2L3), (2, 36)]) (by decide +kernel) rfl ?_
        refine zwW_gc ChL3.1 (kd := 12) (bn := 2) (n := 13) (c := 2) (nx := 32) (by decide +kernel) ?_
        refine zwW_p [(1, 2, 0)] (q := 33) (ls' := [(2, 1), (0, v2), (0, v2L3), (9, 0), (9, 0)]) (st' := [(0, v2L3), (2, 2), (0, v2L3), (2, 36)]) (by decide +kernel) rfl ?_
        refine zwW_cm ChL3.1 (op := 60) (k' := 123) (n := 1) (kd := 0) (m := 3) (nx := 36) (r := 2) (tl := [(0, v2L3)]) (st' := [(0, v2L3), (2, 36)]) (by decide +kernel) rfl (by decide +kernel) rfl (x123_2 ChL3 (i := v2L3) (by first | omega | exact ⟨by omega, by omega⟩)) ?_
        rintro v20 _ ⟨rfl, Gv20, ev20⟩
        have lv20 := Gv20.1
        refine zwW_cast (a := 11) (kd := 11) (n := 17) (nx := 39) (by decide +kernel) rfl (Or.inr Gv20.2.1) ?_
        refine zwX_gi ChL3 (kd := 11) (bn := 4) (n := 17) (nx := 42) (by decide +kernel) Gv20.2.1 Gv20.1 rfl ?_
        intro v21 ev21 lv21 uv21
        refine zwW_as ChL3.1 (a1 := 36) (a2 := 36) (n := 8) (lo := -2147483648) (hi := 2147483647) (nx := 43) (by decide +kernel) (by first | decide | exact ⟨by decide, by decide⟩) (by first | omega | exact ⟨by omega, by omega⟩) (by first | omega | exact ⟨by omega, by omega⟩) ?_
        intro h22 eh22 Ih22
        have Ch22 : CI h22 := ChL3.wc eh22 Ih22 (by decide) (by decide)
        have Qh22 : zXR [(36, 36, 0, 8)] 0 0 hL3 h22 := zXR.wc eh22 rfl ⟨by decide, by decide, Or.inl (by decide)⟩ (by first | omega | exact ⟨by omega, by omega⟩)
        have Xh22 : zXR msx187 (0) (0) h h22 := XhL3.tr (c2 := 0) (s2 := 0) Qh22 (by decide +kernel) (by decide) (by decide)
        have th22_2_2 : fld h22 2 2 = fld hL3 2 2 := Qh22.f (a1 := 2) (a2 := 2) (j1 := 2) (j2 := 3) (by decide +kernel) (by first | decide | exact ⟨by decide, by decide⟩) (by first | decide | exact ⟨by decide, by decide⟩) (by first | decide | exact ⟨by decide, by decide⟩)
        refine zwW_inc (i := 2) (c := 1) (x := v2L3) (nx := 46) (by decide +kernel) rfl (by first | omega | exact ⟨by omega, by omega⟩) (ls' := [(2, 1), (0, v2), (0, (v2L3 + 1)), (9, 0), (9, 0)]) rfl ?_
        refine zwW_p [(24, 18, 0)] (q := 18) (ls' := [(2, 1), (0, v2), (0, (v2L3 + 1)), (9, 0), (9, 0)]) (st' := []) (by decide +kernel) rfl ?_
        exact IHL3 ((1000 - (v2L3 + 1))).toNat (by omega) (v2L3 + 1) h22 rfl (by omega) (by omega) Ch22 (Xh22.le (by decide) (by decide))
  exact L3 _ 0 h rfl (by omega) (by omega) C (X.le (by decide) (by decide))
def msx188 : Zms := [(17, 17, 0, 13), (18, 18, 0, 400), (1004, 1004, 15, 16)]
-- WheelLand.raiseDues()V
theorem x188 {sc : List Int} (h : Hp) (C : CI h) : zwC sc 5 188 [(2, 1)] h (zwRv (fun g => CI g ∧ zXR msx188 (0) (0) h g)) := by
  refine zwC_of (D := 4) 3 (by decide +kernel) rfl (ls := [(2, 1), (9, 0), (9, 0)]) rfl ?_
  have X : zXR msx188 0 0 h h := zXR.rf _ _
  refine zwW_p [(0, 0, 0), (2, 1, 0)] (q := 2) (ls' := [(2, 1), (0, 0), (9, 0)]) (st' := []) (by decide +kernel) rfl ?_
  have L1 : ∀ (n : Nat) (v1L1 : Int) (w2L1 : Vl) (hL1 : Hp), n = ((1000 - v1L1)).toNat → (0 ≤ v1L1 ∧ v1L1 ≤ 1000) → CI hL1 → zXR msx188 (0) (0) h hL1 → zwW sc (4) 188 2 [(2, 1), (0, v1L1), w2L1] [] hL1 (zwRv (fun g => CI g ∧ zXR msx188 (0) (0) h g)) := by
    intro n
    induction n using Nat.strongRecOn with
    | ind n IHL1 =>
      intro v1L1 w2L1 hL1 hnL1 iL1_0 ChL1 XhL1
      refine zwW_p [(1, 1, 0), (1, 0, 2)] (q := 4) (ls' := [(2, 1), (0, v1L1), w2L1]) (st' := [(2, 1), (0, v1L1)]) (by decide +kernel) rfl ?_
      refine zwW_gc ChL1.1 (kd := 12) (bn := 3) (n := 13) (c := 3) (nx := 7) (by decide +kernel) ?_
      refine zwW_cm ChL1.1 (op := 60) (k' := 96) (n := 0) (kd := 0) (m := 3) (nx := 10) (r := 3) (tl := []) (st' := [(0, v1L1)]) (by decide +kernel) rfl (by decide +kernel) rfl (x96_3 ChL1) ?_
      rintro v2 _ ⟨rfl, ev2⟩
      have bv2 := zLb_3 ChL1
      refine zwic_ge (q := 89) (nx := 13) (by decide +kernel) (fun c3 => ?_) (fun c3 => ?_)
      · refine zwW_retv (nx := 90) (a := 0) (b := 0) (by decide +kernel) ?_
        exact ⟨ChL1, XhL1.le (by decide) (by decide)⟩
      · refine zwW_p [(1, 0, 2)] (q := 14) (ls' := [(2, 1), (0, v1L1), w2L1]) (st' := [(2, 1)]) (by decide +kernel) rfl ?_
        refine zwW_gc ChL1.1 (kd := 12) (bn := 3) (n := 13) (c := 3) (nx := 17) (by decide +kernel) ?_
        refine zwW_p [(1, 1, 0)] (q := 18) (ls' := [(2, 1), (0, v1L1), w2L1]) (st' := [(0, v1L1), (2, 3)]) (by decide +kernel) rfl ?_
        refine zwW_cm ChL1.1 (op := 60) (k' := 123) (n := 1) (kd := 0) (m := 3) (nx := 21) (r := 3) (tl := [(0, v1L1)]) (st' := []) (by decide +kernel) rfl (by decide +kernel) rfl (x123_3 ChL1 (i := v1L1) (by first | omega | exact ⟨by omega, by omega⟩)) ?_
        rintro v4 _ ⟨rfl, Gv4, ev4⟩
        have lv4 := Gv4.1
        refine zwW_cast (a := 4) (kd := 4) (n := 19) (nx := 24) (by decide +kernel) rfl (Or.inr Gv4.2.1) ?_
        refine zwW_p [(2, 2, 2), (1, 2, 2)] (q := 26) (ls' := [(2, 1), (0, v1L1), (2, v4)]) (st' := [(2, v4)]) (by decide +kernel) rfl ?_
        refine zwX_gi ChL1 (kd := 4) (bn := 2) (n := 19) (nx := 29) (by decide +kernel) Gv4.2.1 Gv4.1 rfl ?_
        intro v5 ev5 lv5 uv5
        refine zwif_le (q := 83) (nx := 32) (by decide +kernel) (fun c6 => ?_) (fun c6 => ?_)
        · refine zwW_inc (i := 1) (c := 1) (x := v1L1) (nx := 86) (by decide +kernel) rfl (by first | omega | exact ⟨by omega, by omega⟩) (ls' := [(2, 1), (0, (v1L1 + 1)), (2, v4)]) rfl ?_
          refine zwW_p [(24, 2, 0)] (q := 2) (ls' := [(2, 1), (0, (v1L1 + 1)), (2, v4)]) (st' := []) (by decide +kernel) rfl ?_
          exact IHL1 ((1000 - (v1L1 + 1))).toNat (by omega) (v1L1 + 1) (2, v4) hL1 rfl (by omega) ChL1 (XhL1.le (by decide) (by decide))
        · refine zwW_p [(1, 0, 2)] (q := 33) (ls' := [(2, 1), (0, v1L1), (2, v4)]) (st' := [(2, 1)]) (by decide +kernel) rfl ?_
          refine zwW_gc ChL1.1 (kd := 12) (bn := 8) (n := 13) (c := 13) (nx := 36) (by decide +kernel) ?_
          refine zwW_p [(1, 0, 2)] (q := 37) (ls' := [(2, 1), (0, v1L1), (2, v4)]) (st' := [(2, 1), (2, 13)]) (by decide +kernel) rfl ?_
          refine zwW_gs ChL1.1 (kd := 12) (bn := 0) (n := 13) (t := 0) (lo := 0) (hi := 156) (nx := 40) (by decide +kernel) ?_
          intro v7 ev7 lv7 uv7
          refine zwW_cmv ChL1.1 (op := 60) (k' := 166) (n := 1) (kd := 9) (m := 6) (nx := 43) (r := 13) (tl := [(0, v7)]) (st' := []) (by decide +kernel) rfl (by decide +kernel) rfl (x166 hL1 ChL1 v7 (by omega) (by omega)) ?_
          rintro h8 ⟨Ch8, Qh8⟩
          have Xh8 : zXR msx188 (0) (0) h h8 := XhL1.tr (c2 := 0) (s2 := 0) Qh8 (by decide +kernel) (by decide) (by decide)
          have Gh8_0 : gH h8 v4 := Gv4.x Qh8
          refine zwW_p [(1, 0, 2)] (q := 44) (ls' := [(2, 1), (0, v1L1), (2, v4)]) (st' := [(2, 1)]) (by decide +kernel) rfl ?_
          refine zwW_gc Ch8.1 (kd := 12) (bn := 8) (n := 13) (c := 13) (nx := 47) (by decide +kernel) ?_
          refine zwW_p [(1, 2, 2), (1, 0, 2)] (q := 49) (ls' := [(2, 1), (0, v1L1), (2, v4)]) (st' := [(2, 1), (2, v4), (2, 13)]) (by decide +kernel) rfl ?_
          refine zwW_gs Ch8.1 (kd := 12) (bn := 0) (n := 13) (t := 0) (lo := 0) (hi := 156) (nx := 52) (by decide +kernel) ?_
          intro v9 ev9 lv9 uv9
          refine zwW_cs (k' := 162) (n := 1) (nx := 55) (as := [(0, v9)]) (st' := [(2, v4), (2, 13)]) (by decide +kernel) rfl (x162 h8 Ch8 v9 (by omega) (by omega)) rfl ?_
          rintro v10 _ ⟨rfl, f11, f12, f13⟩
          refine zwW_cmv Ch8.1 (op := 60) (k' := 167) (n := 2) (kd := 9) (m := 6) (nx := 58) (r := 13) (tl := [(2, v4), (0, v10)]) (st' := []) (by decide +kernel) rfl (by decide +kernel) rfl (x167 h8 Ch8 v4 v10 Gh8_0 (by omega)) ?_
          rintro h14 ⟨Ch14, Qh14⟩
          have Xh14 : zXR msx188 (0) (0) h h14 := Xh8.tr (c2 := 0) (s2 := 0) Qh14 (by decide +kernel) (by decide) (by decide)
          have Gh14_0 : gH h14 v4 := Gh8_0.x Qh14
          refine zwW_p [(1, 2, 2), (12, 0, 0)] (q := 60) (ls' := [(2, 1), (0, v1L1), (2, v4)]) (st' := [(2, v4), (2, v4)]) (by decide +kernel) rfl ?_
          refine zwX_gi Ch14 (kd := 4) (bn := 15) (n := 19) (nx := 63) (by decide +kernel) Gh14_0.2.1 Gh14_0.1 rfl ?_
          intro v15 ev15 lv15 uv15
          refine zwW_p [(1, 0, 2)] (q := 64) (ls' := [(2, 1), (0, v1L1), (2, v4)]) (st' := [(2, 1), (0, v15), (2, v4)]) (by decide +kernel) rfl ?_
          refine zwW_gc Ch14.1 (kd := 12) (bn := 8) (n := 13) (c := 13) (nx := 67) (by decide +kernel) ?_
          refine zwW_p [(0, 0, 0), (1, 0, 2)] (q := 69) (ls' := [(2, 1), (0, v1L1), (2, v4)]) (st' := [(2, 1), (0, 0), (2, 13), (0, v15), (2, v4)]) (by decide +kernel) rfl ?_
          refine zwW_gs Ch14.1 (kd := 12) (bn := 0) (n := 13) (t := 0) (lo := 0) (hi := 156) (nx := 72) (by decide +kernel) ?_
          intro v16 ev16 lv16 uv16
          refine zwW_cm Ch14.1 (op := 60) (k' := 172) (n := 2) (kd := 9) (m := 6) (nx := 75) (r := 13) (tl := [(0, 0), (0, v16)]) (st' := [(0, v15), (2, v4)]) (by decide +kernel) rfl (by decide +kernel) rfl (x172 h14 Ch14 0 v16 (by omega) (by omega)) ?_
          rintro v18 h19 ⟨Ch19, Qh19, f17⟩
          have Xh19 : zXR msx188 (0) (0) h h19 := Xh14.tr (c2 := 0) (s2 := 0) Qh19 (by decide +kernel) (by decide) (by decide)
          have Gh19_0 : gH h19 v4 := Gh14_0.x Qh19
          refine zwW_p [(0, 0, 0)] (q := 76) (ls' := [(2, 1), (0, v1L1), (2, v4)]) (st' := [(0, 0), (0, v18), (0, v15), (2, v4)]) (by decide +kernel) rfl ?_
          refine zwW_max (nx := 79) (by decide +kernel) rfl ?_
          intro v20 ev20
          refine zwW_adw (nx := 80) (by decide +kernel) ?_
          intro v21 ev21 lv21 uv21
          have Ev21 : v21 = w32 ((fld h14 v4 15) + v20) := by rw [ev21, ev15]
          refine zwX_pi Ch19 (kd := 4) (bn := 15) (n := 19) (nx := 83) (by decide +kernel) Gh19_0.2.1 Gh19_0.1 (by first | omega | exact ⟨by omega, by omega⟩) ?_
          rintro h22 eh22 Ch22 Qh22
          have Xh22 : zXR msx188 (0) (0) h h22 := Xh19.tr (c2 := 0) (s2 := 0) Qh22 (by decide +kernel) (by decide) (by decide)
          have Gh22_0 : gH h22 v4 := Gh19_0.x Qh22
          refine zwW_inc (i := 1) (c := 1) (x := v1L1) (nx := 86) (by decide +kernel) rfl (by first | omega | exact ⟨by omega, by omega⟩) (ls' := [(2, 1), (0, (v1L1 + 1)), (2, v4)]) rfl ?_
          refine zwW_p [(24, 2, 0)] (q := 2) (ls' := [(2, 1), (0, (v1L1 + 1)), (2, v4)]) (st' := []) (by decide +kernel) rfl ?_
          exact IHL1 ((1000 - (v1L1 + 1))).toNat (by omega) (v1L1 + 1) (2, v4) h22 rfl (by omega) Ch22 (Xh22.le (by decide) (by decide))
  exact L1 _ 0 (9, 0) h rfl (by omega) C (X.le (by decide) (by decide))
def msx189 : Zms := [(1011, 1011, 9, 10), (1011, 1011, 14, 15), (1011, 1011, 15, 16)]
-- WheelLand.moveMillPrices()V
theorem x189 {sc : List Int} (h : Hp) (C : CI h) : zwC sc 5 189 [(2, 1)] h (zwRv (fun g => CI g ∧ zXR msx189 (0) (0) h g)) := by
  refine zwC_of (D := 4) 2 (by decide +kernel) rfl (ls := [(2, 1), (9, 0)]) rfl ?_
  have X : zXR msx189 0 0 h h := zXR.rf _ _
  refine zwW_p [(0, 0, 0), (2, 1, 0)] (q := 2) (ls' := [(2, 1), (0, 0)]) (st' := []) (by decide +kernel) rfl ?_
  have L1 : ∀ (n : Nat) (v1L1 : Int) (hL1 : Hp), n = ((1000 - v1L1)).toNat → (0 ≤ v1L1 ∧ v1L1 ≤ 1000) → CI hL1 → zXR msx189 (0) (0) h hL1 → zwW sc (4) 189 2 [(2, 1), (0, v1L1)] [] hL1 (zwRv (fun g => CI g ∧ zXR msx189 (0) (0) h g)) := by
    intro n
    induction n using Nat.strongRecOn with
    | ind n IHL1 =>
      intro v1L1 hL1 hnL1 iL1_0 ChL1 XhL1
      refine zwW_p [(1, 1, 0), (1, 0, 2)] (q := 4) (ls' := [(2, 1), (0, v1L1)]) (st' := [(2, 1), (0, v1L1)]) (by decide +kernel) rfl ?_
      refine zwW_gc ChL1.1 (kd := 12) (bn := 2) (n := 13) (c := 2) (nx := 7) (by decide +kernel) ?_
      refine zwW_cm ChL1.1 (op := 60) (k' := 96) (n := 0) (kd := 0) (m := 3) (nx := 10) (r := 2) (tl := []) (st' := [(0, v1L1)]) (by decide +kernel) rfl (by decide +kernel) rfl (x96_2 ChL1) ?_
      rintro v2 _ ⟨rfl, ev2⟩
      have bv2 := zLb_2 ChL1
      refine zwic_ge (q := 33) (nx := 13) (by decide +kernel) (fun c3 => ?_) (fun c3 => ?_)
      · refine zwW_retv (nx := 34) (a := 0) (b := 0) (by decide +kernel) ?_
        exact ⟨ChL1, XhL1.le (by decide) (by decide)⟩
      · refine zwW_p [(1, 0, 2)] (q := 14) (ls' := [(2, 1), (0, v1L1)]) (st' := [(2, 1)]) (by decide +kernel) rfl ?_
        refine zwW_gc ChL1.1 (kd := 12) (bn := 2) (n := 13) (c := 2) (nx := 17) (by decide +kernel) ?_
        refine zwW_p [(1, 1, 0)] (q := 18) (ls' := [(2, 1), (0, v1L1)]) (st' := [(0, v1L1), (2, 2)]) (by decide +kernel) rfl ?_
        refine zwW_cm ChL1.1 (op := 60) (k' := 123) (n := 1) (kd := 0) (m := 3) (nx := 21) (r := 2) (tl := [(0, v1L1)]) (st' := []) (by decide +kernel) rfl (by decide +kernel) rfl (x123_2 ChL1 (i := v1L1) (by first | omega | exact ⟨by omega, by omega⟩)) ?_
        rintro v4 _ ⟨rfl, Gv4, ev4⟩
        have lv4 := Gv4.1
        refine zwW_cast (a := 11) (kd := 11) (n := 17) (nx := 24) (by decide +kernel) rfl (Or.inr Gv4.2.1) ?_
        refine zwW_cvv (op := 60) (k' := 234) (n := 0) (kd := 11) (m := 17) (nx := 27) (r := v4) (tl := []) (st' := []) (by decide +kernel) rfl (by decide +kernel) Gv4.2.1 (x234 hL1 ChL1 v4 Gv4) rfl ?_
        rintro h5 ⟨Ch5, Qh5⟩
        have Xh5 : zXR msx189 (0) (0) h h5 := XhL1.tr (c2 := 0) (s2 := 0) Qh5 (by decide +kernel) (by decide) (by decide)
        refine zwW_inc (i := 1) (c := 1) (x := v1L1) (nx := 30) (by decide +kernel) rfl (by first | omega | exact ⟨by omega, by omega⟩) (ls' := [(2, 1), (0, (v1L1 + 1))]) rfl ?_
        refine zwW_p [(24, 2, 0)] (q := 2) (ls' := [(2, 1), (0, (v1L1 + 1))]) (st' := []) (by decide +kernel) rfl ?_
        exact IHL1 ((1000 - (v1L1 + 1))).toNat (by omega) (v1L1 + 1) h5 rfl (by omega) Ch5 (Xh5.le (by decide) (by decide))
  exact L1 _ 0 h rfl (by omega) C (X.le (by decide) (by decide))
-- WheelLand.cottonOfAll()I
theorem x190 {sc : List Int} (h : Hp) (C : CI h) : zwC sc 5 190 [(2, 1)] h (zwRt 0 (fun x g => h = g ∧ (-2147483648 ≤ x ∧ x ≤ 2147483647))) := by
  refine zwC_of (D := 4) 3 (by decide +kernel) rfl (ls := [(2, 1), (9, 0), (9, 0)]) rfl ?_
  refine zwW_p [(0, 0, 0), (2, 1, 0), (0, 0, 0), (2, 2, 0)] (q := 4) (ls' := [(2, 1), (0, 0), (0, 0)]) (st' := []) (by decide +kernel) rfl ?_
  have L1 : ∀ (n : Nat) (v1L1 v2L1 : Int), n = ((1000 - v2L1)).toNat → (-2147483648 ≤ v1L1 ∧ v1L1 ≤ 2147483647) → (0 ≤ v2L1 ∧ v2L1 ≤ 1000) → zwW sc (4) 190 4 [(2, 1), (0, v1L1), (0, v2L1)] [] h (zwRt 0 (fun x g => h = g ∧ (-2147483648 ≤ x ∧ x ≤ 2147483647))) := by
    intro n
    induction n using Nat.strongRecOn with
    | ind n IHL1 =>
      intro v1L1 v2L1 hnL1 iL1_0 iL1_1
      refine zwW_p [(1, 2, 0), (1, 0, 2)] (q := 6) (ls' := [(2, 1), (0, v1L1), (0, v2L1)]) (st' := [(2, 1), (0, v2L1)]) (by decide +kernel) rfl ?_
      refine zwW_gc C.1 (kd := 12) (bn := 2) (n := 13) (c := 2) (nx := 9) (by decide +kernel) ?_
      refine zwW_cm C.1 (op := 60) (k' := 96) (n := 0) (kd := 0) (m := 3) (nx := 12) (r := 2) (tl := []) (st' := [(0, v2L1)]) (by decide +kernel) rfl (by decide +kernel) rfl (x96_2 C) ?_
      rintro v2 _ ⟨rfl, ev2⟩
      have bv2 := zLb_2 C
      refine zwic_ge (q := 38) (nx := 15) (by decide +kernel) (fun c3 => ?_) (fun c3 => ?_)
      · refine zwW_p [(1, 1, 0)] (q := 39) (ls' := [(2, 1), (0, v1L1), (0, v2L1)]) (st' := [(0, v1L1)]) (by decide +kernel) rfl ?_
        refine zwW_ret (nx := 40) (a := 0) (b := 0) (by decide +kernel) rfl (Or.inl rfl) ?_
        exact ⟨rfl, by omega⟩
      · refine zwW_p [(1, 1, 0), (1, 0, 2)] (q := 17) (ls' := [(2, 1), (0, v1L1), (0, v2L1)]) (st' := [(2, 1), (0, v1L1)]) (by decide +kernel) rfl ?_
        refine zwW_gc C.1 (kd := 12) (bn := 2) (n := 13) (c := 2) (nx := 20) (by decide +kernel) ?_
        refine zwW_p [(1, 2, 0)] (q := 21) (ls' := [(2, 1), (0, v1L1), (0, v2L1)]) (st' := [(0, v2L1), (2, 2), (0, v1L1)]) (by decide +kernel) rfl ?_
        refine zwW_cm C.1 (op := 60) (k' := 123) (n := 1) (kd := 0) (m := 3) (nx := 24) (r := 2) (tl := [(0, v2L1)]) (st' := [(0, v1L1)]) (by decide +kernel) rfl (by decide +kernel) rfl (x123_2 C (i := v2L1) (by first | omega | exact ⟨by omega, by omega⟩)) ?_
        rintro v4 _ ⟨rfl, Gv4, ev4⟩
        have lv4 := Gv4.1
        refine zwW_cast (a := 11) (kd := 11) (n := 17) (nx := 27) (by decide +kernel) rfl (Or.inr Gv4.2.1) ?_
        refine zwX_gi C (kd := 11) (bn := 3) (n := 17) (nx := 30) (by decide +kernel) Gv4.2.1 Gv4.1 rfl ?_
        intro v5 ev5 lv5 uv5
        refine zwW_adw (nx := 31) (by decide +kernel) ?_
        intro v6 ev6 lv6 uv6
        have Ev6 : v6 = w32 (v1L1 + (fld h v4 3)) := by rw [ev6, ev5]
        refine zwW_p [(2, 1, 0)] (q := 32) (ls' := [(2, 1), (0, v6), (0, v2L1)]) (st' := []) (by decide +kernel) rfl ?_
        refine zwW_inc (i := 2) (c := 1) (x := v2L1) (nx := 35) (by decide +kernel) rfl (by first | omega | exact ⟨by omega, by omega⟩) (ls' := [(2, 1), (0, v6), (0, (v2L1 + 1))]) rfl ?_
        refine zwW_p [(24, 4, 0)] (q := 4) (ls' := [(2, 1), (0, v6), (0, (v2L1 + 1))]) (st' := []) (by decide +kernel) rfl ?_
        exact IHL1 ((1000 - (v2L1 + 1))).toNat (by omega) v6 (v2L1 + 1) rfl (by omega) (by omega)
  exact L1 _ 0 0 rfl (by omega) (by omega)
-- WheelLand.leftOfAll()I
theorem x191 {sc : List Int} (h : Hp) (C : CI h) : zwC sc 5 191 [(2, 1)] h (zwRt 0 (fun x g => h = g ∧ (-2147483648 ≤ x ∧ x ≤ 2147483647))) := by
  refine zwC_of (D := 4) 3 (by decide +kernel) rfl (ls := [(2, 1), (9, 0), (9, 0)]) rfl ?_
  refine zwW_p [(0, 0, 0), (2, 1, 0), (0, 0, 0), (2, 2, 0)] (q := 4) (ls' := [(2, 1), (0, 0), (0, 0)]) (st' := []) (by decide +kernel) rfl ?_
  have L1 : ∀ (n : Nat) (v1L1 v2L1 : Int), n = ((1000 - v2L1)).toNat → (-2147483648 ≤ v1L1 ∧ v1L1 ≤ 2147483647) → (0 ≤ v2L1 ∧ v2L1 ≤ 1000) → zwW sc (4) 191 4 [(2, 1), (0, v1L1), (0, v2L1)] [] h (zwRt 0 (fun x g => h = g ∧ (-2147483648 ≤ x ∧ x ≤ 2147483647))) := by
    intro n
    induction n using Nat.strongRecOn with
    | ind n IHL1 =>
      intro v1L1 v2L1 hnL1 iL1_0 iL1_1
      refine zwW_p [(1, 2, 0), (1, 0, 2)] (q := 6) (ls' := [(2, 1), (0, v1L1), (0, v2L1)]) (st' := [(2, 1), (0, v2L1)]) (by decide +kernel) rfl ?_
      refine zwW_gc C.1 (kd := 12) (bn := 4) (n := 13) (c := 4) (nx := 9) (by decide +kernel) ?_
      refine zwW_cm C.1 (op := 60) (k' := 96) (n := 0) (kd := 0) (m := 3) (nx := 12) (r := 4) (tl := []) (st' := [(0, v2L1)]) (by decide +kernel) rfl (by decide +kernel) rfl (x96_4 C) ?_
      rintro v2 _ ⟨rfl, ev2⟩
      have bv2 := zLb_4 C
      refine zwic_ge (q := 38) (nx := 15) (by decide +kernel) (fun c3 => ?_) (fun c3 => ?_)
      · refine zwW_p [(1, 1, 0)] (q := 39) (ls' := [(2, 1), (0, v1L1), (0, v2L1)]) (st' := [(0, v1L1)]) (by decide +kernel) rfl ?_
        refine zwW_ret (nx := 40) (a := 0) (b := 0) (by decide +kernel) rfl (Or.inl rfl) ?_
        exact ⟨rfl, by omega⟩
      · refine zwW_p [(1, 1, 0), (1, 0, 2)] (q := 17) (ls' := [(2, 1), (0, v1L1), (0, v2L1)]) (st' := [(2, 1), (0, v1L1)]) (by decide +kernel) rfl ?_
        refine zwW_gc C.1 (kd := 12) (bn := 4) (n := 13) (c := 4) (nx := 20) (by decide +kernel) ?_
        refine zwW_p [(1, 2, 0)] (q := 21) (ls' := [(2, 1), (0, v1L1), (0, v2L1)]) (st' := [(0, v2L1), (2, 4), (0, v1L1)]) (by decide +kernel) rfl ?_
        refine zwW_cm C.1 (op := 60) (k' := 123) (n := 1) (kd := 0) (m := 3) (nx := 24) (r := 4) (tl := [(0, v2L1)]) (st' := [(0, v1L1)]) (by decide +kernel) rfl (by decide +kernel) rfl (x123_4 C (i := v2L1) (by first | omega | exact ⟨by omega, by omega⟩)) ?_
        rintro v4 _ ⟨rfl, Gv4, ev4⟩
        have lv4 := Gv4.1
        refine zwW_cast (a := 6) (kd := 6) (n := 7) (nx := 27) (by decide +kernel) rfl (Or.inr Gv4.2.1) ?_
        refine zwX_gi C (kd := 6) (bn := 6) (n := 7) (nx := 30) (by decide +kernel) Gv4.2.1 Gv4.1 rfl ?_
        intro v5 ev5 lv5 uv5
        refine zwW_adw (nx := 31) (by decide +kernel) ?_
        intro v6 ev6 lv6 uv6
        have Ev6 : v6 = w32 (v1L1 + (fld h v4 6)) := by rw [ev6, ev5]
        refine zwW_p [(2, 1, 0)] (q := 32) (ls' := [(2, 1), (0, v6), (0, v2L1)]) (st' := []) (by decide +kernel) rfl ?_
        refine zwW_inc (i := 2) (c := 1) (x := v2L1) (nx := 35) (by decide +kernel) rfl (by first | omega | exact ⟨by omega, by omega⟩) (ls' := [(2, 1), (0, v6), (0, (v2L1 + 1))]) rfl ?_
        refine zwW_p [(24, 4, 0)] (q := 4) (ls' := [(2, 1), (0, v6), (0, (v2L1 + 1))]) (st' := []) (by decide +kernel) rfl ?_
        exact IHL1 ((1000 - (v2L1 + 1))).toNat (by omega) v6 (v2L1 + 1) rfl (by omega) (by omega)
  exact L1 _ 0 0 rfl (by omega) (by omega)
def msx193 : Zms := [(1004, 1004, 14, 15), (1020, 1020, 0, 100000)]
-- WheelLand.beginWeek()V
theorem x193 {sc : List Int} (h : Hp) (C : CI h) : zwC sc 5 193 [(2, 1)] h (zwRv (fun g => CI g ∧ zXR msx193 (0) (0) h g)) := by
  refine zwC_of (D := 4) 2 (by decide +kernel) rfl (ls := [(2, 1), (9, 0)]) rfl ?_
  have X : zXR msx193 0 0 h h := zXR.rf _ _
  refine zwW_p [(0, 0, 0), (2, 1, 0)] (q := 2) (ls' := [(2, 1), (0, 0)]) (st' := []) (by decide +kernel) rfl ?_
  have L1 : ∀ (n : Nat) (v1L1 : Int) (hL1 : Hp), n = ((1000 - v1L1)).toNat → (0 ≤ v1L1 ∧ v1L1 ≤ 1000) → CI hL1 → zXR msx193 (0) (0) h hL1 → zwW sc (4) 193 2 [(2, 1), (0, v1L1)] [] hL1 (zwRv (fun g => CI g ∧ zXR msx193 (0) (0) h g)) := by
    intro n
    induction n using Nat.strongRecOn with
    | ind n IHL1 =>
      intro v1L1 hL1 hnL1 iL1_0 ChL1 XhL1
      refine zwW_p [(1, 1, 0), (1, 0, 2)] (q := 4) (ls' := [(2, 1), (0, v1L1)]) (st' := [(2, 1), (0, v1L1)]) (by decide +kernel) rfl ?_
      refine zwW_gc ChL1.1 (kd := 12) (bn := 2) (n := 13) (c := 2) (nx := 7) (by decide +kernel) ?_
      refine zwW_cm ChL1.1 (op := 60) (k' := 96) (n := 0) (kd := 0) (m := 3) (nx := 10) (r := 2) (tl := []) (st' := [(0, v1L1)]) (by decide +kernel) rfl (by decide +kernel) rfl (x96_2 ChL1) ?_
      rintro v2 _ ⟨rfl, ev2⟩
      have bv2 := zLb_2 ChL1
      refine zwic_ge (q := 37) (nx := 13) (by decide +kernel) (fun c3 => ?_) (fun c3 => ?_)
      · refine zwW_p [(0, 0, 0), (2, 1, 0)] (q := 39) (ls' := [(2, 1), (0, 0)]) (st' := []) (by decide +kernel) rfl ?_
        have L4 : ∀ (n : Nat) (v1L4 : Int) (hL4 : Hp), n = ((1000 - v1L4)).toNat → (0 ≤ v1L4 ∧ v1L4 ≤ 1000) → CI hL4 → zXR msx193 (0) (0) h hL4 → zwW sc (4) 193 39 [(2, 1), (0, v1L4)] [] hL4 (zwRv (fun g => CI g ∧ zXR msx193 (0) (0) h g)) := by
          intro n
          induction n using Nat.strongRecOn with
          | ind n IHL4 =>
            intro v1L4 hL4 hnL4 iL4_0 ChL4 XhL4
            refine zwW_p [(1, 1, 0), (1, 0, 2)] (q := 41) (ls' := [(2, 1), (0, v1L4)]) (st' := [(2, 1), (0, v1L4)]) (by decide +kernel) rfl ?_
            refine zwW_gc ChL4.1 (kd := 12) (bn := 3) (n := 13) (c := 3) (nx := 44) (by decide +kernel) ?_
            refine zwW_cm ChL4.1 (op := 60) (k' := 96) (n := 0) (kd := 0) (m := 3) (nx := 47) (r := 3) (tl := []) (st' := [(0, v1L4)]) (by decide +kernel) rfl (by decide +kernel) rfl (x96_3 ChL4) ?_
            rintro v5 _ ⟨rfl, ev5⟩
            have bv5 := zLb_3 ChL4
            refine zwic_ge (q := 71) (nx := 50) (by decide +kernel) (fun c6 => ?_) (fun c6 => ?_)
            · refine zwW_retv (nx := 72) (a := 0) (b := 0) (by decide +kernel) ?_
              exact ⟨ChL4, XhL4.le (by decide) (by decide)⟩
            · refine zwW_p [(1, 0, 2)] (q := 51) (ls' := [(2, 1), (0, v1L4)]) (st' := [(2, 1)]) (by decide +kernel) rfl ?_
              refine zwW_gc ChL4.1 (kd := 12) (bn := 3) (n := 13) (c := 3) (nx := 54) (by decide +kernel) ?_
              refine zwW_p [(1, 1, 0)] (q := 55) (ls' := [(2, 1), (0, v1L4)]) (st' := [(0, v1L4), (2, 3)]) (by decide +kernel) rfl ?_
              refine zwW_cm ChL4.1 (op := 60) (k' := 123) (n := 1) (kd := 0) (m := 3) (nx := 58) (r := 3) (tl := [(0, v1L4)]) (st' := []) (by decide +kernel) rfl (by decide +kernel) rfl (x123_3 ChL4 (i := v1L4) (by first | omega | exact ⟨by omega, by omega⟩)) ?_
              rintro v7 _ ⟨rfl, Gv7, ev7⟩
              have lv7 := Gv7.1
              refine zwW_cast (a := 4) (kd := 4) (n := 19) (nx := 61) (by decide +kernel) rfl (Or.inr Gv7.2.1) ?_
              refine zwW_p [(0, 0, 0)] (q := 62) (ls' := [(2, 1), (0, v1L4)]) (st' := [(0, 0), (2, v7)]) (by decide +kernel) rfl ?_
              refine zwX_pi ChL4 (kd := 4) (bn := 14) (n := 19) (nx := 65) (by decide +kernel) Gv7.2.1 Gv7.1 (by first | decide | exact ⟨by decide, by decide⟩) ?_
              rintro h8 eh8 Ch8 Qh8
              have Xh8 : zXR msx193 (0) (0) h h8 := XhL4.tr (c2 := 0) (s2 := 0) Qh8 (by decide +kernel) (by decide) (by decide)
              refine zwW_inc (i := 1) (c := 1) (x := v1L4) (nx := 68) (by decide +kernel) rfl (by first | omega | exact ⟨by omega, by omega⟩) (ls' := [(2, 1), (0, (v1L4 + 1))]) rfl ?_
              refine zwW_p [(24, 39, 0)] (q := 39) (ls' := [(2, 1), (0, (v1L4 + 1))]) (st' := []) (by decide +kernel) rfl ?_
              exact IHL4 ((1000 - (v1L4 + 1))).toNat (by omega) (v1L4 + 1) h8 rfl (by omega) Ch8 (Xh8.le (by decide) (by decide))
        exact L4 _ 0 hL1 rfl (by omega) ChL1 (XhL1.le (by decide) (by decide))
      · refine zwW_p [(1, 0, 2)] (q := 14) (ls' := [(2, 1), (0, v1L1)]) (st' := [(2, 1)]) (by decide +kernel) rfl ?_
        refine zwW_gc ChL1.1 (kd := 12) (bn := 2) (n := 13) (c := 2) (nx := 17) (by decide +kernel) ?_
        refine zwW_p [(1, 1, 0)] (q := 18) (ls' := [(2, 1), (0, v1L1)]) (st' := [(0, v1L1), (2, 2)]) (by decide +kernel) rfl ?_
        refine zwW_cm ChL1.1 (op := 60) (k' := 123) (n := 1) (kd := 0) (m := 3) (nx := 21) (r := 2) (tl := [(0, v1L1)]) (st' := []) (by decide +kernel) rfl (by decide +kernel) rfl (x123_2 ChL1 (i := v1L1) (by first | omega | exact ⟨by omega, by omega⟩)) ?_
        rintro v9 _ ⟨rfl, Gv9, ev9⟩
        have lv9 := Gv9.1
        refine zwW_cast (a := 11) (kd := 11) (n := 17) (nx := 24) (by decide +kernel) rfl (Or.inr Gv9.2.1) ?_
        refine zwW_p [(1, 0, 2)] (q := 25) (ls' := [(2, 1), (0, v1L1)]) (st' := [(2, 1), (2, v9)]) (by decide +kernel) rfl ?_
        refine zwW_gs ChL1.1 (kd := 12) (bn := 0) (n := 13) (t := 0) (lo := 0) (hi := 156) (nx := 28) (by decide +kernel) ?_
        intro v10 ev10 lv10 uv10
        refine zwW_cvv (op := 60) (k' := 235) (n := 1) (kd := 11) (m := 17) (nx := 31) (r := v9) (tl := [(0, v10)]) (st' := []) (by decide +kernel) rfl (by decide +kernel) Gv9.2.1 (x235 hL1 ChL1 v9 v10 Gv9 (by omega)) rfl ?_
        rintro h11 ⟨Ch11, Qh11⟩
        have Xh11 : zXR msx193 (0) (0) h h11 := XhL1.tr (c2 := 0) (s2 := 0) Qh11 (by decide +kernel) (by decide) (by decide)
        refine zwW_inc (i := 1) (c := 1) (x := v1L1) (nx := 34) (by decide +kernel) rfl (by first | omega | exact ⟨by omega, by omega⟩) (ls' := [(2, 1), (0, (v1L1 + 1))]) rfl ?_
        refine zwW_p [(24, 2, 0)] (q := 2) (ls' := [(2, 1), (0, (v1L1 + 1))]) (st' := []) (by decide +kernel) rfl ?_
        exact IHL1 ((1000 - (v1L1 + 1))).toNat (by omega) (v1L1 + 1) h11 rfl (by omega) Ch11 (Xh11.le (by decide) (by decide))
  exact L1 _ 0 h rfl (by omega) C (X.le (by decide) (by decide))
def msx145 : Zms := [(17, 17, 0, 13), (18, 18, 0, 400), (19, 19, 2, 3), (19, 19, 3, 4), (22, 22, 0, 6), (23, 23, 0, 6)]
-- WheelLand.offerLot(ILWheelLand$Lot;)V
theorem x145 {sc : List Int} (h : Hp) (C : CI h) (a r : Int) (q_a : -2147483648 ≤ a ∧ a ≤ 2147483647) (G_r : gL h r) : zwC sc 6 145 [(2, 1), (0, a), (2, r)] h (zwRv (fun g => CI g ∧ zXR msx145 (0) (0) h g)) := by
  refine zwC_of (D := 5) 9 (by decide +kernel) rfl (ls := [(2, 1), (0, a), (2, r), (9, 0), (9, 0), (9, 0), (9, 0), (9, 0), (9, 0)]) rfl ?_
  have lw_r := G_r.1
  have X : zXR msx145 0 0 h h := zXR.rf _ _
  refine zwW_p [(1, 2, 2)] (q := 1) (ls' := [(2, 1), (0, a), (2, r), (9, 0), (9, 0), (9, 0), (9, 0), (9, 0), (9, 0)]) (st' := [(2, r)]) (by decide +kernel) rfl ?_
  refine zwX_gi C (kd := 6) (bn := 6) (n := 7) (nx := 4) (by decide +kernel) G_r.2.1 G_r.1 rfl ?_
  intro v1 ev1 lv1 uv1
  refine zwW_p [(1, 2, 2)] (q := 5) (ls' := [(2, 1), (0, a), (2, r), (9, 0), (9, 0), (9, 0), (9, 0), (9, 0), (9, 0)]) (st' := [(2, r), (0, v1)]) (by decide +kernel) rfl ?_
  refine zwX_gi C (kd := 6) (bn := 6) (n := 7) (nx := 8) (by decide +kernel) G_r.2.1 G_r.1 rfl ?_
  intro v2 ev2 lv2 uv2
  refine zwW_p [(0, 2, 0)] (q := 9) (ls' := [(2, 1), (0, a), (2, r), (9, 0), (9, 0), (9, 0), (9, 0), (9, 0), (9, 0)]) (st' := [(0, 2), (0, v2), (0, v1)]) (by decide +kernel) rfl ?_
  refine zwW_tmw (nx := 10) (by decide +kernel) (by first | omega | exact ⟨by omega, by omega⟩) (by omega) ?_
  intro v3 ev3 lv3 uv3
  refine zwW_sbw (nx := 11) (by decide +kernel) ?_
  intro v4 ev4 lv4 uv4
  have Ev4 : v4 = w32 ((fld h r 6) - v3) := by rw [ev4, ev1]
  refine zwW_p [(2, 3, 0), (0, -1, 0), (2, 4, 0), (0, 0, 0), (2, 5, 0), (0, 0, 0), (2, 6, 0)] (q := 21) (ls' := [(2, 1), (0, a), (2, r), (0, v4), (0, -1), (0, 0), (0, 0), (9, 0), (9, 0)]) (st' := []) (by decide +kernel) rfl ?_
  have L5 : ∀ (n : Nat) (v4L5 v5L5 v6L5 : Int) (w7L5 w8L5 : Vl) (hL5 : Hp), n = ((1000 - v6L5)).toNat → (-2147483648 ≤ v4L5 ∧ v4L5 ≤ 2147483647) → (-2147483648 ≤ v5L5 ∧ v5L5 ≤ 2147483647) → (0 ≤ v6L5 ∧ v6L5 ≤ 1000) → (gL hL5 r) → CI hL5 → zXR msx145 (0) (0) h hL5 → zwW sc (5) 145 21 [(2, 1), (0, a), (2, r), (0, v4), (0, v4L5), (0, v5L5), (0, v6L5), w7L5, w8L5] [] hL5 (zwRv (fun g => CI g ∧ zXR msx145 (0) (0) h g)) := by
    intro n
    induction n using Nat.strongRecOn with
    | ind n IHL5 =>
      intro v4L5 v5L5 v6L5 w7L5 w8L5 hL5 hnL5 iL5_0 iL5_1 iL5_2 gL5_0 ChL5 XhL5
      refine zwW_p [(1, 6, 0), (1, 0, 2)] (q := 24) (ls' := [(2, 1), (0, a), (2, r), (0, v4), (0, v4L5), (0, v5L5), (0, v6L5), w7L5, w8L5]) (st' := [(2, 1), (0, v6L5)]) (by decide +kernel) rfl ?_
      refine zwW_gc ChL5.1 (kd := 12) (bn := 9) (n := 13) (c := 19) (nx := 27) (by decide +kernel) ?_
      refine zwW_gc ChL5.1 (kd := 3) (bn := 1) (n := 10) (c := 21) (nx := 30) (by decide +kernel) ?_
      refine zwW_cm ChL5.1 (op := 60) (k' := 96) (n := 0) (kd := 0) (m := 3) (nx := 33) (r := 21) (tl := []) (st' := [(0, v6L5)]) (by decide +kernel) rfl (by decide +kernel) rfl (x96_21 ChL5) ?_
      rintro v6 _ ⟨rfl, ev6⟩
      have bv6 := zLb_21 ChL5
      refine zwic_ge (q := 128) (nx := 36) (by decide +kernel) (fun c7 => ?_) (fun c7 => ?_)
      · refine zwW_p [(1, 0, 2)] (q := 129) (ls' := [(2, 1), (0, a), (2, r), (0, v4), (0, v4L5), (0, v5L5), (0, v6L5), w7L5, w8L5]) (st' := [(2, 1)]) (by decide +kernel) rfl ?_
        refine zwW_gc ChL5.1 (kd := 12) (bn := 9) (n := 13) (c := 19) (nx := 132) (by decide +kernel) ?_
        refine zwW_p [(1, 1, 0), (1, 3, 0), (1, 4, 0), (1, 5, 0)] (q := 138) (ls' := [(2, 1), (0, a), (2, r), (0, v4), (0, v4L5), (0, v5L5), (0, v6L5), w7L5, w8L5]) (st' := [(0, v5L5), (0, v4L5), (0, v4), (0, a), (2, 19)]) (by decide +kernel) rfl ?_
        refine zwW_cmv ChL5.1 (op := 60) (k' := 211) (n := 4) (kd := 3) (m := 10) (nx := 141) (r := 19) (tl := [(0, a), (0, v4), (0, v4L5), (0, v5L5)]) (st' := []) (by decide +kernel) rfl (by decide +kernel) rfl (x211 hL5 ChL5 a v4 v4L5 v5L5 (by omega) (by omega) (by omega) (by omega)) ?_
        rintro h8 ⟨Ch8, Qh8⟩
        have Xh8 : zXR msx145 (0) (0) h h8 := XhL5.tr (c2 := 0) (s2 := 0) Qh8 (by decide +kernel) (by decide) (by decide)
        have Gh8_0 : gL h8 r := gL5_0.x Qh8
        refine zwW_retv (nx := 142) (a := 0) (b := 0) (by decide +kernel) ?_
        exact ⟨Ch8, Xh8.le (by decide) (by decide)⟩
      · refine zwW_p [(1, 3, 0)] (q := 37) (ls' := [(2, 1), (0, a), (2, r), (0, v4), (0, v4L5), (0, v5L5), (0, v6L5), w7L5, w8L5]) (st' := [(0, v4)]) (by decide +kernel) rfl ?_
        refine zwif_le (q := 128) (nx := 40) (by decide +kernel) (fun c9 => ?_) (fun c9 => ?_)
        · refine zwW_p [(1, 0, 2)] (q := 129) (ls' := [(2, 1), (0, a), (2, r), (0, v4), (0, v4L5), (0, v5L5), (0, v6L5), w7L5, w8L5]) (st' := [(2, 1)]) (by decide +kernel) rfl ?_
          refine zwW_gc ChL5.1 (kd := 12) (bn := 9) (n := 13) (c := 19) (nx := 132) (by decide +kernel) ?_
          refine zwW_p [(1, 1, 0), (1, 3, 0), (1, 4, 0), (1, 5, 0)] (q := 138) (ls' := [(2, 1), (0, a), (2, r), (0, v4), (0, v4L5), (0, v5L5), (0, v6L5), w7L5, w8L5]) (st' := [(0, v5L5), (0, v4L5), (0, v4), (0, a), (2, 19)]) (by decide +kernel) rfl ?_
          refine zwW_cmv ChL5.1 (op := 60) (k' := 211) (n := 4) (kd := 3) (m := 10) (nx := 141) (r := 19) (tl := [(0, a), (0, v4), (0, v4L5), (0, v5L5)]) (st' := []) (by decide +kernel) rfl (by decide +kernel) rfl (x211 hL5 ChL5 a v4 v4L5 v5L5 (by omega) (by omega) (by omega) (by omega)) ?_
          rintro h10 ⟨Ch10, Qh10⟩
          have Xh10 : zXR msx145 (0) (0) h h10 := XhL5.tr (c2 := 0) (s2 := 0) Qh10 (by decide +kernel) (by decide) (by decide)
          have Gh10_0 : gL h10 r := gL5_0.x Qh10
          refine zwW_retv (nx := 142) (a := 0) (b := 0) (by decide +kernel) ?_
          exact ⟨Ch10, Xh10.le (by decide) (by decide)⟩
        · refine zwW_p [(1, 0, 2)] (q := 41) (ls' := [(2, 1), (0, a), (2, r), (0, v4), (0, v4L5), (0, v5L5), (0, v6L5), w7L5, w8L5]) (st' := [(2, 1)]) (by decide +kernel) rfl ?_
          refine zwW_gc ChL5.1 (kd := 12) (bn := 9) (n := 13) (c := 19) (nx := 44) (by decide +kernel) ?_
          refine zwW_gc ChL5.1 (kd := 3) (bn := 1) (n := 10) (c := 21) (nx := 47) (by decide +kernel) ?_
          refine zwW_p [(1, 6, 0)] (q := 49) (ls' := [(2, 1), (0, a), (2, r), (0, v4), (0, v4L5), (0, v5L5), (0, v6L5), w7L5, w8L5]) (st' := [(0, v6L5), (2, 21)]) (by decide +kernel) rfl ?_
          refine zwW_cm ChL5.1 (op := 60) (k' := 123) (n := 1) (kd := 0) (m := 3) (nx := 52) (r := 21) (tl := [(0, v6L5)]) (st' := []) (by decide +kernel) rfl (by decide +kernel) rfl (x123_21 ChL5 (i := v6L5) (by first | omega | exact ⟨by omega, by omega⟩)) ?_
          rintro v11 _ ⟨rfl, Gv11, ev11⟩
          have lv11 := Gv11.1
          refine zwW_cast (a := 4) (kd := 4) (n := 19) (nx := 55) (by decide +kernel) rfl (Or.inr Gv11.2.1) ?_
          refine zwW_p [(2, 7, 2), (1, 0, 2), (1, 7, 2), (1, 2, 2), (1, 3, 0)] (q := 62) (ls' := [(2, 1), (0, a), (2, r), (0, v4), (0, v4L5), (0, v5L5), (0, v6L5), (2, v11), w8L5]) (st' := [(0, v4), (2, r), (2, v11), (2, 1)]) (by decide +kernel) rfl ?_
          refine zwW_cm ChL5.1 (op := 60) (k' := 207) (n := 3) (kd := 12) (m := 13) (nx := 65) (r := 1) (tl := [(2, v11), (2, r), (0, v4)]) (st' := []) (by decide +kernel) rfl (by decide +kernel) rfl (x207 hL5 ChL5 v11 r v4 Gv11 gL5_0 (by omega)) ?_
          rintro v13 h14 ⟨Ch14, Qh14, f12⟩
          have Xh14 : zXR msx145 (0) (0) h h14 := XhL5.tr (c2 := 0) (s2 := 0) Qh14 (by decide +kernel) (by decide) (by decide)
          have Gh14_0 : gL h14 r := gL5_0.x Qh14
          have Gh14_1 : gH h14 v11 := Gv11.x Qh14
          refine zwif_ne (q := 122) (nx := 68) (by decide +kernel) (fun c15 => ?_) (fun c15 => ?_)
          · refine zwW_inc (i := 6) (c := 1) (x := v6L5) (nx := 125) (by decide +kernel) rfl (by first | omega | exact ⟨by omega, by omega⟩) (ls' := [(2, 1), (0, a), (2, r), (0, v4), (0, v4L5), (0, v5L5), (0, (v6L5 + 1)), (2, v11), w8L5]) rfl ?_
            refine zwW_p [(24, 21, 0)] (q := 21) (ls' := [(2, 1), (0, a), (2, r), (0, v4), (0, v4L5), (0, v5L5), (0, (v6L5 + 1)), (2, v11), w8L5]) (st' := []) (by decide +kernel) rfl ?_
            exact IHL5 ((1000 - (v6L5 + 1))).toNat (by omega) v4L5 v5L5 (v6L5 + 1) (2, v11) w8L5 h14 rfl (by omega) (by omega) (by omega) Gh14_0 Ch14 (Xh14.le (by decide) (by decide))
          · refine zwW_p [(1, 0, 2), (1, 2, 2)] (q := 70) (ls' := [(2, 1), (0, a), (2, r), (0, v4), (0, v4L5), (0, v5L5), (0, v6L5), (2, v11), w8L5]) (st' := [(2, r), (2, 1)]) (by decide +kernel) rfl ?_
            refine zwW_get (kd := 6) (bn := 1) (t := 2) (n := 7) (nx := 73) (by decide +kernel) Gh14_0.2.1 rfl ?_
            obtain ⟨v16, ev16⟩ : ∃ z, z = fld h14 r 1 := ⟨_, rfl⟩
            rw [← ev16]
            have Gv16 : gH h14 v16 := by rw [ev16]; exact Gh14_0.2.2
            have lv16 := Gv16.1
            refine zwW_get (kd := 4) (bn := 1) (t := 2) (n := 19) (nx := 76) (by decide +kernel) Gv16.2.1 rfl ?_
            obtain ⟨v17, ev17⟩ : ∃ z, z = fld h14 v16 1 := ⟨_, rfl⟩
            rw [← ev17]
            have Gv17 : gV h14 v17 := by rw [ev17]; exact Gv16.2.2
            have lv17 := Gv17.1
            refine zwW_p [(1, 7, 2)] (q := 78) (ls' := [(2, 1), (0, a), (2, r), (0, v4), (0, v4L5), (0, v5L5), (0, v6L5), (2, v11), w8L5]) (st' := [(2, v11), (2, v17), (2, 1)]) (by decide +kernel) rfl ?_
            refine zwW_get (kd := 4) (bn := 1) (t := 2) (n := 19) (nx := 81) (by decide +kernel) Gh14_1.2.1 rfl ?_
            obtain ⟨v18, ev18⟩ : ∃ z, z = fld h14 v11 1 := ⟨_, rfl⟩
            rw [← ev18]
            have Gv18 : gV h14 v18 := by rw [ev18]; exact Gh14_1.2.2
            have lv18 := Gv18.1
            refine zwW_cm Ch14.1 (op := 60) (k' := 105) (n := 2) (kd := 12) (m := 13) (nx := 84) (r := 1) (tl := [(2, v17), (2, v18)]) (st' := []) (by decide +kernel) rfl (by decide +kernel) rfl (x105 h14 Ch14 v17 v18 (Or.inr Gv17) (Or.inr Gv18)) ?_
            rintro v19 _ ⟨rfl, f20, f21⟩
            refine zwW_p [(2, 8, 0), (1, 4, 0), (0, -1, 0)] (q := 89) (ls' := [(2, 1), (0, a), (2, r), (0, v4), (0, v4L5), (0, v5L5), (0, v6L5), (2, v11), (0, v19)]) (st' := [(0, -1), (0, v4L5)]) (by decide +kernel) rfl ?_
            refine zwic_eq (q := 99) (nx := 92) (by decide +kernel) (fun c22 => ?_) (fun c22 => ?_)
            · refine zwW_p [(1, 8, 0), (2, 4, 0), (0, 0, 0), (2, 5, 0), (1, 8, 0), (1, 4, 0)] (q := 110) (ls' := [(2, 1), (0, a), (2, r), (0, v4), (0, v19), (0, 0), (0, v6L5), (2, v11), (0, v19)]) (st' := [(0, v19), (0, v19)]) (by decide +kernel) rfl ?_
              refine zwic_ne (q := 122) (nx := 113) (by decide +kernel) (fun c23 => ?_) (fun c23 => ?_)
              · refine zwW_inc (i := 6) (c := 1) (x := v6L5) (nx := 125) (by decide +kernel) rfl (by first | omega | exact ⟨by omega, by omega⟩) (ls' := [(2, 1), (0, a), (2, r), (0, v4), (0, v19), (0, 0), (0, (v6L5 + 1)), (2, v11), (0, v19)]) rfl ?_
                refine zwW_p [(24, 21, 0)] (q := 21) (ls' := [(2, 1), (0, a), (2, r), (0, v4), (0, v19), (0, 0), (0, (v6L5 + 1)), (2, v11), (0, v19)]) (st' := []) (by decide +kernel) rfl ?_
                exact IHL5 ((1000 - (v6L5 + 1))).toNat (by omega) v19 0 (v6L5 + 1) (2, v11) (0, v19) h14 rfl (by omega) (by omega) (by omega) Gh14_0 Ch14 (Xh14.le (by decide) (by decide))
              · refine zwW_p [(1, 5, 0), (0, 1, 0), (1, 6, 0)] (q := 118) (ls' := [(2, 1), (0, a), (2, r), (0, v4), (0, v19), (0, 0), (0, v6L5), (2, v11), (0, v19)]) (st' := [(0, v6L5), (0, 1), (0, 0)]) (by decide +kernel) rfl ?_
                refine zwW_any2 (a := 8) (nx := 119) (by decide +kernel) rfl (by first | omega | exact ⟨by omega, by omega⟩) (Or.inr (by first | decide | exact ⟨by decide, by decide⟩)) ?_
                intro v24 lv24 uv24
                refine zwW_any2 (a := 6) (nx := 120) (by decide +kernel) rfl (by first | omega | exact ⟨by omega, by omega⟩) (Or.inr (by first | decide | exact ⟨by decide, by decide⟩)) ?_
                intro v25 lv25 uv25
                refine zwW_p [(2, 5, 0)] (q := 122) (ls' := [(2, 1), (0, a), (2, r), (0, v4), (0, v19), (0, v25), (0, v6L5), (2, v11), (0, v19)]) (st' := []) (by decide +kernel) rfl ?_
                refine zwW_inc (i := 6) (c := 1) (x := v6L5) (nx := 125) (by decide +kernel) rfl (by first | omega | exact ⟨by omega, by omega⟩) (ls' := [(2, 1), (0, a), (2, r), (0, v4), (0, v19), (0, v25), (0, (v6L5 + 1)), (2, v11), (0, v19)]) rfl ?_
                refine zwW_p [(24, 21, 0)] (q := 21) (ls' := [(2, 1), (0, a), (2, r), (0, v4), (0, v19), (0, v25), (0, (v6L5 + 1)), (2, v11), (0, v19)]) (st' := []) (by decide +kernel) rfl ?_
                exact IHL5 ((1000 - (v6L5 + 1))).toNat (by omega) v19 v25 (v6L5 + 1) (2, v11) (0, v19) h14 rfl (by omega) (by omega) (by omega) Gh14_0 Ch14 (Xh14.le (by decide) (by decide))
            · refine zwW_p [(1, 8, 0), (1, 4, 0)] (q := 96) (ls' := [(2, 1), (0, a), (2, r), (0, v4), (0, v4L5), (0, v5L5), (0, v6L5), (2, v11), (0, v19)]) (st' := [(0, v4L5), (0, v19)]) (by decide +kernel) rfl ?_
              refine zwic_ge (q := 106) (nx := 99) (by decide +kernel) (fun c26 => ?_) (fun c26 => ?_)
              · refine zwW_p [(1, 8, 0), (1, 4, 0)] (q := 110) (ls' := [(2, 1), (0, a), (2, r), (0, v4), (0, v4L5), (0, v5L5), (0, v6L5), (2, v11), (0, v19)]) (st' := [(0, v4L5), (0, v19)]) (by decide +kernel) rfl ?_
                refine zwic_ne (q := 122) (nx := 113) (by decide +kernel) (fun c27 => ?_) (fun c27 => ?_)
                · refine zwW_inc (i := 6) (c := 1) (x := v6L5) (nx := 125) (by decide +kernel) rfl (by first | omega | exact ⟨by omega, by omega⟩) (ls' := [(2, 1), (0, a), (2, r), (0, v4), (0, v4L5), (0, v5L5), (0, (v6L5 + 1)), (2, v11), (0, v19)]) rfl ?_
                  refine zwW_p [(24, 21, 0)] (q := 21) (ls' := [(2, 1), (0, a), (2, r), (0, v4), (0, v4L5), (0, v5L5), (0, (v6L5 + 1)), (2, v11), (0, v19)]) (st' := []) (by decide +kernel) rfl ?_
                  exact IHL5 ((1000 - (v6L5 + 1))).toNat (by omega) v4L5 v5L5 (v6L5 + 1) (2, v11) (0, v19) h14 rfl (by omega) (by omega) (by omega) Gh14_0 Ch14 (Xh14.le (by decide) (by decide))
                · refine zwW_p [(1, 5, 0), (0, 1, 0), (1, 6, 0)] (q := 118) (ls' := [(2, 1), (0, a), (2, r), (0, v4), (0, v4L5), (0, v5L5), (0, v6L5), (2, v11), (0, v19)]) (st' := [(0, v6L5), (0, 1), (0, v5L5)]) (by decide +kernel) rfl ?_
                  refine zwW_any2 (a := 8) (nx := 119) (by decide +kernel) rfl (by first | omega | exact ⟨by omega, by omega⟩) (Or.inr (by first | decide | exact ⟨by decide, by decide⟩)) ?_
                  intro v28 lv28 uv28
                  refine zwW_any2 (a := 6) (nx := 120) (by decide +kernel) rfl (by first | omega | exact ⟨by omega, by omega⟩) (Or.inr (by first | decide | exact ⟨by decide, by decide⟩)) ?_
                  intro v29 lv29 uv29
                  refine zwW_p [(2, 5, 0)] (q := 122) (ls' := [(2, 1), (0, a), (2, r), (0, v4), (0, v4L5), (0, v29), (0, v6L5), (2, v11), (0, v19)]) (st' := []) (by decide +kernel) rfl ?_
                  refine zwW_inc (i := 6) (c := 1) (x := v6L5) (nx := 125) (by decide +kernel) rfl (by first | omega | exact ⟨by omega, by omega⟩) (ls' := [(2, 1), (0, a), (2, r), (0, v4), (0, v4L5), (0, v29), (0, (v6L5 + 1)), (2, v11), (0, v19)]) rfl ?_
                  refine zwW_p [(24, 21, 0)] (q := 21) (ls' := [(2, 1), (0, a), (2, r), (0, v4), (0, v4L5), (0, v29), (0, (v6L5 + 1)), (2, v11), (0, v19)]) (st' := []) (by decide +kernel) rfl ?_
                  exact IHL5 ((1000 - (v6L5 + 1))).toNat (by omega) v4L5 v29 (v6L5 + 1) (2, v11) (0, v19) h14 rfl (by omega) (by omega) (by omega) Gh14_0 Ch14 (Xh14.le (by decide) (by decide))
              · refine zwW_p [(1, 8, 0), (2, 4, 0), (0, 0, 0), (2, 5, 0), (1, 8, 0), (1, 4, 0)] (q := 110) (ls' := [(2, 1), (0, a), (2, r), (0, v4), (0, v19), (0, 0), (0, v6L5), (2, v11), (0, v19)]) (st' := [(0, v19), (0, v19)]) (by decide +kernel) rfl ?_
                refine zwic_ne (q := 122) (nx := 113) (by decide +kernel) (fun c30 => ?_) (fun c30 => ?_)
                · refine zwW_inc (i := 6) (c := 1) (x := v6L5) (nx := 125) (by decide +kernel) rfl (by first | omega | exact ⟨by omega, by omega⟩) (ls' := [(2, 1), (0, a), (2, r), (0, v4), (0, v19), (0, 0), (0, (v6L5 + 1)), (2, v11), (0, v19)]) rfl ?_
                  refine zwW_p [(24, 21, 0)] (q := 21) (ls' := [(2, 1), (0, a), (2, r), (0, v4), (0, v19), (0, 0), (0, (v6L5 + 1)), (2, v11), (0, v19)]) (st' := []) (by decide +kernel) rfl ?_
                  exact IHL5 ((1000 - (v6L5 + 1))).toNat (by omega) v19 0 (v6L5 + 1) (2, v11) (0, v19) h14 rfl (by omega) (by omega) (by omega) Gh14_0 Ch14 (Xh14.le (by decide) (by decide))
                · refine zwW_p [(1, 5, 0), (0, 1, 0), (1, 6, 0)] (q := 118) (ls' := [(2, 1), (0, a), (2, r), (0, v4), (0, v19), (0, 0), (0, v6L5), (2, v11), (0, v19)]) (st' := [(0, v6L5), (0, 1), (0, 0)]) (by decide +kernel) rfl ?_
                  refine zwW_any2 (a := 8) (nx := 119) (by decide +kernel) rfl (by first | omega | exact ⟨by omega, by omega⟩) (Or.inr (by first | decide | exact ⟨by decide, by decide⟩)) ?_
                  intro v31 lv31 uv31
                  refine zwW_any2 (a := 6) (nx := 120) (by decide +kernel) rfl (by first | omega | exact ⟨by omega, by omega⟩) (Or.inr (by first | decide | exact ⟨by decide, by decide⟩)) ?_
                  intro v32 lv32 uv32
                  refine zwW_p [(2, 5, 0)] (q := 122) (ls' := [(2, 1), (0, a), (2, r), (0, v4), (0, v19), (0, v32), (0, v6L5), (2, v11), (0, v19)]) (st' := []) (by decide +kernel) rfl ?_
                  refine zwW_inc (i := 6) (c := 1) (x := v6L5) (nx := 125) (by decide +kernel) rfl (by first | omega | exact ⟨by omega, by omega⟩) (ls' := [(2, 1), (0, a), (2, r), (0, v4), (0, v19), (0, v32), (0, (v6L5 + 1)), (2, v11), (0, v19)]) rfl ?_
                  refine zwW_p [(24, 21, 0)] (q := 21) (ls' := [(2, 1), (0, a), (2, r), (0, v4), (0, v19), (0, v32), (0, (v6L5 + 1)), (2, v11), (0, v19)]) (st' := []) (by decide +kernel) rfl ?_
                  exact IHL5 ((1000 - (v6L5 + 1))).toNat (by omega) v19 v32 (v6L5 + 1) (2, v11) (0, v19) h14 rfl (by omega) (by omega) (by omega) Gh14_0 Ch14 (Xh14.le (by decide) (by decide))
  exact L5 _ (-1) 0 0 (9, 0) (9, 0) h rfl (by omega) (by omega) (by omega) G_r C (X.le (by decide) (by decide))
-- WheelLand.handsCanBe(II)Z
theorem x142 {sc : List Int} (h : Hp) (C : CI h) (a b : Int) (q_a : -2147483648 ≤ a ∧ a ≤ 2147483647) (q_b : -2147483648 ≤ b ∧ b ≤ 2147483647) : zwC sc 2 142 [(2, 1), (0, a), (0, b)] h (zwRt 0 (fun x g => h = g ∧ ((x = 1 ∧ (0 ≤ 1)) ∨ (x = 0 ∧ (0 ≤ 1))))) := by
  refine zwC_of (D := 1) 5 (by decide +kernel) rfl (ls := [(2, 1), (0, a), (0, b), (9, 0), (9, 0)]) rfl ?_
  refine zwW_p [(1, 0, 2)] (q := 1) (ls' := [(2, 1), (0, a), (0, b), (9, 0), (9, 0)]) (st' := [(2, 1)]) (by decide +kernel) rfl ?_
  refine zwW_gc C.1 (kd := 12) (bn := 9) (n := 13) (c := 19) (nx := 4) (by decide +kernel) ?_
  refine zwW_gc C.1 (kd := 3) (bn := 0) (n := 10) (c := 20) (nx := 7) (by decide +kernel) ?_
  refine zwW_cm C.1 (op := 60) (k' := 96) (n := 0) (kd := 0) (m := 3) (nx := 10) (r := 20) (tl := []) (st' := []) (by decide +kernel) rfl (by decide +kernel) rfl (x96_20 C) ?_
  rintro v1 _ ⟨rfl, ev1⟩
  have bv1 := zLb_20 C
  refine zwW_p [(2, 3, 0), (1, 2, 0), (0, 0, 0), (0, 2, 0)] (q := 14) (ls' := [(2, 1), (0, a), (0, b), (0, v1), (9, 0)]) (st' := [(0, 2), (0, 0), (0, b)]) (by decide +kernel) rfl ?_
  refine zwW_cs (k' := 98) (n := 3) (nx := 17) (as := [(0, b), (0, 0), (0, 2)]) (st' := []) (by decide +kernel) rfl (x98 h C b 0 2 (by omega) (by omega) (by omega)) rfl ?_
  rintro x _ ⟨rfl, ⟨rfl, c2⟩ | ⟨rfl, c2⟩⟩
  · refine zwif_eq (q := 33) (nx := 20) (by decide +kernel) (fun c3 => ?_) (fun c3 => ?_)
    · exfalso; omega
    · refine zwW_p [(1, 2, 0), (0, 10, 0), (0, 9, 0), (1, 3, 0)] (q := 26) (ls' := [(2, 1), (0, a), (0, b), (0, v1), (9, 0)]) (st' := [(0, v1), (0, 9), (0, 10), (0, b)]) (by decide +kernel) rfl ?_
      refine zwW_add (nx := 27) (by decide +kernel) (by first | omega | exact ⟨by omega, by omega⟩) ?_
      refine zwW_cs (k' := 98) (n := 3) (nx := 30) (as := [(0, b), (0, 10), (0, (9 + v1))]) (st' := []) (by decide +kernel) rfl (x98 h C b 10 (9 + v1) (by omega) (by omega) (by omega)) rfl ?_
      rintro x _ ⟨rfl, ⟨rfl, c4⟩ | ⟨rfl, c4⟩⟩
      · refine zwif_ne (q := 37) (nx := 33) (by decide +kernel) (fun c5 => ?_) (fun c5 => ?_)
        · refine zwW_p [(0, 0, 0), (2, 4, 0), (1, 4, 0)] (q := 42) (ls' := [(2, 1), (0, a), (0, b), (0, v1), (0, 0)]) (st' := [(0, 0)]) (by decide +kernel) rfl ?_
          refine zwif_eq (q := 78) (nx := 45) (by decide +kernel) (fun c6 => ?_) (fun c6 => ?_)
          · refine zwW_p [(0, 0, 0)] (q := 79) (ls' := [(2, 1), (0, a), (0, b), (0, v1), (0, 0)]) (st' := [(0, 0)]) (by decide +kernel) rfl ?_
            refine zwW_ret (nx := 80) (a := 1) (b := 0) (by decide +kernel) rfl (Or.inr (Or.inl ⟨rfl, Or.inl rfl⟩)) ?_
            exact ⟨rfl, Or.inr ⟨rfl, by omega⟩⟩
          · exfalso; omega
        · exfalso; omega
      · refine zwif_ne (q := 37) (nx := 33) (by decide +kernel) (fun c7 => ?_) (fun c7 => ?_)
        · exfalso; omega
        · refine zwW_p [(0, 1, 0), (24, 38, 0), (2, 4, 0), (1, 4, 0)] (q := 42) (ls' := [(2, 1), (0, a), (0, b), (0, v1), (0, 1)]) (st' := [(0, 1)]) (by decide +kernel) rfl ?_
          refine zwif_eq (q := 78) (nx := 45) (by decide +kernel) (fun c8 => ?_) (fun c8 => ?_)
          · exfalso; omega
          · refine zwW_p [(1, 3, 0)] (q := 46) (ls' := [(2, 1), (0, a), (0, b), (0, v1), (0, 1)]) (st' := [(0, v1)]) (by decide +kernel) rfl ?_
            refine zwif_le (q := 78) (nx := 49) (by decide +kernel) (fun c9 => ?_) (fun c9 => ?_)
            · refine zwW_p [(0, 0, 0)] (q := 79) (ls' := [(2, 1), (0, a), (0, b), (0, v1), (0, 1)]) (st' := [(0, 0)]) (by decide +kernel) rfl ?_
              refine zwW_ret (nx := 80) (a := 1) (b := 0) (by decide +kernel) rfl (Or.inr (Or.inl ⟨rfl, Or.inl rfl⟩)) ?_
              exact ⟨rfl, Or.inr ⟨rfl, by omega⟩⟩
            · refine zwW_p [(1, 1, 0), (1, 0, 2)] (q := 51) (ls' := [(2, 1), (0, a), (0, b), (0, v1), (0, 1)]) (st' := [(2, 1), (0, a)]) (by decide +kernel) rfl ?_
              refine zwW_gc C.1 (kd := 12) (bn := 3) (n := 13) (c := 3) (nx := 54) (by decide +kernel) ?_
              refine zwW_cm C.1 (op := 60) (k' := 96) (n := 0) (kd := 0) (m := 3) (nx := 57) (r := 3) (tl := []) (st' := [(0, a)]) (by decide +kernel) rfl (by decide +kernel) rfl (x96_3 C) ?_
              rintro v10 _ ⟨rfl, ev10⟩
              have bv10 := zLb_3 C
              refine zwW_any2 (a := 10) (nx := 58) (by decide +kernel) rfl (by first | omega | exact ⟨by omega, by omega⟩) (Or.inr (by first | decide | exact ⟨by decide, by decide⟩)) ?_
              intro v11 lv11 uv11
              refine zwif_ne (q := 78) (nx := 61) (by decide +kernel) (fun c12 => ?_) (fun c12 => ?_)
              · refine zwW_p [(0, 0, 0)] (q := 79) (ls' := [(2, 1), (0, a), (0, b), (0, v1), (0, 1)]) (st' := [(0, 0)]) (by decide +kernel) rfl ?_
                refine zwW_ret (nx := 80) (a := 1) (b := 0) (by decide +kernel) rfl (Or.inr (Or.inl ⟨rfl, Or.inl rfl⟩)) ?_
                exact ⟨rfl, Or.inr ⟨rfl, by omega⟩⟩
              · refine zwW_p [(1, 1, 0)] (q := 62) (ls' := [(2, 1), (0, a), (0, b), (0, v1), (0, 1)]) (st' := [(0, a)]) (by decide +kernel) rfl ?_
                refine zwW_cs (k' := 210) (n := 1) (nx := 65) (as := [(0, a)]) (st' := []) (by decide +kernel) rfl (m210 h a (by omega)) rfl ?_
                rintro v13 _ ⟨rfl, f14⟩
                refine zwW_p [(0, 1, 0), (0, 6, 0)] (q := 68) (ls' := [(2, 1), (0, a), (0, b), (0, v1), (0, 1)]) (st' := [(0, 6), (0, 1), (0, v13)]) (by decide +kernel) rfl ?_
                refine zwW_cs (k' := 98) (n := 3) (nx := 71) (as := [(0, v13), (0, 1), (0, 6)]) (st' := []) (by decide +kernel) rfl (x98 h C v13 1 6 (by omega) (by omega) (by omega)) rfl ?_
                rintro x _ ⟨rfl, ⟨rfl, c15⟩ | ⟨rfl, c15⟩⟩
                · refine zwif_ne (q := 78) (nx := 74) (by decide +kernel) (fun c16 => ?_) (fun c16 => ?_)
                  · refine zwW_p [(0, 0, 0)] (q := 79) (ls' := [(2, 1), (0, a), (0, b), (0, v1), (0, 1)]) (st' := [(0, 0)]) (by decide +kernel) rfl ?_
                    refine zwW_ret (nx := 80) (a := 1) (b := 0) (by decide +kernel) rfl (Or.inr (Or.inl ⟨rfl, Or.inl rfl⟩)) ?_
                    exact ⟨rfl, Or.inr ⟨rfl, by omega⟩⟩
                  · exfalso; omega
                · refine zwif_ne (q := 78) (nx := 74) (by decide +kernel) (fun c17 => ?_) (fun c17 => ?_)
                  · exfalso; omega
                  · refine zwW_p [(0, 1, 0), (24, 79, 0)] (q := 79) (ls' := [(2, 1), (0, a), (0, b), (0, v1), (0, 1)]) (st' := [(0, 1)]) (by decide +kernel) rfl ?_
                    refine zwW_ret (nx := 80) (a := 1) (b := 0) (by decide +kernel) rfl (Or.inr (Or.inl ⟨rfl, Or.inr rfl⟩)) ?_
                    exact ⟨rfl, Or.inl ⟨rfl, by omega⟩⟩
  · refine zwif_eq (q := 33) (nx := 20) (by decide +kernel) (fun c18 => ?_) (fun c18 => ?_)
    · refine zwW_p [(0, 1, 0), (24, 38, 0), (2, 4, 0), (1, 4, 0)] (q := 42) (ls' := [(2, 1), (0, a), (0, b), (0, v1), (0, 1)]) (st' := [(0, 1)]) (by decide +kernel) rfl ?_
      refine zwif_eq (q := 78) (nx := 45) (by decide +kernel) (fun c19 => ?_) (fun c19 => ?_)
      · exfalso; omega
      · refine zwW_p [(1, 3, 0)] (q := 46) (ls' := [(2, 1), (0, a), (0, b), (0, v1), (0, 1)]) (st' := [(0, v1)]) (by decide +kernel) rfl ?_
        refine zwif_le (q := 78) (nx := 49) (by decide +kernel) (fun c20 => ?_) (fun c20 => ?_)
        · refine zwW_p [(0, 0, 0)] (q := 79) (ls' := [(2, 1), (0, a), (0, b), (0, v1), (0, 1)]) (st' := [(0, 0)]) (by decide +kernel) rfl ?_
          refine zwW_ret (nx := 80) (a := 1) (b := 0) (by decide +kernel) rfl (Or.inr (Or.inl ⟨rfl, Or.inl rfl⟩)) ?_
          exact ⟨rfl, Or.inr ⟨rfl, by omega⟩⟩
        · refine zwW_p [(1, 1, 0), (1, 0, 2)] (q := 51) (ls' := [(2, 1), (0, a), (0, b), (0, v1), (0, 1)]) (st' := [(2, 1), (0, a)]) (by decide +kernel) rfl ?_
          refine zwW_gc C.1 (kd := 12) (bn := 3) (n := 13) (c := 3) (nx := 54) (by decide +kernel) ?_
          refine zwW_cm C.1 (op := 60) (k' := 96) (n := 0) (kd := 0) (m := 3) (nx := 57) (r := 3) (tl := []) (st' := [(0, a)]) (by decide +kernel) rfl (by decide +kernel) rfl (x96_3 C) ?_
          rintro v21 _ ⟨rfl, ev21⟩
          have bv21 := zLb_3 C
          refine zwW_any2 (a := 10) (nx := 58) (by decide +kernel) rfl (by first | omega | exact ⟨by omega, by omega⟩) (Or.inr (by first | decide | exact ⟨by decide, by decide⟩)) ?_
          intro v22 lv22 uv22
          refine zwif_ne (q := 78) (nx := 61) (by decide +kernel) (fun c23 => ?_) (fun c23 => ?_)
          · refine zwW_p [(0, 0, 0)] (q := 79) (ls' := [(2, 1), (0, a), (0, b), (0, v1), (0, 1)]) (st' := [(0, 0)]) (by decide +kernel) rfl ?_
            refine zwW_ret (nx := 80) (a := 1) (b := 0) (by decide +kernel) rfl (Or.inr (Or.inl ⟨rfl, Or.inl rfl⟩)) ?_
            exact ⟨rfl, Or.inr ⟨rfl, by omega⟩⟩
          · refine zwW_p [(1, 1, 0)] (q := 62) (ls' := [(2, 1), (0, a), (0, b), (0, v1), (0, 1)]) (st' := [(0, a)]) (by decide +kernel) rfl ?_
            refine zwW_cs (k' := 210) (n := 1) (nx := 65) (as := [(0, a)]) (st' := []) (by decide +kernel) rfl (m210 h a (by omega)) rfl ?_
            rintro v24 _ ⟨rfl, f25⟩
            refine zwW_p [(0, 1, 0), (0, 6, 0)] (q := 68) (ls' := [(2, 1), (0, a), (0, b), (0, v1), (0, 1)]) (st' := [(0, 6), (0, 1), (0, v24)]) (by decide +kernel) rfl ?_
            refine zwW_cs (k' := 98) (n := 3) (nx := 71) (as := [(0, v24), (0, 1), (0, 6)]) (st' := []) (by decide +kernel) rfl (x98 h C v24 1 6 (by omega) (by omega) (by omega)) rfl ?_
            rintro x _ ⟨rfl, ⟨rfl, c26⟩ | ⟨rfl, c26⟩⟩
            · refine zwif_ne (q := 78) (nx := 74) (by decide +kernel) (fun c27 => ?_) (fun c27 => ?_)
              · refine zwW_p [(0, 0, 0)] (q := 79) (ls' := [(2, 1), (0, a), (0, b), (0, v1), (0, 1)]) (st' := [(0, 0)]) (by decide +kernel) rfl ?_
                refine zwW_ret (nx := 80) (a := 1) (b := 0) (by decide +kernel) rfl (Or.inr (Or.inl ⟨rfl, Or.inl rfl⟩)) ?_
                exact ⟨rfl, Or.inr ⟨rfl, by omega⟩⟩
              · exfalso; omega
            · refine zwif_ne (q := 78) (nx := 74) (by decide +kernel) (fun c28 => ?_) (fun c28 => ?_)
              · exfalso; omega
              · refine zwW_p [(0, 1, 0), (24, 79, 0)] (q := 79) (ls' := [(2, 1), (0, a), (0, b), (0, v1), (0, 1)]) (st' := [(0, 1)]) (by decide +kernel) rfl ?_
                refine zwW_ret (nx := 80) (a := 1) (b := 0) (by decide +kernel) rfl (Or.inr (Or.inl ⟨rfl, Or.inr rfl⟩)) ?_
                exact ⟨rfl, Or.inl ⟨rfl, by omega⟩⟩
    · exfalso; omega
end
section
/-! contracts of the class -/
def msx3 : Zms := [(2, 2, 0, 3)]
-- WheelLand.village(III)I
theorem x3 {sc : List Int} (h : Hp) (C : CI h) (a b c : Int) (q_a : -2147483648 ≤ a ∧ a ≤ 2147483647) (q_b : -2147483648 ≤ b ∧ b ≤ 2147483647) (q_c : -2147483648 ≤ c ∧ c ≤ 2147483647) (hl : h.length ≤ 999930000) : zwC sc 7 3 [(2, 1), (0, a), (0, b), (0, c)] h (zwRt 0 (fun x g => CI g ∧ zXR msx3 (3) (1174) h g ∧ (-2147483648 ≤ x ∧ x ≤ 2147483647) ∧ (((x = fld h 2 2) ∧ (x < 8) ∧ (fld g 2 2 = fld h 2 2 + 1) ∧ (0 ≤ a ∧ a / 1000000 ≤ 40 ∧ a / 10000 % 100 ≤ 40 ∧ a / 100 % 100 ≤ 40 ∧ a % 100 ≤ 40 ∧ 1 ≤ b ∧ b ≤ 9 ∧ 0 ≤ c ∧ c ≤ 9999) ∧ (∃ q : Int, (365 < q ∧ sh g q = some (20, 157) ∧ ∀ j : Nat, j < 157 → fld g q j = 10) ∧ (∃ rr : Int, (365 < rr ∧ gV g rr) ∧ (∀ i : Nat, (i : Int) < fld h 2 2 → fld g (fld g 2 1) i = fld h (fld h 2 1) i) ∧ fld g (fld g 2 1) (fld h 2 2).toNat = rr ∧ (∀ j : Nat, fld g rr j = ([fld h 2 2, a, b, c, 0, 0, 0, 0, 20, 10, 0, 0, 0, 0, 0, 0, q] : List Int).getD j 0)))) ∨ ((x = -1) ∧ (g = h) ∧ (8 ≤ fld h 2 2 ∨ a < 0 ∨ 40 < a / 1000000 ∨ 40 < a / 10000 % 100 ∨ 40 < a / 100 % 100 ∨ 40 < a % 100 ∨ b < 1 ∨ 9 < b ∨ c < 0 ∨ 9999 < c))))) := by
  refine zwC_of (D := 6) 4 (by decide +kernel) rfl (ls := [(2, 1), (0, a), (0, b), (0, c)]) rfl ?_
  have X : zXR msx3 0 0 h h := zXR.rf _ _
  refine zwW_p [(1, 0, 2)] (q := 1) (ls' := [(2, 1), (0, a), (0, b), (0, c)]) (st' := [(2, 1)]) (by decide +kernel) rfl ?_
  refine zwW_gc C.1 (kd := 12) (bn := 2) (n := 13) (c := 2) (nx := 4) (by decide +kernel) ?_
  refine zwW_cm C.1 (op := 60) (k' := 96) (n := 0) (kd := 0) (m := 3) (nx := 7) (r := 2) (tl := []) (st' := []) (by decide +kernel) rfl (by decide +kernel) rfl (x96_2 C) ?_
  rintro v1 _ ⟨rfl, ev1⟩
  have bv1 := zLb_2 C
  refine zwW_p [(0, 8, 0)] (q := 9) (ls' := [(2, 1), (0, a), (0, b), (0, c)]) (st' := [(0, 8), (0, v1)]) (by decide +kernel) rfl ?_
  refine zwic_ge (q := 40) (nx := 12) (by decide +kernel) (fun c2 => ?_) (fun c2 => ?_)
  · refine zwW_p [(0, -1, 0)] (q := 41) (ls' := [(2, 1), (0, a), (0, b), (0, c)]) (st' := [(0, -1)]) (by decide +kernel) rfl ?_
    refine zwW_ret (nx := 42) (a := 0) (b := 0) (by decide +kernel) rfl (Or.inl rfl) ?_
    exact ⟨C, X.le (by decide) (by decide), by omega, by exact Or.inr ⟨by omega, by rfl, by omega⟩⟩
  · refine zwW_p [(1, 1, 0)] (q := 13) (ls' := [(2, 1), (0, a), (0, b), (0, c)]) (st' := [(0, a)]) (by decide +kernel) rfl ?_
    refine zwW_cs (k' := 97) (n := 1) (nx := 16) (as := [(0, a)]) (st' := []) (by decide +kernel) rfl (x97 h C a (by omega)) rfl ?_
    rintro x _ ⟨rfl, ⟨rfl, c3⟩ | ⟨rfl, c3⟩⟩
    · refine zwif_eq (q := 40) (nx := 19) (by decide +kernel) (fun c4 => ?_) (fun c4 => ?_)
      · exfalso; omega
      · refine zwW_p [(1, 2, 0), (0, 1, 0), (0, 9, 0)] (q := 23) (ls' := [(2, 1), (0, a), (0, b), (0, c)]) (st' := [(0, 9), (0, 1), (0, b)]) (by decide +kernel) rfl ?_
        refine zwW_cs (k' := 98) (n := 3) (nx := 26) (as := [(0, b), (0, 1), (0, 9)]) (st' := []) (by decide +kernel) rfl (x98 h C b 1 9 (by omega) (by omega) (by omega)) rfl ?_
        rintro x _ ⟨rfl, ⟨rfl, c5⟩ | ⟨rfl, c5⟩⟩
        · refine zwif_ne (q := 40) (nx := 29) (by decide +kernel) (fun c6 => ?_) (fun c6 => ?_)
          · refine zwW_p [(0, -1, 0)] (q := 41) (ls' := [(2, 1), (0, a), (0, b), (0, c)]) (st' := [(0, -1)]) (by decide +kernel) rfl ?_
            refine zwW_ret (nx := 42) (a := 0) (b := 0) (by decide +kernel) rfl (Or.inl rfl) ?_
            exact ⟨C, X.le (by decide) (by decide), by omega, by exact Or.inr ⟨by omega, by rfl, by omega⟩⟩
          · exfalso; omega
        · refine zwif_ne (q := 40) (nx := 29) (by decide +kernel) (fun c7 => ?_) (fun c7 => ?_)
          · exfalso; omega
          · refine zwW_p [(1, 3, 0), (0, 0, 0), (0, 9999, 0)] (q := 34) (ls' := [(2, 1), (0, a), (0, b), (0, c)]) (st' := [(0, 9999), (0, 0), (0, c)]) (by decide +kernel) rfl ?_
            refine zwW_cs (k' := 98) (n := 3) (nx := 37) (as := [(0, c), (0, 0), (0, 9999)]) (st' := []) (by decide +kernel) rfl (x98 h C c 0 9999 (by omega) (by omega) (by omega)) rfl ?_
            rintro x _ ⟨rfl, ⟨rfl, c8⟩ | ⟨rfl, c8⟩⟩
            · refine zwif_eq (q := 42) (nx := 40) (by decide +kernel) (fun c9 => ?_) (fun c9 => ?_)
              · exfalso; omega
              · refine zwW_p [(0, -1, 0)] (q := 41) (ls' := [(2, 1), (0, a), (0, b), (0, c)]) (st' := [(0, -1)]) (by decide +kernel) rfl ?_
                refine zwW_ret (nx := 42) (a := 0) (b := 0) (by decide +kernel) rfl (Or.inl rfl) ?_
                exact ⟨C, X.le (by decide) (by decide), by omega, by exact Or.inr ⟨by omega, by rfl, by omega⟩⟩
            · refine zwif_eq (q := 42) (nx := 40) (by decide +kernel) (fun c10 => ?_) (fun c10 => ?_)
              · refine zwW_p [(1, 0, 2)] (q := 43) (ls' := [(2, 1), (0, a), (0, b), (0, c)]) (st' := [(2, 1)]) (by decide +kernel) rfl ?_
                refine zwW_gc C.1 (kd := 12) (bn := 2) (n := 13) (c := 2) (nx := 46) (by decide +kernel) ?_
                refine zwW_new (kd := 11) (n := 17) (nx := 49) (by decide +kernel) rfl rfl ?_
                rintro h11 r12 eh11 er12
                have Oh11 : zOld h h11 := by rw [eh11]; exact zOld.app _
                have Yh11 : zDy h11 := by rw [eh11]; exact C.2.1.app (fun x hx => by rw [List.eq_of_mem_replicate hx]; decide)
                have Ch11 : CI h11 := C.old Oh11 Yh11
                have Xh11 := Oh11.X C
                have th11_2_2 : fld h11 2 2 = fld h 2 2 := Xh11.f (a1 := 2) (a2 := 2) (j1 := 2) (j2 := 3) (by decide +kernel) (by first | decide | exact ⟨by decide, by decide⟩) (by first | decide | exact ⟨by decide, by decide⟩) (by first | decide | exact ⟨by decide, by decide⟩)
                refine zwW_p [(12, 0, 0), (1, 0, 2)] (q := 51) (ls' := [(2, 1), (0, a), (0, b), (0, c)]) (st' := [(2, 1), (2, r12), (2, r12), (2, 2)]) (by decide +kernel) rfl ?_
                refine zwW_gc Ch11.1 (kd := 12) (bn := 2) (n := 13) (c := 2) (nx := 54) (by decide +kernel) ?_
                refine zwW_cm Ch11.1 (op := 60) (k' := 96) (n := 0) (kd := 0) (m := 3) (nx := 57) (r := 2) (tl := []) (st' := [(2, r12), (2, r12), (2, 2)]) (by decide +kernel) rfl (by decide +kernel) rfl (x96_2 Ch11) ?_
                rintro v13 _ ⟨rfl, ev13⟩
                have bv13 := zLb_2 Ch11
                refine zwW_p [(1, 1, 0), (1, 2, 0), (1, 3, 0)] (q := 60) (ls' := [(2, 1), (0, a), (0, b), (0, c)]) (st' := [(0, c), (0, b), (0, a), (0, v13), (2, r12), (2, r12), (2, 2)]) (by decide +kernel) rfl ?_
                subst er12 eh11
                refine zwW_cvv (op := 62) (k' := 99) (n := 4) (kd := 11) (m := 17) (nx := 63) (r := ((h.length + 1 : Nat) : Int)) (tl := [(0, v13), (0, a), (0, b), (0, c)]) (st' := [(2, ((h.length + 1 : Nat) : Int)), (2, 2)]) (by decide +kernel) rfl (by decide +kernel) (sh_new _ _) (x99 h C v13 a b c (by omega) (by omega) (by omega) (by omega)) rfl ?_
                rintro h14 ⟨Ch14, Qh14, Nh14, Fh14_0, Fh14_1⟩
                obtain ⟨nr12, err12⟩ : ∃ z, z = ((h.length + 1 : Nat) : Int) := ⟨_, rfl⟩
                rw [← err12] at Nh14 ⊢
                try rw [← err12] at Fh14_0
                try rw [← err12] at Fh14_1
                have Xh14 : zXR msx3 (2) (174) h h14 := X.tr (c2 := 2) (s2 := 174) Qh14 (by decide +kernel) (by decide) (by decide)
                have th14_2_2 : fld h14 2 2 = fld h 2 2 := Qh14.f (a1 := 2) (a2 := 2) (j1 := 2) (j2 := 3) (by decide +kernel) (by first | decide | exact ⟨by decide, by decide⟩) (by first | decide | exact ⟨by decide, by decide⟩) (by first | decide | exact ⟨by decide, by decide⟩)
                have lnr12 := Nh14.1
                refine zwW_cm Ch14.1 (op := 60) (k' := 100) (n := 1) (kd := 0) (m := 3) (nx := 66) (r := 2) (tl := [(2, nr12)]) (st' := []) (by decide +kernel) rfl (by decide +kernel) rfl (x100_2 Ch14 Nh14 (by omega) (by have := Xh14.hl C Ch14 (by decide) hl; omega)) ?_
                rintro x h16 ⟨rfl, Ah16⟩
                have Ch16 := Ah16.1
                have Qh16 : zXR [(2, 2, 0, 3)] (1) (1000) h14 h16 := Ah16.2.1
                have zh16 : fld h16 2 2 = fld h14 2 2 + 1 := Ah16.2.2.1
                have Xh16 : zXR msx3 (3) (1174) h h16 := Xh14.tr (c2 := 3) (s2 := 1174) Qh16 (by decide +kernel) (by decide) (by decide)
                refine zwW_p [(15, 0, 0), (1, 0, 2)] (q := 68) (ls' := [(2, 1), (0, a), (0, b), (0, c)]) (st' := [(2, 1)]) (by decide +kernel) rfl ?_
                refine zwW_gc Ch16.1 (kd := 12) (bn := 2) (n := 13) (c := 2) (nx := 71) (by decide +kernel) ?_
                refine zwW_cm Ch16.1 (op := 60) (k' := 96) (n := 0) (kd := 0) (m := 3) (nx := 74) (r := 2) (tl := []) (st' := []) (by decide +kernel) rfl (by decide +kernel) rfl (x96_2 Ch16) ?_
                rintro v17 _ ⟨rfl, ev17⟩
                have bv17 := zLb_2 Ch16
                refine zwW_p [(0, 1, 0)] (q := 75) (ls' := [(2, 1), (0, a), (0, b), (0, c)]) (st' := [(0, 1), (0, v17)]) (by decide +kernel) rfl ?_
                refine zwW_sub (nx := 76) (by decide +kernel) (by first | omega | exact ⟨by omega, by omega⟩) ?_
                refine zwW_ret (nx := 77) (a := 0) (b := 0) (by decide +kernel) rfl (Or.inl rfl) ?_
                exact ⟨Ch16, Xh16.le (by decide) (by decide), by omega, by exact Or.inl ⟨by omega, by omega, by omega, by omega, by obtain ⟨rr, a1, a2, a3, a4⟩ := zNew C Ch14 Qh14 Ah16 (by decide) Nh14 Fh14_0 (by decide) rfl; have hv : v13 = fld h 2 2 := (by omega); exact ⟨_, zNewP Ch14 Ah16 Nh14 Fh14_0 rfl Fh14_1, rr, a1, a2, a3, fun j => by (rw [a4 j, hv]; try rfl)⟩⟩⟩
              · exfalso; omega
    · refine zwif_eq (q := 40) (nx := 19) (by decide +kernel) (fun c18 => ?_) (fun c18 => ?_)
      · refine zwW_p [(0, -1, 0)] (q := 41) (ls' := [(2, 1), (0, a), (0, b), (0, c)]) (st' := [(0, -1)]) (by decide +kernel) rfl ?_
        refine zwW_ret (nx := 42) (a := 0) (b := 0) (by decide +kernel) rfl (Or.inl rfl) ?_
        exact ⟨C, X.le (by decide) (by decide), by omega, by exact Or.inr ⟨by omega, by rfl, by omega⟩⟩
      · exfalso; omega
def msx5 : Zms := [(7, 7, 0, 64), (8, 8, 0, 64)]
-- WheelLand.road(III)Z
theorem x5 {sc : List Int} (h : Hp) (C : CI h) (a b c : Int) (q_a : -2147483648 ≤ a ∧ a ≤ 2147483647) (q_b : -2147483648 ≤ b ∧ b ≤ 2147483647) (q_c : -2147483648 ≤ c ∧ c ≤ 2147483647) (pW : zLd h) : zwC sc 6 5 [(2, 1), (0, a), (0, b), (0, c)] h (zwRt 0 (fun x g => CI g ∧ zXR msx5 (0) (0) h g ∧ (0 ≤ x ∧ x ≤ 1) ∧ (((x = 1) ∧ (0 ≤ a ∧ a < fld h 2 2 ∧ 0 ≤ b ∧ b < fld h 2 2 ∧ a ≠ b ∧ 1 ≤ c ∧ c ≤ 9) ∧ (zLd g ∧ zFw (zLa g) (zLe g) 8 ∧ ∀ p q : Nat, p < 8 → q < 8 → zLa g p q = if (p = a.toNat ∧ q = b.toNat) ∨ (p = b.toNat ∧ q = a.toNat) then c else zLa h p q)) ∨ ((x = 0) ∧ (g = h) ∧ (a < 0 ∨ fld h 2 2 ≤ a ∨ b < 0 ∨ fld h 2 2 ≤ b ∨ a = b ∨ c < 1 ∨ 9 < c))))) := by
  refine zwC_of (D := 5) 4 (by decide +kernel) rfl (ls := [(2, 1), (0, a), (0, b), (0, c)]) rfl ?_
  have X : zXR msx5 0 0 h h := zXR.rf _ _
  have b22 := zLb_2 C
  refine zwW_p [(1, 0, 2), (1, 1, 0)] (q := 2) (ls' := [(2, 1), (0, a), (0, b), (0, c)]) (st' := [(0, a), (2, 1)]) (by decide +kernel) rfl ?_
  refine zwW_cm C.1 (op := 60) (k' := 102) (n := 1) (kd := 12) (m := 13) (nx := 5) (r := 1) (tl := [(0, a)]) (st' := []) (by decide +kernel) rfl (by decide +kernel) rfl (x102 h C a (by omega)) ?_
  rintro v2 _ ⟨rfl, ⟨rfl, c1⟩ | ⟨Gv2, c1⟩⟩
  · refine zwnu_eq (q := 31) (nx := 8) (by decide +kernel) (by decide) (fun c3 => ?_) (fun c3 => ?_)
    · refine zwW_p [(0, 0, 0)] (q := 32) (ls' := [(2, 1), (0, a), (0, b), (0, c)]) (st' := [(0, 0)]) (by decide +kernel) rfl ?_
      refine zwW_ret (nx := 33) (a := 1) (b := 0) (by decide +kernel) rfl (Or.inr (Or.inl ⟨rfl, Or.inl rfl⟩)) ?_
      exact ⟨C, X.le (by decide) (by decide), by omega, by exact Or.inr ⟨by omega, by rfl, by omega⟩⟩
    · exfalso; omega
  · have lv2 := Gv2.1
    have ev2 := c1.2.2
    refine zwnu_eq (q := 31) (nx := 8) (by decide +kernel) (by omega) (fun c4 => ?_) (fun c4 => ?_)
    · exfalso; omega
    · refine zwW_p [(1, 0, 2), (1, 2, 0)] (q := 10) (ls' := [(2, 1), (0, a), (0, b), (0, c)]) (st' := [(0, b), (2, 1)]) (by decide +kernel) rfl ?_
      refine zwW_cm C.1 (op := 60) (k' := 102) (n := 1) (kd := 12) (m := 13) (nx := 13) (r := 1) (tl := [(0, b)]) (st' := []) (by decide +kernel) rfl (by decide +kernel) rfl (x102 h C b (by omega)) ?_
      rintro v6 _ ⟨rfl, ⟨rfl, c5⟩ | ⟨Gv6, c5⟩⟩
      · refine zwnu_eq (q := 31) (nx := 16) (by decide +kernel) (by decide) (fun c7 => ?_) (fun c7 => ?_)
        · refine zwW_p [(0, 0, 0)] (q := 32) (ls' := [(2, 1), (0, a), (0, b), (0, c)]) (st' := [(0, 0)]) (by decide +kernel) rfl ?_
          refine zwW_ret (nx := 33) (a := 1) (b := 0) (by decide +kernel) rfl (Or.inr (Or.inl ⟨rfl, Or.inl rfl⟩)) ?_
          exact ⟨C, X.le (by decide) (by decide), by omega, by exact Or.inr ⟨by omega, by rfl, by omega⟩⟩
        · exfalso; omega
      · have lv6 := Gv6.1
        have ev6 := c5.2.2
        refine zwnu_eq (q := 31) (nx := 16) (by decide +kernel) (by omega) (fun c8 => ?_) (fun c8 => ?_)
        · exfalso; omega
        · refine zwW_p [(1, 1, 0), (1, 2, 0)] (q := 18) (ls' := [(2, 1), (0, a), (0, b), (0, c)]) (st' := [(0, b), (0, a)]) (by decide +kernel) rfl ?_
          refine zwic_eq (q := 31) (nx := 21) (by decide +kernel) (fun c9 => ?_) (fun c9 => ?_)
          · refine zwW_p [(0, 0, 0)] (q := 32) (ls' := [(2, 1), (0, a), (0, b), (0, c)]) (st' := [(0, 0)]) (by decide +kernel) rfl ?_
            refine zwW_ret (nx := 33) (a := 1) (b := 0) (by decide +kernel) rfl (Or.inr (Or.inl ⟨rfl, Or.inl rfl⟩)) ?_
            exact ⟨C, X.le (by decide) (by decide), by omega, by exact Or.inr ⟨by omega, by rfl, by omega⟩⟩
          · refine zwW_p [(1, 3, 0), (0, 1, 0), (0, 9, 0)] (q := 25) (ls' := [(2, 1), (0, a), (0, b), (0, c)]) (st' := [(0, 9), (0, 1), (0, c)]) (by decide +kernel) rfl ?_
            refine zwW_cs (k' := 98) (n := 3) (nx := 28) (as := [(0, c), (0, 1), (0, 9)]) (st' := []) (by decide +kernel) rfl (x98 h C c 1 9 (by omega) (by omega) (by omega)) rfl ?_
            rintro x _ ⟨rfl, ⟨rfl, c10⟩ | ⟨rfl, c10⟩⟩
            · refine zwif_eq (q := 33) (nx := 31) (by decide +kernel) (fun c11 => ?_) (fun c11 => ?_)
              · exfalso; omega
              · refine zwW_p [(0, 0, 0)] (q := 32) (ls' := [(2, 1), (0, a), (0, b), (0, c)]) (st' := [(0, 0)]) (by decide +kernel) rfl ?_
                refine zwW_ret (nx := 33) (a := 1) (b := 0) (by decide +kernel) rfl (Or.inr (Or.inl ⟨rfl, Or.inl rfl⟩)) ?_
                exact ⟨C, X.le (by decide) (by decide), by omega, by exact Or.inr ⟨by omega, by rfl, by omega⟩⟩
            · refine zwif_eq (q := 33) (nx := 31) (by decide +kernel) (fun c12 => ?_) (fun c12 => ?_)
              · refine zwW_p [(1, 0, 2)] (q := 34) (ls' := [(2, 1), (0, a), (0, b), (0, c)]) (st' := [(2, 1)]) (by decide +kernel) rfl ?_
                refine zwW_gc C.1 (kd := 12) (bn := 6) (n := 13) (c := 6) (nx := 37) (by decide +kernel) ?_
                refine zwW_p [(1, 1, 0), (1, 2, 0), (1, 3, 0)] (q := 40) (ls' := [(2, 1), (0, a), (0, b), (0, c)]) (st' := [(0, c), (0, b), (0, a), (2, 6)]) (by decide +kernel) rfl ?_
                refine zwW_cmv C.1 (op := 60) (k' := 103) (n := 3) (kd := 8) (m := 2) (nx := 43) (r := 6) (tl := [(0, a), (0, b), (0, c)]) (st' := []) (by decide +kernel) rfl (by decide +kernel) rfl (x103 h C a b c (by omega) (by omega) (by omega) (by omega) (by omega) (by omega) (by omega) pW) ?_
                rintro h14 ⟨Ch14, Qh14, f13⟩
                have Xh14 : zXR msx5 (0) (0) h h14 := X.tr (c2 := 0) (s2 := 0) Qh14 (by decide +kernel) (by decide) (by decide)
                refine zwW_p [(0, 1, 0)] (q := 44) (ls' := [(2, 1), (0, a), (0, b), (0, c)]) (st' := [(0, 1)]) (by decide +kernel) rfl ?_
                refine zwW_ret (nx := 45) (a := 1) (b := 0) (by decide +kernel) rfl (Or.inr (Or.inl ⟨rfl, Or.inr rfl⟩)) ?_
                exact ⟨Ch14, Xh14.le (by decide) (by decide), by omega, by exact Or.inl ⟨by omega, by omega, by exact f13⟩⟩
              · exfalso; omega
-- WheelLand.far(II)I
theorem x7 {sc : List Int} (h : Hp) (C : CI h) (a b : Int) (q_a : -2147483648 ≤ a ∧ a ≤ 2147483647) (q_b : -2147483648 ≤ b ∧ b ≤ 2147483647) (pN : ∀ i : Nat, (i : Int) < fld h 2 2 → fld h (fld h (fld h 2 1) i) 0 = i) : zwC sc 6 7 [(2, 1), (0, a), (0, b)] h (zwRt 0 (fun x g => h = g ∧ (-2147483648 ≤ x ∧ x ≤ 2147483647) ∧ ((0 ≤ a ∧ a < fld h 2 2 ∧ 0 ≤ b ∧ b < fld h 2 2 ∧ x = zDa h a.toNat b.toNat) ∨ (x = -1 ∧ (a < 0 ∨ fld h 2 2 ≤ a ∨ b < 0 ∨ fld h 2 2 ≤ b))))) := by
  refine zwC_of (D := 5) 3 (by decide +kernel) rfl (ls := [(2, 1), (0, a), (0, b)]) rfl ?_
  have b22 := zLb_2 C
  refine zwW_p [(1, 0, 2), (1, 0, 2), (1, 1, 0)] (q := 3) (ls' := [(2, 1), (0, a), (0, b)]) (st' := [(0, a), (2, 1), (2, 1)]) (by decide +kernel) rfl ?_
  refine zwW_cm C.1 (op := 60) (k' := 102) (n := 1) (kd := 12) (m := 13) (nx := 6) (r := 1) (tl := [(0, a)]) (st' := [(2, 1)]) (by decide +kernel) rfl (by decide +kernel) rfl (x102 h C a (by omega)) ?_
  rintro v2 _ ⟨rfl, ⟨rfl, c1⟩ | ⟨Gv2, c1⟩⟩
  · refine zwW_p [(1, 0, 2), (1, 2, 0)] (q := 8) (ls' := [(2, 1), (0, a), (0, b)]) (st' := [(0, b), (2, 1), (2, 0), (2, 1)]) (by decide +kernel) rfl ?_
    refine zwW_cm C.1 (op := 60) (k' := 102) (n := 1) (kd := 12) (m := 13) (nx := 11) (r := 1) (tl := [(0, b)]) (st' := [(2, 0), (2, 1)]) (by decide +kernel) rfl (by decide +kernel) rfl (x102 h C b (by omega)) ?_
    rintro v4 _ ⟨rfl, ⟨rfl, c3⟩ | ⟨Gv4, c3⟩⟩
    · refine zwW_cm C.1 (op := 60) (k' := 105) (n := 2) (kd := 12) (m := 13) (nx := 14) (r := 1) (tl := [(2, 0), (2, 0)]) (st' := []) (by decide +kernel) rfl (by decide +kernel) rfl (x105 h C 0 0 (Or.inl rfl) (Or.inl rfl)) ?_
      rintro v5 _ ⟨rfl, f6, f7⟩
      refine zwW_ret (nx := 15) (a := 0) (b := 0) (by decide +kernel) rfl (Or.inl rfl) ?_
      exact ⟨rfl, by omega, by first | omega | (have n1 := pN a.toNat (by omega); have n2 := pN b.toNat (by omega); rw [← rfl] at n1; rw [← rfl] at n2; have q := f7.2 (by omega) (by omega) (by omega) (by omega) (by omega) (by omega); rw [show (fld h 0 0).toNat = a.toNat by omega, show (fld h 0 0).toNat = b.toNat by omega] at q; omega)⟩
    · have lv4 := Gv4.1
      have ev4 := c3.2.2
      refine zwW_cm C.1 (op := 60) (k' := 105) (n := 2) (kd := 12) (m := 13) (nx := 14) (r := 1) (tl := [(2, 0), (2, v4)]) (st' := []) (by decide +kernel) rfl (by decide +kernel) rfl (x105 h C 0 v4 (Or.inl rfl) (Or.inr Gv4)) ?_
      rintro v8 _ ⟨rfl, f9, f10⟩
      refine zwW_ret (nx := 15) (a := 0) (b := 0) (by decide +kernel) rfl (Or.inl rfl) ?_
      exact ⟨rfl, by omega, by first | omega | (have n1 := pN a.toNat (by omega); have n2 := pN b.toNat (by omega); rw [← ev4] at n1; rw [← rfl] at n2; have q := f10.2 (by omega) (by omega) (by omega) (by omega) (by omega) (by omega); rw [show (fld h v4 0).toNat = a.toNat by omega, show (fld h 0 0).toNat = b.toNat by omega] at q; omega)⟩
  · have lv2 := Gv2.1
    have ev2 := c1.2.2
    refine zwW_p [(1, 0, 2), (1, 2, 0)] (q := 8) (ls' := [(2, 1), (0, a), (0, b)]) (st' := [(0, b), (2, 1), (2, v2), (2, 1)]) (by decide +kernel) rfl ?_
    refine zwW_cm C.1 (op := 60) (k' := 102) (n := 1) (kd := 12) (m := 13) (nx := 11) (r := 1) (tl := [(0, b)]) (st' := [(2, v2), (2, 1)]) (by decide +kernel) rfl (by decide +kernel) rfl (x102 h C b (by omega)) ?_
    rintro v12 _ ⟨rfl, ⟨rfl, c11⟩ | ⟨Gv12, c11⟩⟩
    · refine zwW_cm C.1 (op := 60) (k' := 105) (n := 2) (kd := 12) (m := 13) (nx := 14) (r := 1) (tl := [(2, v2), (2, 0)]) (st' := []) (by decide +kernel) rfl (by decide +kernel) rfl (x105 h C v2 0 (Or.inr Gv2) (Or.inl rfl)) ?_
      rintro v13 _ ⟨rfl, f14, f15⟩
      refine zwW_ret (nx := 15) (a := 0) (b := 0) (by decide +kernel) rfl (Or.inl rfl) ?_
      exact ⟨rfl, by omega, by first | omega | (have n1 := pN a.toNat (by omega); have n2 := pN b.toNat (by omega); rw [← ev2] at n1; rw [← rfl] at n2; have q := f15.2 (by omega) (by omega) (by omega) (by omega) (by omega) (by omega); rw [show (fld h v2 0).toNat = a.toNat by omega, show (fld h 0 0).toNat = b.toNat by omega] at q; omega)⟩
    · have lv12 := Gv12.1
      have ev12 := c11.2.2
      refine zwW_cm C.1 (op := 60) (k' := 105) (n := 2) (kd := 12) (m := 13) (nx := 14) (r := 1) (tl := [(2, v2), (2, v12)]) (st' := []) (by decide +kernel) rfl (by decide +kernel) rfl (x105 h C v2 v12 (Or.inr Gv2) (Or.inr Gv12)) ?_
      rintro v16 _ ⟨rfl, f17, f18⟩
      refine zwW_ret (nx := 15) (a := 0) (b := 0) (by decide +kernel) rfl (Or.inl rfl) ?_
      exact ⟨rfl, by omega, by first | omega | (have n1 := pN a.toNat (by omega); have n2 := pN b.toNat (by omega); rw [← ev2] at n1; rw [← ev12] at n2; have q := f18.2 (by omega) (by omega) (by omega) (by omega) (by omega) (by omega); rw [show (fld h v2 0).toNat = a.toNat by omega, show (fld h v12 0).toNat = b.toNat by omega] at q; omega)⟩
def msx9 : Zms := [(3, 3, 0, 3)]
-- WheelLand.house(II)I
theorem x9 {sc : List Int} (h : Hp) (C : CI h) (a b : Int) (q_a : -2147483648 ≤ a ∧ a ≤ 2147483647) (q_b : -2147483648 ≤ b ∧ b ≤ 2147483647) (hl : h.length ≤ 999930000) : zwC sc 7 9 [(2, 1), (0, a), (0, b)] h (zwRt 0 (fun x g => CI g ∧ zXR msx9 (2) (1019) h g ∧ (-2147483648 ≤ x ∧ x ≤ 2147483647) ∧ (((x = fld h 3 2) ∧ (fld g 3 2 = fld h 3 2 + 1) ∧ (0 ≤ a ∧ a < fld h 2 2 ∧ 0 ≤ b ∧ b / 1000 ≤ 5 ∧ 1 ≤ b / 100 % 10 ∧ b / 10 % 10 ≤ 5 ∧ 1 ≤ b % 10 ∧ fld h 3 2 < 20 ∧ fld h 1 0 < 156) ∧ (∃ rr : Int, (365 < rr ∧ gH g rr) ∧ (∀ i : Nat, (i : Int) < fld h 3 2 → fld g (fld g 3 1) i = fld h (fld h 3 1) i) ∧ fld g (fld g 3 1) (fld h 3 2).toNat = rr ∧ (∀ j : Nat, fld g rr j = ([fld h 3 2, fld h (fld h 2 1) a.toNat, b / 1000, b / 100 % 10, b / 10 % 10, b % 10, 0, 10, 0, 0, 0, 0, 0, 0, 0, 0, 0, 0, 0] : List Int).getD j 0))) ∨ ((x = -1) ∧ (g = h) ∧ (a < 0 ∨ fld h 2 2 ≤ a ∨ b < 0 ∨ 5 < b / 1000 ∨ b / 100 % 10 < 1 ∨ 5 < b / 10 % 10 ∨ b % 10 < 1 ∨ 20 ≤ fld h 3 2 ∨ 156 ≤ fld h 1 0))))) := by
  refine zwC_of (D := 6) 4 (by decide +kernel) rfl (ls := [(2, 1), (0, a), (0, b), (9, 0)]) rfl ?_
  have X : zXR msx9 0 0 h h := zXR.rf _ _
  refine zwW_p [(1, 0, 2), (1, 1, 0)] (q := 2) (ls' := [(2, 1), (0, a), (0, b), (9, 0)]) (st' := [(0, a), (2, 1)]) (by decide +kernel) rfl ?_
  refine zwW_cm C.1 (op := 60) (k' := 102) (n := 1) (kd := 12) (m := 13) (nx := 5) (r := 1) (tl := [(0, a)]) (st' := []) (by decide +kernel) rfl (by decide +kernel) rfl (x102 h C a (by omega)) ?_
  rintro v2 _ ⟨rfl, ⟨rfl, c1⟩ | ⟨Gv2, c1⟩⟩
  · refine zwW_p [(2, 3, 2), (1, 3, 2)] (q := 7) (ls' := [(2, 1), (0, a), (0, b), (2, 0)]) (st' := [(2, 0)]) (by decide +kernel) rfl ?_
    refine zwnu_eq (q := 39) (nx := 10) (by decide +kernel) (by decide) (fun c3 => ?_) (fun c3 => ?_)
    · refine zwW_p [(0, -1, 0)] (q := 40) (ls' := [(2, 1), (0, a), (0, b), (2, 0)]) (st' := [(0, -1)]) (by decide +kernel) rfl ?_
      refine zwW_ret (nx := 41) (a := 0) (b := 0) (by decide +kernel) rfl (Or.inl rfl) ?_
      exact ⟨C, X.le (by decide) (by decide), by omega, by exact Or.inr ⟨by omega, by rfl, by omega⟩⟩
    · exfalso; omega
  · have lv2 := Gv2.1
    have ev2 := c1.2.2
    refine zwW_p [(2, 3, 2), (1, 3, 2)] (q := 7) (ls' := [(2, 1), (0, a), (0, b), (2, v2)]) (st' := [(2, v2)]) (by decide +kernel) rfl ?_
    refine zwnu_eq (q := 39) (nx := 10) (by decide +kernel) (by omega) (fun c4 => ?_) (fun c4 => ?_)
    · exfalso; omega
    · refine zwW_p [(1, 0, 2)] (q := 11) (ls' := [(2, 1), (0, a), (0, b), (2, v2)]) (st' := [(2, 1)]) (by decide +kernel) rfl ?_
      refine zwW_gc C.1 (kd := 12) (bn := 3) (n := 13) (c := 3) (nx := 14) (by decide +kernel) ?_
      refine zwW_cm C.1 (op := 60) (k' := 96) (n := 0) (kd := 0) (m := 3) (nx := 17) (r := 3) (tl := []) (st' := []) (by decide +kernel) rfl (by decide +kernel) rfl (x96_3 C) ?_
      rintro v5 _ ⟨rfl, ev5⟩
      have bv5 := zLb_3 C
      refine zwW_p [(0, 20, 0)] (q := 19) (ls' := [(2, 1), (0, a), (0, b), (2, v2)]) (st' := [(0, 20), (0, v5)]) (by decide +kernel) rfl ?_
      refine zwic_ge (q := 39) (nx := 22) (by decide +kernel) (fun c6 => ?_) (fun c6 => ?_)
      · refine zwW_p [(0, -1, 0)] (q := 40) (ls' := [(2, 1), (0, a), (0, b), (2, v2)]) (st' := [(0, -1)]) (by decide +kernel) rfl ?_
        refine zwW_ret (nx := 41) (a := 0) (b := 0) (by decide +kernel) rfl (Or.inl rfl) ?_
        exact ⟨C, X.le (by decide) (by decide), by omega, by exact Or.inr ⟨by omega, by rfl, by omega⟩⟩
      · refine zwW_p [(1, 0, 2)] (q := 23) (ls' := [(2, 1), (0, a), (0, b), (2, v2)]) (st' := [(2, 1)]) (by decide +kernel) rfl ?_
        refine zwW_gs C.1 (kd := 12) (bn := 0) (n := 13) (t := 0) (lo := 0) (hi := 156) (nx := 26) (by decide +kernel) ?_
        intro v7 ev7 lv7 uv7
        refine zwW_p [(0, 156, 0)] (q := 29) (ls' := [(2, 1), (0, a), (0, b), (2, v2)]) (st' := [(0, 156), (0, v7)]) (by decide +kernel) rfl ?_
        refine zwic_ge (q := 39) (nx := 32) (by decide +kernel) (fun c8 => ?_) (fun c8 => ?_)
        · refine zwW_p [(0, -1, 0)] (q := 40) (ls' := [(2, 1), (0, a), (0, b), (2, v2)]) (st' := [(0, -1)]) (by decide +kernel) rfl ?_
          refine zwW_ret (nx := 41) (a := 0) (b := 0) (by decide +kernel) rfl (Or.inl rfl) ?_
          exact ⟨C, X.le (by decide) (by decide), by omega, by exact Or.inr ⟨by omega, by rfl, by omega⟩⟩
        · refine zwW_p [(1, 2, 0)] (q := 33) (ls' := [(2, 1), (0, a), (0, b), (2, v2)]) (st' := [(0, b)]) (by decide +kernel) rfl ?_
          refine zwW_cs (k' := 107) (n := 1) (nx := 36) (as := [(0, b)]) (st' := []) (by decide +kernel) rfl (x107 h C b (by omega)) rfl ?_
          rintro x _ ⟨rfl, ⟨rfl, c9⟩ | ⟨rfl, c9⟩⟩
          · refine zwif_ne (q := 41) (nx := 39) (by decide +kernel) (fun c10 => ?_) (fun c10 => ?_)
            · refine zwW_p [(1, 0, 2)] (q := 42) (ls' := [(2, 1), (0, a), (0, b), (2, v2)]) (st' := [(2, 1)]) (by decide +kernel) rfl ?_
              refine zwW_gc C.1 (kd := 12) (bn := 3) (n := 13) (c := 3) (nx := 45) (by decide +kernel) ?_
              refine zwW_new (kd := 4) (n := 19) (nx := 48) (by decide +kernel) rfl rfl ?_
              rintro h11 r12 eh11 er12
              have Oh11 : zOld h h11 := by rw [eh11]; exact zOld.app _
              have Yh11 : zDy h11 := by rw [eh11]; exact C.2.1.app (fun x hx => by rw [List.eq_of_mem_replicate hx]; decide)
              have Ch11 : CI h11 := C.old Oh11 Yh11
              have Xh11 := Oh11.X C
              have th11_3_2 : fld h11 3 2 = fld h 3 2 := Xh11.f (a1 := 3) (a2 := 3) (j1 := 2) (j2 := 3) (by decide +kernel) (by first | decide | exact ⟨by decide, by decide⟩) (by first | decide | exact ⟨by decide, by decide⟩) (by first | decide | exact ⟨by decide, by decide⟩)
              have Gh11_0 : gV h11 v2 := Gv2.x Xh11
              refine zwW_p [(12, 0, 0), (1, 0, 2)] (q := 50) (ls' := [(2, 1), (0, a), (0, b), (2, v2)]) (st' := [(2, 1), (2, r12), (2, r12), (2, 3)]) (by decide +kernel) rfl ?_
              refine zwW_gc Ch11.1 (kd := 12) (bn := 3) (n := 13) (c := 3) (nx := 53) (by decide +kernel) ?_
              refine zwW_cm Ch11.1 (op := 60) (k' := 96) (n := 0) (kd := 0) (m := 3) (nx := 56) (r := 3) (tl := []) (st' := [(2, r12), (2, r12), (2, 3)]) (by decide +kernel) rfl (by decide +kernel) rfl (x96_3 Ch11) ?_
              rintro v13 _ ⟨rfl, ev13⟩
              have bv13 := zLb_3 Ch11
              refine zwW_p [(1, 3, 2), (1, 2, 0)] (q := 58) (ls' := [(2, 1), (0, a), (0, b), (2, v2)]) (st' := [(0, b), (2, v2), (0, v13), (2, r12), (2, r12), (2, 3)]) (by decide +kernel) rfl ?_
              subst er12 eh11
              refine zwW_cvv (op := 62) (k' := 108) (n := 3) (kd := 4) (m := 19) (nx := 61) (r := ((h.length + 1 : Nat) : Int)) (tl := [(0, v13), (2, v2), (0, b)]) (st' := [(2, ((h.length + 1 : Nat) : Int)), (2, 3)]) (by decide +kernel) rfl (by decide +kernel) (sh_new _ _) (x108 h C v13 v2 b (by omega) (by omega) Gv2) rfl ?_
              rintro h14 ⟨Ch14, Qh14, Nh14, Fh14_0⟩
              obtain ⟨nr12, err12⟩ : ∃ z, z = ((h.length + 1 : Nat) : Int) := ⟨_, rfl⟩
              rw [← err12] at Nh14 ⊢
              try rw [← err12] at Fh14_0
              have Xh14 : zXR msx9 (1) (19) h h14 := X.tr (c2 := 1) (s2 := 19) Qh14 (by decide +kernel) (by decide) (by decide)
              have Gh14_0 : gV h14 v2 := Gv2.x Qh14
              have th14_3_2 : fld h14 3 2 = fld h 3 2 := Qh14.f (a1 := 3) (a2 := 3) (j1 := 2) (j2 := 3) (by decide +kernel) (by first | decide | exact ⟨by decide, by decide⟩) (by first | decide | exact ⟨by decide, by decide⟩) (by first | decide | exact ⟨by decide, by decide⟩)
              have lnr12 := Nh14.1
              refine zwW_cm Ch14.1 (op := 60) (k' := 100) (n := 1) (kd := 0) (m := 3) (nx := 64) (r := 3) (tl := [(2, nr12)]) (st' := []) (by decide +kernel) rfl (by decide +kernel) rfl (x100_3 Ch14 Nh14 (by omega) (by have := Xh14.hl C Ch14 (by decide) hl; omega)) ?_
              rintro x h16 ⟨rfl, Ah16⟩
              have Ch16 := Ah16.1
              have Qh16 : zXR [(3, 3, 0, 3)] (1) (1000) h14 h16 := Ah16.2.1
              have zh16 : fld h16 3 2 = fld h14 3 2 + 1 := Ah16.2.2.1
              have Xh16 : zXR msx9 (2) (1019) h h16 := Xh14.tr (c2 := 2) (s2 := 1019) Qh16 (by decide +kernel) (by decide) (by decide)
              have Gh16_0 : gV h16 v2 := Gh14_0.x Qh16
              refine zwW_p [(15, 0, 0), (1, 0, 2)] (q := 66) (ls' := [(2, 1), (0, a), (0, b), (2, v2)]) (st' := [(2, 1)]) (by decide +kernel) rfl ?_
              refine zwW_gc Ch16.1 (kd := 12) (bn := 3) (n := 13) (c := 3) (nx := 69) (by decide +kernel) ?_
              refine zwW_cm Ch16.1 (op := 60) (k' := 96) (n := 0) (kd := 0) (m := 3) (nx := 72) (r := 3) (tl := []) (st' := []) (by decide +kernel) rfl (by decide +kernel) rfl (x96_3 Ch16) ?_
              rintro v17 _ ⟨rfl, ev17⟩
              have bv17 := zLb_3 Ch16
              refine zwW_p [(0, 1, 0)] (q := 73) (ls' := [(2, 1), (0, a), (0, b), (2, v2)]) (st' := [(0, 1), (0, v17)]) (by decide +kernel) rfl ?_
              refine zwW_sub (nx := 74) (by decide +kernel) (by first | omega | exact ⟨by omega, by omega⟩) ?_
              refine zwW_ret (nx := 75) (a := 0) (b := 0) (by decide +kernel) rfl (Or.inl rfl) ?_
              exact ⟨Ch16, Xh16.le (by decide) (by decide), by omega, by exact Or.inl ⟨by omega, by omega, by omega, by obtain ⟨rr, a1, a2, a3, a4⟩ := zNew C Ch14 Qh14 Ah16 (by decide) Nh14 Fh14_0 (by decide) rfl; have hv : v13 = fld h 3 2 := (by omega); exact ⟨rr, a1, a2, a3, fun j => by (rw [a4 j, hv, ev2]; try rfl)⟩⟩⟩
            · exfalso; omega
          · refine zwif_ne (q := 41) (nx := 39) (by decide +kernel) (fun c18 => ?_) (fun c18 => ?_)
            · exfalso; omega
            · refine zwW_p [(0, -1, 0)] (q := 40) (ls' := [(2, 1), (0, a), (0, b), (2, v2)]) (st' := [(0, -1)]) (by decide +kernel) rfl ?_
              refine zwW_ret (nx := 41) (a := 0) (b := 0) (by decide +kernel) rfl (Or.inl rfl) ?_
              exact ⟨C, X.le (by decide) (by decide), by omega, by exact Or.inr ⟨by omega, by rfl, by omega⟩⟩
def msx11 : Zms := [(1004, 1004, 11, 12), (1004, 1004, 12, 13), (1004, 1004, 13, 14)]
-- WheelLand.loom(III)Z
theorem x11 {sc : List Int} (h : Hp) (C : CI h) (a b c : Int) (q_a : -2147483648 ≤ a ∧ a ≤ 2147483647) (q_b : -2147483648 ≤ b ∧ b ≤ 2147483647) (q_c : -2147483648 ≤ c ∧ c ≤ 2147483647) : zwC sc 6 11 [(2, 1), (0, a), (0, b), (0, c)] h (zwRt 0 (fun x g => CI g ∧ zXR msx11 (0) (0) h g ∧ (0 ≤ x ∧ x ≤ 1) ∧ (((x = 1) ∧ (0 ≤ a ∧ a < fld h 3 2 ∧ fld h (fld h (fld h 3 1) a.toNat) 13 ≤ 0 ∧ 0 ≤ b ∧ 4 ≤ b / 100 ∧ b / 100 ≤ b % 100 ∧ b % 100 ≤ 60 ∧ 1 ≤ c ∧ c ≤ 40) ∧ (∀ (rr : Int) (nn : Nat), 365 < rr → sh h rr = some (4, nn) → fld g rr 11 = if rr = fld h (fld h 3 1) a.toNat then b / 100 else fld h rr 11) ∧ (∀ (rr : Int) (nn : Nat), 365 < rr → sh h rr = some (4, nn) → fld g rr 12 = if rr = fld h (fld h 3 1) a.toNat then b % 100 else fld h rr 12) ∧ (∀ (rr : Int) (nn : Nat), 365 < rr → sh h rr = some (4, nn) → fld g rr 13 = if rr = fld h (fld h 3 1) a.toNat then c else fld h rr 13)) ∨ ((x = 0) ∧ (g = h) ∧ (a < 0 ∨ fld h 3 2 ≤ a ∨ 0 < fld h (fld h (fld h 3 1) a.toNat) 13 ∨ b < 0 ∨ b / 100 < 4 ∨ b % 100 < b / 100 ∨ 60 < b % 100 ∨ c < 1 ∨ 40 < c))))) := by
  refine zwC_of (D := 5) 7 (by decide +kernel) rfl (ls := [(2, 1), (0, a), (0, b), (0, c), (9, 0), (9, 0), (9, 0)]) rfl ?_
  have X : zXR msx11 0 0 h h := zXR.rf _ _
  have T1 := zt100 (b := b) (by first | omega | exact ⟨by omega, by omega⟩)
  refine zwW_p [(1, 0, 2), (1, 1, 0)] (q := 2) (ls' := [(2, 1), (0, a), (0, b), (0, c), (9, 0), (9, 0), (9, 0)]) (st' := [(0, a), (2, 1)]) (by decide +kernel) rfl ?_
  refine zwW_cm C.1 (op := 60) (k' := 109) (n := 1) (kd := 12) (m := 13) (nx := 5) (r := 1) (tl := [(0, a)]) (st' := []) (by decide +kernel) rfl (by decide +kernel) rfl (x109 h C a (by omega)) ?_
  rintro v2 _ ⟨rfl, ⟨rfl, c1⟩ | ⟨Gv2, c1⟩⟩
  · refine zwW_p [(2, 4, 2), (1, 2, 0), (0, 100, 0)] (q := 10) (ls' := [(2, 1), (0, a), (0, b), (0, c), (2, 0), (9, 0), (9, 0)]) (st' := [(0, 100), (0, b)]) (by decide +kernel) rfl ?_
    refine zwW_tdw (nx := 11) (by decide +kernel) (by omega) ?_
    intro v3 ev3 lv3 uv3
    refine zwW_p [(2, 5, 0), (1, 2, 0), (0, 100, 0)] (q := 16) (ls' := [(2, 1), (0, a), (0, b), (0, c), (2, 0), (0, v3), (9, 0)]) (st' := [(0, 100), (0, b)]) (by decide +kernel) rfl ?_
    refine zwW_tmw (nx := 17) (by decide +kernel) (by first | omega | exact ⟨by omega, by omega⟩) (by omega) ?_
    intro v4 ev4 lv4 uv4
    refine zwW_p [(2, 6, 0), (1, 4, 2)] (q := 21) (ls' := [(2, 1), (0, a), (0, b), (0, c), (2, 0), (0, v3), (0, v4)]) (st' := [(2, 0)]) (by decide +kernel) rfl ?_
    refine zwnu_eq (q := 62) (nx := 24) (by decide +kernel) (by decide) (fun c5 => ?_) (fun c5 => ?_)
    · refine zwW_p [(0, 0, 0)] (q := 63) (ls' := [(2, 1), (0, a), (0, b), (0, c), (2, 0), (0, v3), (0, v4)]) (st' := [(0, 0)]) (by decide +kernel) rfl ?_
      refine zwW_ret (nx := 64) (a := 1) (b := 0) (by decide +kernel) rfl (Or.inr (Or.inl ⟨rfl, Or.inl rfl⟩)) ?_
      exact ⟨C, X.le (by decide) (by decide), by omega, by exact Or.inr ⟨by omega, by rfl, by first | omega | (rw [← rfl]; omega)⟩⟩
    · exfalso; omega
  · have lv2 := Gv2.1
    have ev2 := c1.2.2
    refine zwW_p [(2, 4, 2), (1, 2, 0), (0, 100, 0)] (q := 10) (ls' := [(2, 1), (0, a), (0, b), (0, c), (2, v2), (9, 0), (9, 0)]) (st' := [(0, 100), (0, b)]) (by decide +kernel) rfl ?_
    refine zwW_tdw (nx := 11) (by decide +kernel) (by omega) ?_
    intro v6 ev6 lv6 uv6
    refine zwW_p [(2, 5, 0), (1, 2, 0), (0, 100, 0)] (q := 16) (ls' := [(2, 1), (0, a), (0, b), (0, c), (2, v2), (0, v6), (9, 0)]) (st' := [(0, 100), (0, b)]) (by decide +kernel) rfl ?_
    refine zwW_tmw (nx := 17) (by decide +kernel) (by first | omega | exact ⟨by omega, by omega⟩) (by omega) ?_
    intro v7 ev7 lv7 uv7
    refine zwW_p [(2, 6, 0), (1, 4, 2)] (q := 21) (ls' := [(2, 1), (0, a), (0, b), (0, c), (2, v2), (0, v6), (0, v7)]) (st' := [(2, v2)]) (by decide +kernel) rfl ?_
    refine zwnu_eq (q := 62) (nx := 24) (by decide +kernel) (by omega) (fun c8 => ?_) (fun c8 => ?_)
    · exfalso; omega
    · refine zwW_p [(1, 4, 2)] (q := 26) (ls' := [(2, 1), (0, a), (0, b), (0, c), (2, v2), (0, v6), (0, v7)]) (st' := [(2, v2)]) (by decide +kernel) rfl ?_
      refine zwW_cv (op := 60) (k' := 110) (n := 0) (kd := 4) (m := 19) (nx := 29) (r := v2) (tl := []) (st' := []) (by decide +kernel) rfl (by decide +kernel) Gv2.2.1 (x110 h C v2 Gv2) rfl ?_
      rintro x _ ⟨rfl, ⟨rfl, c9⟩ | ⟨rfl, c9⟩⟩
      · refine zwif_ne (q := 62) (nx := 32) (by decide +kernel) (fun c10 => ?_) (fun c10 => ?_)
        · refine zwW_p [(0, 0, 0)] (q := 63) (ls' := [(2, 1), (0, a), (0, b), (0, c), (2, v2), (0, v6), (0, v7)]) (st' := [(0, 0)]) (by decide +kernel) rfl ?_
          refine zwW_ret (nx := 64) (a := 1) (b := 0) (by decide +kernel) rfl (Or.inr (Or.inl ⟨rfl, Or.inl rfl⟩)) ?_
          exact ⟨C, X.le (by decide) (by decide), by omega, by exact Or.inr ⟨by omega, by rfl, by first | omega | (rw [← ev2]; omega)⟩⟩
        · exfalso; omega
      · refine zwif_ne (q := 62) (nx := 32) (by decide +kernel) (fun c11 => ?_) (fun c11 => ?_)
        · exfalso; omega
        · refine zwW_p [(1, 5, 0), (0, 4, 0)] (q := 35) (ls' := [(2, 1), (0, a), (0, b), (0, c), (2, v2), (0, v6), (0, v7)]) (st' := [(0, 4), (0, v6)]) (by decide +kernel) rfl ?_
          refine zwic_lt (q := 62) (nx := 38) (by decide +kernel) (fun c12 => ?_) (fun c12 => ?_)
          · refine zwW_p [(0, 0, 0)] (q := 63) (ls' := [(2, 1), (0, a), (0, b), (0, c), (2, v2), (0, v6), (0, v7)]) (st' := [(0, 0)]) (by decide +kernel) rfl ?_
            refine zwW_ret (nx := 64) (a := 1) (b := 0) (by decide +kernel) rfl (Or.inr (Or.inl ⟨rfl, Or.inl rfl⟩)) ?_
            exact ⟨C, X.le (by decide) (by decide), by omega, by exact Or.inr ⟨by omega, by rfl, by first | omega | (rw [← ev2]; omega)⟩⟩
          · refine zwW_p [(1, 5, 0), (1, 6, 0)] (q := 42) (ls' := [(2, 1), (0, a), (0, b), (0, c), (2, v2), (0, v6), (0, v7)]) (st' := [(0, v7), (0, v6)]) (by decide +kernel) rfl ?_
            refine zwic_gt (q := 62) (nx := 45) (by decide +kernel) (fun c13 => ?_) (fun c13 => ?_)
            · refine zwW_p [(0, 0, 0)] (q := 63) (ls' := [(2, 1), (0, a), (0, b), (0, c), (2, v2), (0, v6), (0, v7)]) (st' := [(0, 0)]) (by decide +kernel) rfl ?_
              refine zwW_ret (nx := 64) (a := 1) (b := 0) (by decide +kernel) rfl (Or.inr (Or.inl ⟨rfl, Or.inl rfl⟩)) ?_
              exact ⟨C, X.le (by decide) (by decide), by omega, by exact Or.inr ⟨by omega, by rfl, by first | omega | (rw [← ev2]; omega)⟩⟩
            · refine zwW_p [(1, 6, 0), (0, 60, 0)] (q := 49) (ls' := [(2, 1), (0, a), (0, b), (0, c), (2, v2), (0, v6), (0, v7)]) (st' := [(0, 60), (0, v7)]) (by decide +kernel) rfl ?_
              refine zwic_gt (q := 62) (nx := 52) (by decide +kernel) (fun c14 => ?_) (fun c14 => ?_)
              · refine zwW_p [(0, 0, 0)] (q := 63) (ls' := [(2, 1), (0, a), (0, b), (0, c), (2, v2), (0, v6), (0, v7)]) (st' := [(0, 0)]) (by decide +kernel) rfl ?_
                refine zwW_ret (nx := 64) (a := 1) (b := 0) (by decide +kernel) rfl (Or.inr (Or.inl ⟨rfl, Or.inl rfl⟩)) ?_
                exact ⟨C, X.le (by decide) (by decide), by omega, by exact Or.inr ⟨by omega, by rfl, by first | omega | (rw [← ev2]; omega)⟩⟩
              · refine zwW_p [(1, 3, 0), (0, 1, 0), (0, 40, 0)] (q := 56) (ls' := [(2, 1), (0, a), (0, b), (0, c), (2, v2), (0, v6), (0, v7)]) (st' := [(0, 40), (0, 1), (0, c)]) (by decide +kernel) rfl ?_
                refine zwW_cs (k' := 98) (n := 3) (nx := 59) (as := [(0, c), (0, 1), (0, 40)]) (st' := []) (by decide +kernel) rfl (x98 h C c 1 40 (by omega) (by omega) (by omega)) rfl ?_
                rintro x _ ⟨rfl, ⟨rfl, c15⟩ | ⟨rfl, c15⟩⟩
                · refine zwif_eq (q := 64) (nx := 62) (by decide +kernel) (fun c16 => ?_) (fun c16 => ?_)
                  · exfalso; omega
                  · refine zwW_p [(0, 0, 0)] (q := 63) (ls' := [(2, 1), (0, a), (0, b), (0, c), (2, v2), (0, v6), (0, v7)]) (st' := [(0, 0)]) (by decide +kernel) rfl ?_
                    refine zwW_ret (nx := 64) (a := 1) (b := 0) (by decide +kernel) rfl (Or.inr (Or.inl ⟨rfl, Or.inl rfl⟩)) ?_
                    exact ⟨C, X.le (by decide) (by decide), by omega, by exact Or.inr ⟨by omega, by rfl, by first | omega | (rw [← ev2]; omega)⟩⟩
                · refine zwif_eq (q := 64) (nx := 62) (by decide +kernel) (fun c17 => ?_) (fun c17 => ?_)
                  · refine zwW_p [(1, 4, 2), (1, 5, 0)] (q := 68) (ls' := [(2, 1), (0, a), (0, b), (0, c), (2, v2), (0, v6), (0, v7)]) (st' := [(0, v6), (2, v2)]) (by decide +kernel) rfl ?_
                    refine zwX_pi C (kd := 4) (bn := 11) (n := 19) (nx := 71) (by decide +kernel) Gv2.2.1 Gv2.1 (by first | omega | exact ⟨by omega, by omega⟩) ?_
                    rintro h18 eh18 Ch18 Qh18
                    have Xh18 : zXR msx11 (0) (0) h h18 := X.tr (c2 := 0) (s2 := 0) Qh18 (by decide +kernel) (by decide) (by decide)
                    have Gh18_0 : gH h18 v2 := Gv2.x Qh18
                    have Yh18_4_11 : ∀ (rr : Int) (nn : Nat), 365 < rr → sh h rr = some (4, nn) → fld h18 rr 11 = (if rr = v2 then v6 else fld h rr 11) := by
                      intro rr nn z1 z2
                      by_cases zq : rr = v2
                      · rw [if_pos zq, zq, eh18]; exact fld_wr_eq Gv2.2.1 (by decide)
                      · rw [if_neg zq, eh18, fld_wr (Or.inl zq)]
                    have Yh18_4_12 : ∀ (rr : Int) (nn : Nat), 365 < rr → sh h rr = some (4, nn) → fld h18 rr 12 = fld h rr 12 := by
                      intro rr nn z1 z2
                      exact (Qh18.dy (k := 4) (j1 := 12) (j2 := 13) (by decide +kernel) z1 (X.1 _ _ z2) (by decide) (by first | decide | exact ⟨by decide, by decide⟩)).trans rfl
                    have Yh18_4_13 : ∀ (rr : Int) (nn : Nat), 365 < rr → sh h rr = some (4, nn) → fld h18 rr 13 = fld h rr 13 := by
                      intro rr nn z1 z2
                      exact (Qh18.dy (k := 4) (j1 := 13) (j2 := 14) (by decide +kernel) z1 (X.1 _ _ z2) (by decide) (by first | decide | exact ⟨by decide, by decide⟩)).trans rfl
                    refine zwW_p [(1, 4, 2), (1, 6, 0)] (q := 75) (ls' := [(2, 1), (0, a), (0, b), (0, c), (2, v2), (0, v6), (0, v7)]) (st' := [(0, v7), (2, v2)]) (by decide +kernel) rfl ?_
                    refine zwX_pi Ch18 (kd := 4) (bn := 12) (n := 19) (nx := 78) (by decide +kernel) Gh18_0.2.1 Gh18_0.1 (by first | omega | exact ⟨by omega, by omega⟩) ?_
                    rintro h19 eh19 Ch19 Qh19
                    have Xh19 : zXR msx11 (0) (0) h h19 := Xh18.tr (c2 := 0) (s2 := 0) Qh19 (by decide +kernel) (by decide) (by decide)
                    have Gh19_0 : gH h19 v2 := Gh18_0.x Qh19
                    have Yh19_4_11 : ∀ (rr : Int) (nn : Nat), 365 < rr → sh h rr = some (4, nn) → fld h19 rr 11 = (if rr = v2 then v6 else fld h rr 11) := by
                      intro rr nn z1 z2
                      exact (Qh19.dy (k := 4) (j1 := 11) (j2 := 12) (by decide +kernel) z1 (Xh18.1 _ _ z2) (by decide) (by first | decide | exact ⟨by decide, by decide⟩)).trans (Yh18_4_11 rr nn z1 z2)
                    have Yh19_4_12 : ∀ (rr : Int) (nn : Nat), 365 < rr → sh h rr = some (4, nn) → fld h19 rr 12 = (if rr = v2 then v7 else fld h rr 12) := by
                      intro rr nn z1 z2
                      by_cases zq : rr = v2
                      · rw [if_pos zq, zq, eh19]; exact fld_wr_eq Gh18_0.2.1 (by decide)
                      · rw [if_neg zq, eh19, fld_wr (Or.inl zq)]; exact (Yh18_4_12 rr nn z1 z2)
                    have Yh19_4_13 : ∀ (rr : Int) (nn : Nat), 365 < rr → sh h rr = some (4, nn) → fld h19 rr 13 = fld h rr 13 := by
                      intro rr nn z1 z2
                      exact (Qh19.dy (k := 4) (j1 := 13) (j2 := 14) (by decide +kernel) z1 (Xh18.1 _ _ z2) (by decide) (by first | decide | exact ⟨by decide, by decide⟩)).trans (Yh18_4_13 rr nn z1 z2)
                    refine zwW_p [(1, 4, 2), (1, 3, 0)] (q := 81) (ls' := [(2, 1), (0, a), (0, b), (0, c), (2, v2), (0, v6), (0, v7)]) (st' := [(0, c), (2, v2)]) (by decide +kernel) rfl ?_
                    refine zwX_pi Ch19 (kd := 4) (bn := 13) (n := 19) (nx := 84) (by decide +kernel) Gh19_0.2.1 Gh19_0.1 (by first | omega | exact ⟨by omega, by omega⟩) ?_
                    rintro h20 eh20 Ch20 Qh20
                    have Xh20 : zXR msx11 (0) (0) h h20 := Xh19.tr (c2 := 0) (s2 := 0) Qh20 (by decide +kernel) (by decide) (by decide)
                    have Gh20_0 : gH h20 v2 := Gh19_0.x Qh20
                    have Yh20_4_11 : ∀ (rr : Int) (nn : Nat), 365 < rr → sh h rr = some (4, nn) → fld h20 rr 11 = (if rr = v2 then v6 else fld h rr 11) := by
                      intro rr nn z1 z2
                      exact (Qh20.dy (k := 4) (j1 := 11) (j2 := 12) (by decide +kernel) z1 (Xh19.1 _ _ z2) (by decide) (by first | decide | exact ⟨by decide, by decide⟩)).trans (Yh19_4_11 rr nn z1 z2)
                    have Yh20_4_12 : ∀ (rr : Int) (nn : Nat), 365 < rr → sh h rr = some (4, nn) → fld h20 rr 12 = (if rr = v2 then v7 else fld h rr 12) := by
                      intro rr nn z1 z2
                      exact (Qh20.dy (k := 4) (j1 := 12) (j2 := 13) (by decide +kernel) z1 (Xh19.1 _ _ z2) (by decide) (by first | decide | exact ⟨by decide, by decide⟩)).trans (Yh19_4_12 rr nn z1 z2)
                    have Yh20_4_13 : ∀ (rr : Int) (nn : Nat), 365 < rr → sh h rr = some (4, nn) → fld h20 rr 13 = (if rr = v2 then c else fld h rr 13) := by
                      intro rr nn z1 z2
                      by_cases zq : rr = v2
                      · rw [if_pos zq, zq, eh20]; exact fld_wr_eq Gh19_0.2.1 (by decide)
                      · rw [if_neg zq, eh20, fld_wr (Or.inl zq)]; exact (Yh19_4_13 rr nn z1 z2)
                    refine zwW_p [(0, 1, 0)] (q := 85) (ls' := [(2, 1), (0, a), (0, b), (0, c), (2, v2), (0, v6), (0, v7)]) (st' := [(0, 1)]) (by decide +kernel) rfl ?_
                    refine zwW_ret (nx := 86) (a := 1) (b := 0) (by decide +kernel) rfl (Or.inr (Or.inl ⟨rfl, Or.inr rfl⟩)) ?_
                    exact ⟨Ch20, Xh20.le (by decide) (by decide), by omega, by exact Or.inl ⟨by omega, by first | omega | (rw [← ev2]; omega), by intro rr nn z1 z2; rw [← ev2]; first | exact Yh20_4_11 rr nn z1 z2 | (rw [Yh20_4_11 rr nn z1 z2]; split <;> first | omega | (split <;> omega)), by intro rr nn z1 z2; rw [← ev2]; first | exact Yh20_4_12 rr nn z1 z2 | (rw [Yh20_4_12 rr nn z1 z2]; split <;> first | omega | (split <;> omega)), by intro rr nn z1 z2; rw [← ev2]; first | exact Yh20_4_13 rr nn z1 z2 | (rw [Yh20_4_13 rr nn z1 z2]; split <;> first | omega | (split <;> omega))⟩⟩
                  · exfalso; omega
def msx13 : Zms := [(1004, 1004, 7, 8)]
-- WheelLand.aim(II)Z
theorem x13 {sc : List Int} (h : Hp) (C : CI h) (a b : Int) (q_a : -2147483648 ≤ a ∧ a ≤ 2147483647) (q_b : -2147483648 ≤ b ∧ b ≤ 2147483647) : zwC sc 6 13 [(2, 1), (0, a), (0, b)] h (zwRt 0 (fun x g => CI g ∧ zXR msx13 (0) (0) h g ∧ (0 ≤ x ∧ x ≤ 1) ∧ (((x = 1) ∧ (0 ≤ a ∧ a < fld h 3 2 ∧ 4 ≤ b ∧ b ≤ 60) ∧ (∀ (rr : Int) (nn : Nat), 365 < rr → sh h rr = some (4, nn) → fld g rr 7 = if rr = fld h (fld h 3 1) a.toNat then b else fld h rr 7)) ∨ ((x = 0) ∧ (g = h) ∧ (a < 0 ∨ fld h 3 2 ≤ a ∨ b < 4 ∨ 60 < b))))) := by
  refine zwC_of (D := 5) 4 (by decide +kernel) rfl (ls := [(2, 1), (0, a), (0, b), (9, 0)]) rfl ?_
  have X : zXR msx13 0 0 h h := zXR.rf _ _
  refine zwW_p [(1, 0, 2), (1, 1, 0)] (q := 2) (ls' := [(2, 1), (0, a), (0, b), (9, 0)]) (st' := [(0, a), (2, 1)]) (by decide +kernel) rfl ?_
  refine zwW_cm C.1 (op := 60) (k' := 109) (n := 1) (kd := 12) (m := 13) (nx := 5) (r := 1) (tl := [(0, a)]) (st' := []) (by decide +kernel) rfl (by decide +kernel) rfl (x109 h C a (by omega)) ?_
  rintro v2 _ ⟨rfl, ⟨rfl, c1⟩ | ⟨Gv2, c1⟩⟩
  · refine zwW_p [(2, 3, 2), (1, 3, 2)] (q := 7) (ls' := [(2, 1), (0, a), (0, b), (2, 0)]) (st' := [(2, 0)]) (by decide +kernel) rfl ?_
    refine zwnu_eq (q := 20) (nx := 10) (by decide +kernel) (by decide) (fun c3 => ?_) (fun c3 => ?_)
    · refine zwW_p [(0, 0, 0)] (q := 21) (ls' := [(2, 1), (0, a), (0, b), (2, 0)]) (st' := [(0, 0)]) (by decide +kernel) rfl ?_
      refine zwW_ret (nx := 22) (a := 1) (b := 0) (by decide +kernel) rfl (Or.inr (Or.inl ⟨rfl, Or.inl rfl⟩)) ?_
      exact ⟨C, X.le (by decide) (by decide), by omega, by exact Or.inr ⟨by omega, by rfl, by omega⟩⟩
    · exfalso; omega
  · have lv2 := Gv2.1
    have ev2 := c1.2.2
    refine zwW_p [(2, 3, 2), (1, 3, 2)] (q := 7) (ls' := [(2, 1), (0, a), (0, b), (2, v2)]) (st' := [(2, v2)]) (by decide +kernel) rfl ?_
    refine zwnu_eq (q := 20) (nx := 10) (by decide +kernel) (by omega) (fun c4 => ?_) (fun c4 => ?_)
    · exfalso; omega
    · refine zwW_p [(1, 2, 0), (0, 4, 0), (0, 60, 0)] (q := 14) (ls' := [(2, 1), (0, a), (0, b), (2, v2)]) (st' := [(0, 60), (0, 4), (0, b)]) (by decide +kernel) rfl ?_
      refine zwW_cs (k' := 98) (n := 3) (nx := 17) (as := [(0, b), (0, 4), (0, 60)]) (st' := []) (by decide +kernel) rfl (x98 h C b 4 60 (by omega) (by omega) (by omega)) rfl ?_
      rintro x _ ⟨rfl, ⟨rfl, c5⟩ | ⟨rfl, c5⟩⟩
      · refine zwif_eq (q := 22) (nx := 20) (by decide +kernel) (fun c6 => ?_) (fun c6 => ?_)
        · exfalso; omega
        · refine zwW_p [(0, 0, 0)] (q := 21) (ls' := [(2, 1), (0, a), (0, b), (2, v2)]) (st' := [(0, 0)]) (by decide +kernel) rfl ?_
          refine zwW_ret (nx := 22) (a := 1) (b := 0) (by decide +kernel) rfl (Or.inr (Or.inl ⟨rfl, Or.inl rfl⟩)) ?_
          exact ⟨C, X.le (by decide) (by decide), by omega, by exact Or.inr ⟨by omega, by rfl, by omega⟩⟩
      · refine zwif_eq (q := 22) (nx := 20) (by decide +kernel) (fun c7 => ?_) (fun c7 => ?_)
        · refine zwW_p [(1, 3, 2), (1, 2, 0)] (q := 24) (ls' := [(2, 1), (0, a), (0, b), (2, v2)]) (st' := [(0, b), (2, v2)]) (by decide +kernel) rfl ?_
          refine zwX_pi C (kd := 4) (bn := 7) (n := 19) (nx := 27) (by decide +kernel) Gv2.2.1 Gv2.1 (by first | omega | exact ⟨by omega, by omega⟩) ?_
          rintro h8 eh8 Ch8 Qh8
          have Xh8 : zXR msx13 (0) (0) h h8 := X.tr (c2 := 0) (s2 := 0) Qh8 (by decide +kernel) (by decide) (by decide)
          have Gh8_0 : gH h8 v2 := Gv2.x Qh8
          have Yh8_4_7 : ∀ (rr : Int) (nn : Nat), 365 < rr → sh h rr = some (4, nn) → fld h8 rr 7 = (if rr = v2 then b else fld h rr 7) := by
            intro rr nn z1 z2
            by_cases zq : rr = v2
            · rw [if_pos zq, zq, eh8]; exact fld_wr_eq Gv2.2.1 (by decide)
            · rw [if_neg zq, eh8, fld_wr (Or.inl zq)]
          refine zwW_p [(0, 1, 0)] (q := 28) (ls' := [(2, 1), (0, a), (0, b), (2, v2)]) (st' := [(0, 1)]) (by decide +kernel) rfl ?_
          refine zwW_ret (nx := 29) (a := 1) (b := 0) (by decide +kernel) rfl (Or.inr (Or.inl ⟨rfl, Or.inr rfl⟩)) ?_
          exact ⟨Ch8, Xh8.le (by decide) (by decide), by omega, by exact Or.inl ⟨by omega, by omega, by intro rr nn z1 z2; rw [← ev2]; first | exact Yh8_4_7 rr nn z1 z2 | (rw [Yh8_4_7 rr nn z1 z2]; split <;> first | omega | (split <;> omega))⟩⟩
        · exfalso; omega
def msx15 : Zms := [(1004, 1004, 6, 7)]
-- WheelLand.coins(II)I
theorem x15 {sc : List Int} (h : Hp) (C : CI h) (a b : Int) (q_a : -2147483648 ≤ a ∧ a ≤ 2147483647) (q_b : -2147483648 ≤ b ∧ b ≤ 2147483647) : zwC sc 6 15 [(2, 1), (0, a), (0, b)] h (zwRt 0 (fun x g => CI g ∧ zXR msx15 (0) (0) h g ∧ (-2147483648 ≤ x ∧ x ≤ 2147483647))) := by
  refine zwC_of (D := 5) 4 (by decide +kernel) rfl (ls := [(2, 1), (0, a), (0, b), (9, 0)]) rfl ?_
  have X : zXR msx15 0 0 h h := zXR.rf _ _
  refine zwW_p [(1, 0, 2), (1, 1, 0)] (q := 2) (ls' := [(2, 1), (0, a), (0, b), (9, 0)]) (st' := [(0, a), (2, 1)]) (by decide +kernel) rfl ?_
  refine zwW_cm C.1 (op := 60) (k' := 109) (n := 1) (kd := 12) (m := 13) (nx := 5) (r := 1) (tl := [(0, a)]) (st' := []) (by decide +kernel) rfl (by decide +kernel) rfl (x109 h C a (by omega)) ?_
  rintro v2 _ ⟨rfl, ⟨rfl, c1⟩ | ⟨Gv2, c1⟩⟩
  · refine zwW_p [(2, 3, 2), (1, 3, 2)] (q := 7) (ls' := [(2, 1), (0, a), (0, b), (2, 0)]) (st' := [(2, 0)]) (by decide +kernel) rfl ?_
    refine zwnu_eq (q := 23) (nx := 10) (by decide +kernel) (by decide) (fun c3 => ?_) (fun c3 => ?_)
    · refine zwW_p [(0, -2147483648, 0)] (q := 25) (ls' := [(2, 1), (0, a), (0, b), (2, 0)]) (st' := [(0, -2147483648)]) (by decide +kernel) rfl ?_
      refine zwW_ret (nx := 26) (a := 0) (b := 0) (by decide +kernel) rfl (Or.inl rfl) ?_
      exact ⟨C, X.le (by decide) (by decide), by omega⟩
    · exfalso; omega
  · have lv2 := Gv2.1
    have ev2 := c1.2.2
    refine zwW_p [(2, 3, 2), (1, 3, 2)] (q := 7) (ls' := [(2, 1), (0, a), (0, b), (2, v2)]) (st' := [(2, v2)]) (by decide +kernel) rfl ?_
    refine zwnu_eq (q := 23) (nx := 10) (by decide +kernel) (by omega) (fun c4 => ?_) (fun c4 => ?_)
    · exfalso; omega
    · refine zwW_p [(1, 2, 0), (0, -9999, 0), (0, 9999, 0)] (q := 17) (ls' := [(2, 1), (0, a), (0, b), (2, v2)]) (st' := [(0, 9999), (0, -9999), (0, b)]) (by decide +kernel) rfl ?_
      refine zwW_cs (k' := 98) (n := 3) (nx := 20) (as := [(0, b), (0, -9999), (0, 9999)]) (st' := []) (by decide +kernel) rfl (x98 h C b (-9999) 9999 (by omega) (by omega) (by omega)) rfl ?_
      rintro x _ ⟨rfl, ⟨rfl, c5⟩ | ⟨rfl, c5⟩⟩
      · refine zwif_eq (q := 26) (nx := 23) (by decide +kernel) (fun c6 => ?_) (fun c6 => ?_)
        · exfalso; omega
        · refine zwW_p [(0, -2147483648, 0)] (q := 25) (ls' := [(2, 1), (0, a), (0, b), (2, v2)]) (st' := [(0, -2147483648)]) (by decide +kernel) rfl ?_
          refine zwW_ret (nx := 26) (a := 0) (b := 0) (by decide +kernel) rfl (Or.inl rfl) ?_
          exact ⟨C, X.le (by decide) (by decide), by omega⟩
      · refine zwif_eq (q := 26) (nx := 23) (by decide +kernel) (fun c7 => ?_) (fun c7 => ?_)
        · refine zwW_p [(1, 3, 2), (12, 0, 0)] (q := 28) (ls' := [(2, 1), (0, a), (0, b), (2, v2)]) (st' := [(2, v2), (2, v2)]) (by decide +kernel) rfl ?_
          refine zwX_gi C (kd := 4) (bn := 6) (n := 19) (nx := 31) (by decide +kernel) Gv2.2.1 Gv2.1 rfl ?_
          intro v8 ev8 lv8 uv8
          refine zwW_p [(1, 2, 0)] (q := 32) (ls' := [(2, 1), (0, a), (0, b), (2, v2)]) (st' := [(0, b), (0, v8), (2, v2)]) (by decide +kernel) rfl ?_
          refine zwW_adw (nx := 33) (by decide +kernel) ?_
          intro v9 ev9 lv9 uv9
          have Ev9 : v9 = w32 ((fld h v2 6) + b) := by rw [ev9, ev8]
          refine zwX_pi C (kd := 4) (bn := 6) (n := 19) (nx := 36) (by decide +kernel) Gv2.2.1 Gv2.1 (by first | omega | exact ⟨by omega, by omega⟩) ?_
          rintro h10 eh10 Ch10 Qh10
          have Xh10 : zXR msx15 (0) (0) h h10 := X.tr (c2 := 0) (s2 := 0) Qh10 (by decide +kernel) (by decide) (by decide)
          have Gh10_0 : gH h10 v2 := Gv2.x Qh10
          refine zwW_p [(1, 3, 2)] (q := 37) (ls' := [(2, 1), (0, a), (0, b), (2, v2)]) (st' := [(2, v2)]) (by decide +kernel) rfl ?_
          refine zwX_gi Ch10 (kd := 4) (bn := 6) (n := 19) (nx := 40) (by decide +kernel) Gh10_0.2.1 Gh10_0.1 rfl ?_
          intro v11 ev11 lv11 uv11
          have wv11 : v11 = v9 := by rw [ev11, eh10]; exact fld_wr_eq Gv2.2.1 (by decide)
          refine zwW_ret (nx := 41) (a := 0) (b := 0) (by decide +kernel) rfl (Or.inl rfl) ?_
          exact ⟨Ch10, Xh10.le (by decide) (by decide), by omega⟩
        · exfalso; omega
def msx17 : Zms := [(1011, 1011, 3, 4)]
-- WheelLand.cotton(II)I
theorem x17 {sc : List Int} (h : Hp) (C : CI h) (a b : Int) (q_a : -2147483648 ≤ a ∧ a ≤ 2147483647) (q_b : -2147483648 ≤ b ∧ b ≤ 2147483647) : zwC sc 6 17 [(2, 1), (0, a), (0, b)] h (zwRt 0 (fun x g => CI g ∧ zXR msx17 (0) (0) h g ∧ (-2147483648 ≤ x ∧ x ≤ 2147483647) ∧ (((x = w32 (fld h (fld h (fld h 2 1) a.toNat) 3 + b)) ∧ (0 ≤ a ∧ a < fld h 2 2 ∧ 1 ≤ b ∧ b ≤ 999 ∧ w32 (fld h (fld h (fld h 2 1) a.toNat) 3 + b) ≤ 9999) ∧ (∀ (rr : Int) (nn : Nat), 365 < rr → sh h rr = some (11, nn) → fld g rr 3 = if rr = fld h (fld h 2 1) a.toNat then w32 (fld h (fld h (fld h 2 1) a.toNat) 3 + b) else fld h rr 3)) ∨ ((x = -1) ∧ (g = h) ∧ (a < 0 ∨ fld h 2 2 ≤ a ∨ b < 1 ∨ 999 < b ∨ 9999 < w32 (fld h (fld h (fld h 2 1) a.toNat) 3 + b)))))) := by
  refine zwC_of (D := 5) 4 (by decide +kernel) rfl (ls := [(2, 1), (0, a), (0, b), (9, 0)]) rfl ?_
  have X : zXR msx17 0 0 h h := zXR.rf _ _
  refine zwW_p [(1, 0, 2), (1, 1, 0)] (q := 2) (ls' := [(2, 1), (0, a), (0, b), (9, 0)]) (st' := [(0, a), (2, 1)]) (by decide +kernel) rfl ?_
  refine zwW_cm C.1 (op := 60) (k' := 102) (n := 1) (kd := 12) (m := 13) (nx := 5) (r := 1) (tl := [(0, a)]) (st' := []) (by decide +kernel) rfl (by decide +kernel) rfl (x102 h C a (by omega)) ?_
  rintro v2 _ ⟨rfl, ⟨rfl, c1⟩ | ⟨Gv2, c1⟩⟩
  · refine zwW_p [(2, 3, 2), (1, 3, 2)] (q := 7) (ls' := [(2, 1), (0, a), (0, b), (2, 0)]) (st' := [(2, 0)]) (by decide +kernel) rfl ?_
    refine zwnu_eq (q := 33) (nx := 10) (by decide +kernel) (by decide) (fun c3 => ?_) (fun c3 => ?_)
    · refine zwW_p [(0, -1, 0)] (q := 34) (ls' := [(2, 1), (0, a), (0, b), (2, 0)]) (st' := [(0, -1)]) (by decide +kernel) rfl ?_
      refine zwW_ret (nx := 35) (a := 0) (b := 0) (by decide +kernel) rfl (Or.inl rfl) ?_
      exact ⟨C, X.le (by decide) (by decide), by omega, by exact Or.inr ⟨by omega, by rfl, by first | omega | (rw [← rfl]; omega)⟩⟩
    · exfalso; omega
  · have lv2 := Gv2.1
    have ev2 := c1.2.2
    refine zwW_p [(2, 3, 2), (1, 3, 2)] (q := 7) (ls' := [(2, 1), (0, a), (0, b), (2, v2)]) (st' := [(2, v2)]) (by decide +kernel) rfl ?_
    refine zwnu_eq (q := 33) (nx := 10) (by decide +kernel) (by omega) (fun c4 => ?_) (fun c4 => ?_)
    · exfalso; omega
    · refine zwW_p [(1, 2, 0), (0, 1, 0), (0, 999, 0)] (q := 15) (ls' := [(2, 1), (0, a), (0, b), (2, v2)]) (st' := [(0, 999), (0, 1), (0, b)]) (by decide +kernel) rfl ?_
      refine zwW_cs (k' := 98) (n := 3) (nx := 18) (as := [(0, b), (0, 1), (0, 999)]) (st' := []) (by decide +kernel) rfl (x98 h C b 1 999 (by omega) (by omega) (by omega)) rfl ?_
      rintro x _ ⟨rfl, ⟨rfl, c5⟩ | ⟨rfl, c5⟩⟩
      · refine zwif_ne (q := 33) (nx := 21) (by decide +kernel) (fun c6 => ?_) (fun c6 => ?_)
        · refine zwW_p [(0, -1, 0)] (q := 34) (ls' := [(2, 1), (0, a), (0, b), (2, v2)]) (st' := [(0, -1)]) (by decide +kernel) rfl ?_
          refine zwW_ret (nx := 35) (a := 0) (b := 0) (by decide +kernel) rfl (Or.inl rfl) ?_
          exact ⟨C, X.le (by decide) (by decide), by omega, by exact Or.inr ⟨by omega, by rfl, by first | omega | (rw [← ev2]; omega)⟩⟩
        · exfalso; omega
      · refine zwif_ne (q := 33) (nx := 21) (by decide +kernel) (fun c7 => ?_) (fun c7 => ?_)
        · exfalso; omega
        · refine zwW_p [(1, 3, 2)] (q := 22) (ls' := [(2, 1), (0, a), (0, b), (2, v2)]) (st' := [(2, v2)]) (by decide +kernel) rfl ?_
          refine zwX_gi C (kd := 11) (bn := 3) (n := 17) (nx := 25) (by decide +kernel) Gv2.2.1 Gv2.1 rfl ?_
          intro v8 ev8 lv8 uv8
          refine zwW_p [(1, 2, 0)] (q := 26) (ls' := [(2, 1), (0, a), (0, b), (2, v2)]) (st' := [(0, b), (0, v8)]) (by decide +kernel) rfl ?_
          refine zwW_adw (nx := 27) (by decide +kernel) ?_
          intro v9 ev9 lv9 uv9
          have Ev9 : v9 = w32 ((fld h v2 3) + b) := by rw [ev9, ev8]
          refine zwW_p [(0, 9999, 0)] (q := 30) (ls' := [(2, 1), (0, a), (0, b), (2, v2)]) (st' := [(0, 9999), (0, v9)]) (by decide +kernel) rfl ?_
          refine zwic_le (q := 35) (nx := 33) (by decide +kernel) (fun c10 => ?_) (fun c10 => ?_)
          · refine zwW_p [(1, 3, 2), (12, 0, 0)] (q := 37) (ls' := [(2, 1), (0, a), (0, b), (2, v2)]) (st' := [(2, v2), (2, v2)]) (by decide +kernel) rfl ?_
            refine zwX_gi C (kd := 11) (bn := 3) (n := 17) (nx := 40) (by decide +kernel) Gv2.2.1 Gv2.1 rfl ?_
            intro v11 ev11 lv11 uv11
            refine zwW_p [(1, 2, 0)] (q := 41) (ls' := [(2, 1), (0, a), (0, b), (2, v2)]) (st' := [(0, b), (0, v11), (2, v2)]) (by decide +kernel) rfl ?_
            refine zwW_adw (nx := 42) (by decide +kernel) ?_
            intro v12 ev12 lv12 uv12
            have Ev12 : v12 = w32 ((fld h v2 3) + b) := by rw [ev12, ev11]
            refine zwX_pi C (kd := 11) (bn := 3) (n := 17) (nx := 45) (by decide +kernel) Gv2.2.1 Gv2.1 (by first | omega | exact ⟨by omega, by omega⟩) ?_
            rintro h13 eh13 Ch13 Qh13
            have Xh13 : zXR msx17 (0) (0) h h13 := X.tr (c2 := 0) (s2 := 0) Qh13 (by decide +kernel) (by decide) (by decide)
            have Gh13_0 : gV h13 v2 := Gv2.x Qh13
            have Yh13_11_3 : ∀ (rr : Int) (nn : Nat), 365 < rr → sh h rr = some (11, nn) → fld h13 rr 3 = (if rr = v2 then v12 else fld h rr 3) := by
              intro rr nn z1 z2
              by_cases zq : rr = v2
              · rw [if_pos zq, zq, eh13]; exact fld_wr_eq Gv2.2.1 (by decide)
              · rw [if_neg zq, eh13, fld_wr (Or.inl zq)]
            refine zwW_p [(1, 3, 2)] (q := 46) (ls' := [(2, 1), (0, a), (0, b), (2, v2)]) (st' := [(2, v2)]) (by decide +kernel) rfl ?_
            refine zwX_gi Ch13 (kd := 11) (bn := 3) (n := 17) (nx := 49) (by decide +kernel) Gh13_0.2.1 Gh13_0.1 rfl ?_
            intro v14 ev14 lv14 uv14
            have wv14 : v14 = v12 := by rw [ev14, eh13]; exact fld_wr_eq Gv2.2.1 (by decide)
            refine zwW_ret (nx := 50) (a := 0) (b := 0) (by decide +kernel) rfl (Or.inl rfl) ?_
            exact ⟨Ch13, Xh13.le (by decide) (by decide), by omega, by exact Or.inl ⟨by first | omega | (rw [← ev2]; omega), by first | omega | (rw [← ev2]; omega), by intro rr nn z1 z2; rw [← ev2]; first | exact Yh13_11_3 rr nn z1 z2 | (rw [Yh13_11_3 rr nn z1 z2]; split <;> first | omega | (split <;> omega))⟩⟩
          · refine zwW_p [(0, -1, 0)] (q := 34) (ls' := [(2, 1), (0, a), (0, b), (2, v2)]) (st' := [(0, -1)]) (by decide +kernel) rfl ?_
            refine zwW_ret (nx := 35) (a := 0) (b := 0) (by decide +kernel) rfl (Or.inl rfl) ?_
            exact ⟨C, X.le (by decide) (by decide), by omega, by exact Or.inr ⟨by omega, by rfl, by first | omega | (rw [← ev2]; omega)⟩⟩
theorem x21 {sc : List Int} (h : Hp) (C : CI h) (a b : Int) (q_a : -2147483648 ≤ a ∧ a ≤ 2147483647) (q_b : -2147483648 ≤ b ∧ b ≤ 2147483647) : zwC sc 6 21 [(2, 1), (0, a), (0, b)] h (zwRt 0 (fun x g => h = g ∧ (-2147483648 ≤ x ∧ x ≤ 2147483647))) := by
  refine zwC_of (D := 5) 4 (by decide +kernel) rfl (ls := [(2, 1), (0, a), (0, b), (9, 0)]) rfl ?_
  refine zwW_p [(1, 0, 2), (1, 1, 0)] (q := 2) (ls' := [(2, 1), (0, a), (0, b), (9, 0)]) (st' := [(0, a), (2, 1)]) (by decide +kernel) rfl ?_
  refine zwW_cm C.1 (op := 60) (k' := 115) (n := 1) (kd := 12) (m := 13) (nx := 5) (r := 1) (tl := [(0, a)]) (st' := []) (by decide +kernel) rfl (by decide +kernel) rfl (x115 h C a (by omega)) ?_
  rintro v2 _ ⟨rfl, ⟨rfl, c1⟩ | ⟨Gv2, c1⟩⟩
  · refine zwW_p [(2, 3, 2), (1, 3, 2)] (q := 7) (ls' := [(2, 1), (0, a), (0, b), (2, 0)]) (st' := [(2, 0)]) (by decide +kernel) rfl ?_
    refine zwnu_ne (q := 12) (nx := 10) (by decide +kernel) (by decide) (fun c3 => ?_) (fun c3 => ?_)
    · exfalso; omega
    · refine zwW_p [(0, -1, 0)] (q := 11) (ls' := [(2, 1), (0, a), (0, b), (2, 0)]) (st' := [(0, -1)]) (by decide +kernel) rfl ?_
      refine zwW_ret (nx := 12) (a := 0) (b := 0) (by decide +kernel) rfl (Or.inl rfl) ?_
      exact ⟨rfl, by omega⟩
  · have lv2 := Gv2.1
    have ev2 := c1.2.2
    refine zwW_p [(2, 3, 2), (1, 3, 2)] (q := 7) (ls' := [(2, 1), (0, a), (0, b), (2, v2)]) (st' := [(2, v2)]) (by decide +kernel) rfl ?_
    refine zwnu_ne (q := 12) (nx := 10) (by decide +kernel) (by omega) (fun c4 => ?_) (fun c4 => ?_)
    · refine zwW_p [(1, 2, 0)] (q := 13) (ls' := [(2, 1), (0, a), (0, b), (2, v2)]) (st' := [(0, b)]) (by decide +kernel) rfl ?_
      refine zwW_sw (d := 85) (os := [0, 52, 1, 60, 2, 65, 3, 70, 4, 75, 5, 80]) (by decide +kernel) ?_
      refine ⟨fun c5 => ?_, fun c5 => ?_⟩
      · show zwW _ _ _ 52 _ _ _ _
        refine zwW_p [(1, 3, 2)] (q := 53) (ls' := [(2, 1), (0, a), (0, b), (2, v2)]) (st' := [(2, v2)]) (by decide +kernel) rfl ?_
        refine zwW_get (kd := 6) (bn := 1) (t := 2) (n := 7) (nx := 56) (by decide +kernel) Gv2.2.1 rfl ?_
        obtain ⟨v6, ev6⟩ : ∃ z, z = fld h v2 1 := ⟨_, rfl⟩
        rw [← ev6]
        have Gv6 : gH h v6 := by rw [ev6]; exact Gv2.2.2
        have lv6 := Gv6.1
        refine zwX_gi C (kd := 4) (bn := 0) (n := 19) (nx := 59) (by decide +kernel) Gv6.2.1 Gv6.1 rfl ?_
        intro v7 ev7 lv7 uv7
        refine zwW_ret (nx := 60) (a := 0) (b := 0) (by decide +kernel) rfl (Or.inl rfl) ?_
        exact ⟨rfl, by omega⟩
      refine ⟨fun c8 => ?_, fun c8 => ?_⟩
      · show zwW _ _ _ 60 _ _ _ _
        refine zwW_p [(1, 3, 2)] (q := 61) (ls' := [(2, 1), (0, a), (0, b), (2, v2)]) (st' := [(2, v2)]) (by decide +kernel) rfl ?_
        refine zwX_gi C (kd := 6) (bn := 2) (n := 7) (nx := 64) (by decide +kernel) Gv2.2.1 Gv2.1 rfl ?_
        intro v9 ev9 lv9 uv9
        refine zwW_ret (nx := 65) (a := 0) (b := 0) (by decide +kernel) rfl (Or.inl rfl) ?_
        exact ⟨rfl, by omega⟩
      refine ⟨fun c10 => ?_, fun c10 => ?_⟩
      · show zwW _ _ _ 65 _ _ _ _
        refine zwW_p [(1, 3, 2)] (q := 66) (ls' := [(2, 1), (0, a), (0, b), (2, v2)]) (st' := [(2, v2)]) (by decide +kernel) rfl ?_
        refine zwX_gi C (kd := 6) (bn := 3) (n := 7) (nx := 69) (by decide +kernel) Gv2.2.1 Gv2.1 rfl ?_
        intro v11 ev11 lv11 uv11
        refine zwW_ret (nx := 70) (a := 0) (b := 0) (by decide +kernel) rfl (Or.inl rfl) ?_
        exact ⟨rfl, by omega⟩
      refine ⟨fun c12 => ?_, fun c12 => ?_⟩
      · show zwW _ _ _ 70 _ _ _ _
        refine zwW_p [(1, 3, 2)] (q := 71) (ls' := [(2, 1), (0, a), (0, b), (2, v2)]) (st' := [(2, v2)]) (by decide +kernel) rfl ?_
        refine zwX_gi C (kd := 6) (bn := 4) (n := 7) (nx := 74) (by decide +kernel) Gv2.2.1 Gv2.1 rfl ?_
        intro v13 ev13 lv13 uv13
        refine zwW_ret (nx := 75) (a := 0) (b := 0) (by decide +kernel) rfl (Or.inl rfl) ?_
        exact ⟨rfl, by omega⟩
      refine ⟨fun c14 => ?_, fun c14 => ?_⟩
      · show zwW _ _ _ 75 _ _ _ _
        refine zwW_p [(1, 3, 2)] (q := 76) (ls' := [(2, 1), (0, a), (0, b), (2, v2)]) (st' := [(2, v2)]) (by decide +kernel) rfl ?_
        refine zwX_gi C (kd := 6) (bn := 5) (n := 7) (nx := 79) (by decide +kernel) Gv2.2.1 Gv2.1 rfl ?_
        intro v15 ev15 lv15 uv15
        refine zwW_ret (nx := 80) (a := 0) (b := 0) (by decide +kernel) rfl (Or.inl rfl) ?_
        exact ⟨rfl, by omega⟩
      refine ⟨fun c16 => ?_, fun c16 => ?_⟩
      · show zwW _ _ _ 80 _ _ _ _
        refine zwW_p [(1, 3, 2)] (q := 81) (ls' := [(2, 1), (0, a), (0, b), (2, v2)]) (st' := [(2, v2)]) (by decide +kernel) rfl ?_
        refine zwX_gi C (kd := 6) (bn := 6) (n := 7) (nx := 84) (by decide +kernel) Gv2.2.1 Gv2.1 rfl ?_
        intro v17 ev17 lv17 uv17
        refine zwW_ret (nx := 85) (a := 0) (b := 0) (by decide +kernel) rfl (Or.inl rfl) ?_
        exact ⟨rfl, by omega⟩
      show zwW _ _ _ 85 _ _ _ _
      refine zwW_p [(0, -1, 0)] (q := 86) (ls' := [(2, 1), (0, a), (0, b), (2, v2)]) (st' := [(0, -1)]) (by decide +kernel) rfl ?_
      refine zwW_ret (nx := 87) (a := 0) (b := 0) (by decide +kernel) rfl (Or.inl rfl) ?_
      exact ⟨rfl, by omega⟩
    · exfalso; omega
def msx23 : Zms := [(9, 9, 0, 1), (10, 10, 0, 400)]
-- WheelLand.feed(IIIII)I
theorem x23 {sc : List Int} (h : Hp) (C : CI h) (a b c d e : Int) (q_a : -2147483648 ≤ a ∧ a ≤ 2147483647) (q_b : -2147483648 ≤ b ∧ b ≤ 2147483647) (q_c : -2147483648 ≤ c ∧ c ≤ 2147483647) (q_d : -2147483648 ≤ d ∧ d ≤ 2147483647) (q_e : -2147483648 ≤ e ∧ e ≤ 2147483647) : zwC sc 2 23 [(2, 1), (0, a), (0, b), (0, c), (0, d), (0, e)] h (zwRt 0 (fun x g => CI g ∧ zXR msx23 (0) (0) h g ∧ (-2147483648 ≤ x ∧ x ≤ 2147483647))) := by
  refine zwC_of (D := 1) 6 (by decide +kernel) rfl (ls := [(2, 1), (0, a), (0, b), (0, c), (0, d), (0, e)]) rfl ?_
  have X : zXR msx23 0 0 h h := zXR.rf _ _
  refine zwW_p [(1, 0, 2)] (q := 1) (ls' := [(2, 1), (0, a), (0, b), (0, c), (0, d), (0, e)]) (st' := [(2, 1)]) (by decide +kernel) rfl ?_
  refine zwW_gc C.1 (kd := 12) (bn := 7) (n := 13) (c := 9) (nx := 4) (by decide +kernel) ?_
  refine zwW_p [(0, 20, 0)] (q := 6) (ls' := [(2, 1), (0, a), (0, b), (0, c), (0, d), (0, e)]) (st' := [(0, 20), (2, 9)]) (by decide +kernel) rfl ?_
  refine zwW_cm C.1 (op := 60) (k' := 117) (n := 1) (kd := 7) (m := 9) (nx := 9) (r := 9) (tl := [(0, 20)]) (st' := []) (by decide +kernel) rfl (by decide +kernel) rfl (x117 h C 20 (by omega)) ?_
  rintro x _ ⟨rfl, ⟨rfl, c1⟩ | ⟨rfl, c1⟩⟩
  · refine zwif_ne (q := 14) (nx := 12) (by decide +kernel) (fun c2 => ?_) (fun c2 => ?_)
    · refine zwW_p [(1, 0, 2)] (q := 15) (ls' := [(2, 1), (0, a), (0, b), (0, c), (0, d), (0, e)]) (st' := [(2, 1)]) (by decide +kernel) rfl ?_
      refine zwW_gc C.1 (kd := 12) (bn := 7) (n := 13) (c := 9) (nx := 18) (by decide +kernel) ?_
      refine zwW_p [(1, 1, 0)] (q := 19) (ls' := [(2, 1), (0, a), (0, b), (0, c), (0, d), (0, e)]) (st' := [(0, a), (2, 9)]) (by decide +kernel) rfl ?_
      refine zwW_cmv C.1 (op := 60) (k' := 118) (n := 1) (kd := 7) (m := 9) (nx := 22) (r := 9) (tl := [(0, a)]) (st' := []) (by decide +kernel) rfl (by decide +kernel) rfl (x118 h C a (by omega)) ?_
      rintro h3 ⟨Ch3, Qh3⟩
      have Xh3 : zXR msx23 (0) (0) h h3 := X.tr (c2 := 0) (s2 := 0) Qh3 (by decide +kernel) (by decide) (by decide)
      refine zwW_p [(1, 0, 2)] (q := 23) (ls' := [(2, 1), (0, a), (0, b), (0, c), (0, d), (0, e)]) (st' := [(2, 1)]) (by decide +kernel) rfl ?_
      refine zwW_gc Ch3.1 (kd := 12) (bn := 7) (n := 13) (c := 9) (nx := 26) (by decide +kernel) ?_
      refine zwW_p [(1, 2, 0)] (q := 27) (ls' := [(2, 1), (0, a), (0, b), (0, c), (0, d), (0, e)]) (st' := [(0, b), (2, 9)]) (by decide +kernel) rfl ?_
      refine zwW_cmv Ch3.1 (op := 60) (k' := 118) (n := 1) (kd := 7) (m := 9) (nx := 30) (r := 9) (tl := [(0, b)]) (st' := []) (by decide +kernel) rfl (by decide +kernel) rfl (x118 h3 Ch3 b (by omega)) ?_
      rintro h4 ⟨Ch4, Qh4⟩
      have Xh4 : zXR msx23 (0) (0) h h4 := Xh3.tr (c2 := 0) (s2 := 0) Qh4 (by decide +kernel) (by decide) (by decide)
      refine zwW_p [(1, 0, 2)] (q := 31) (ls' := [(2, 1), (0, a), (0, b), (0, c), (0, d), (0, e)]) (st' := [(2, 1)]) (by decide +kernel) rfl ?_
      refine zwW_gc Ch4.1 (kd := 12) (bn := 7) (n := 13) (c := 9) (nx := 34) (by decide +kernel) ?_
      refine zwW_p [(1, 3, 0)] (q := 35) (ls' := [(2, 1), (0, a), (0, b), (0, c), (0, d), (0, e)]) (st' := [(0, c), (2, 9)]) (by decide +kernel) rfl ?_
      refine zwW_cmv Ch4.1 (op := 60) (k' := 118) (n := 1) (kd := 7) (m := 9) (nx := 38) (r := 9) (tl := [(0, c)]) (st' := []) (by decide +kernel) rfl (by decide +kernel) rfl (x118 h4 Ch4 c (by omega)) ?_
      rintro h5 ⟨Ch5, Qh5⟩
      have Xh5 : zXR msx23 (0) (0) h h5 := Xh4.tr (c2 := 0) (s2 := 0) Qh5 (by decide +kernel) (by decide) (by decide)
      refine zwW_p [(1, 0, 2)] (q := 39) (ls' := [(2, 1), (0, a), (0, b), (0, c), (0, d), (0, e)]) (st' := [(2, 1)]) (by decide +kernel) rfl ?_
      refine zwW_gc Ch5.1 (kd := 12) (bn := 7) (n := 13) (c := 9) (nx := 42) (by decide +kernel) ?_
      refine zwW_p [(1, 4, 0)] (q := 44) (ls' := [(2, 1), (0, a), (0, b), (0, c), (0, d), (0, e)]) (st' := [(0, d), (2, 9)]) (by decide +kernel) rfl ?_
      refine zwW_cmv Ch5.1 (op := 60) (k' := 118) (n := 1) (kd := 7) (m := 9) (nx := 47) (r := 9) (tl := [(0, d)]) (st' := []) (by decide +kernel) rfl (by decide +kernel) rfl (x118 h5 Ch5 d (by omega)) ?_
      rintro h6 ⟨Ch6, Qh6⟩
      have Xh6 : zXR msx23 (0) (0) h h6 := Xh5.tr (c2 := 0) (s2 := 0) Qh6 (by decide +kernel) (by decide) (by decide)
      refine zwW_p [(1, 0, 2)] (q := 48) (ls' := [(2, 1), (0, a), (0, b), (0, c), (0, d), (0, e)]) (st' := [(2, 1)]) (by decide +kernel) rfl ?_
      refine zwW_gc Ch6.1 (kd := 12) (bn := 7) (n := 13) (c := 9) (nx := 51) (by decide +kernel) ?_
      refine zwW_p [(1, 5, 0)] (q := 53) (ls' := [(2, 1), (0, a), (0, b), (0, c), (0, d), (0, e)]) (st' := [(0, e), (2, 9)]) (by decide +kernel) rfl ?_
      refine zwW_cmv Ch6.1 (op := 60) (k' := 118) (n := 1) (kd := 7) (m := 9) (nx := 56) (r := 9) (tl := [(0, e)]) (st' := []) (by decide +kernel) rfl (by decide +kernel) rfl (x118 h6 Ch6 e (by omega)) ?_
      rintro h7 ⟨Ch7, Qh7⟩
      have Xh7 : zXR msx23 (0) (0) h h7 := Xh6.tr (c2 := 0) (s2 := 0) Qh7 (by decide +kernel) (by decide) (by decide)
      refine zwW_p [(1, 0, 2)] (q := 57) (ls' := [(2, 1), (0, a), (0, b), (0, c), (0, d), (0, e)]) (st' := [(2, 1)]) (by decide +kernel) rfl ?_
      refine zwW_gc Ch7.1 (kd := 12) (bn := 7) (n := 13) (c := 9) (nx := 60) (by decide +kernel) ?_
      refine zwW_gs Ch7.1 (kd := 7) (bn := 0) (n := 9) (t := 0) (lo := 0) (hi := 400) (nx := 63) (by decide +kernel) ?_
      intro v8 ev8 lv8 uv8
      refine zwW_ret (nx := 64) (a := 0) (b := 0) (by decide +kernel) rfl (Or.inl rfl) ?_
      exact ⟨Ch7, Xh7.le (by decide) (by decide), by omega⟩
    · exfalso; omega
  · refine zwif_ne (q := 14) (nx := 12) (by decide +kernel) (fun c9 => ?_) (fun c9 => ?_)
    · exfalso; omega
    · refine zwW_p [(0, -1, 0)] (q := 13) (ls' := [(2, 1), (0, a), (0, b), (0, c), (0, d), (0, e)]) (st' := [(0, -1)]) (by decide +kernel) rfl ?_
      refine zwW_ret (nx := 14) (a := 0) (b := 0) (by decide +kernel) rfl (Or.inl rfl) ?_
      exact ⟨C, X.le (by decide) (by decide), by omega⟩
def msx35 : Zms := [(34, 34, 0, 1), (1004, 1004, 16, 17), (1004, 1004, 17, 18), (1006, 1006, 6, 7)]
-- WheelLand.pay(III)I
theorem x35 {sc : List Int} (h : Hp) (C : CI h) (a b c : Int) (q_a : -2147483648 ≤ a ∧ a ≤ 2147483647) (q_b : -2147483648 ≤ b ∧ b ≤ 2147483647) (q_c : -2147483648 ≤ c ∧ c ≤ 2147483647) : zwC sc 6 35 [(2, 1), (0, a), (0, b), (0, c)] h (zwRt 0 (fun x g => CI g ∧ zXR msx35 (0) (0) h g ∧ (-2147483648 ≤ x ∧ x ≤ 2147483647))) := by
  refine zwC_of (D := 5) 6 (by decide +kernel) rfl (ls := [(2, 1), (0, a), (0, b), (0, c), (9, 0), (9, 0)]) rfl ?_
  have X : zXR msx35 0 0 h h := zXR.rf _ _
  refine zwW_p [(1, 0, 2), (1, 1, 0)] (q := 2) (ls' := [(2, 1), (0, a), (0, b), (0, c), (9, 0), (9, 0)]) (st' := [(0, a), (2, 1)]) (by decide +kernel) rfl ?_
  refine zwW_cm C.1 (op := 60) (k' := 109) (n := 1) (kd := 12) (m := 13) (nx := 5) (r := 1) (tl := [(0, a)]) (st' := []) (by decide +kernel) rfl (by decide +kernel) rfl (x109 h C a (by omega)) ?_
  rintro v2 _ ⟨rfl, ⟨rfl, c1⟩ | ⟨Gv2, c1⟩⟩
  · refine zwW_p [(2, 4, 2), (1, 0, 2), (1, 2, 0)] (q := 9) (ls' := [(2, 1), (0, a), (0, b), (0, c), (2, 0), (9, 0)]) (st' := [(0, b), (2, 1)]) (by decide +kernel) rfl ?_
    refine zwW_cm C.1 (op := 60) (k' := 115) (n := 1) (kd := 12) (m := 13) (nx := 12) (r := 1) (tl := [(0, b)]) (st' := []) (by decide +kernel) rfl (by decide +kernel) rfl (x115 h C b (by omega)) ?_
    rintro v4 _ ⟨rfl, ⟨rfl, c3⟩ | ⟨Gv4, c3⟩⟩
    · refine zwW_p [(2, 5, 2), (1, 4, 2)] (q := 16) (ls' := [(2, 1), (0, a), (0, b), (0, c), (2, 0), (2, 0)]) (st' := [(2, 0)]) (by decide +kernel) rfl ?_
      refine zwnu_eq (q := 37) (nx := 19) (by decide +kernel) (by decide) (fun c5 => ?_) (fun c5 => ?_)
      · refine zwW_p [(0, -2147483648, 0)] (q := 39) (ls' := [(2, 1), (0, a), (0, b), (0, c), (2, 0), (2, 0)]) (st' := [(0, -2147483648)]) (by decide +kernel) rfl ?_
        refine zwW_ret (nx := 40) (a := 0) (b := 0) (by decide +kernel) rfl (Or.inl rfl) ?_
        exact ⟨C, X.le (by decide) (by decide), by omega⟩
      · exfalso; omega
    · have lv4 := Gv4.1
      have ev4 := c3.2.2
      refine zwW_p [(2, 5, 2), (1, 4, 2)] (q := 16) (ls' := [(2, 1), (0, a), (0, b), (0, c), (2, 0), (2, v4)]) (st' := [(2, 0)]) (by decide +kernel) rfl ?_
      refine zwnu_eq (q := 37) (nx := 19) (by decide +kernel) (by decide) (fun c6 => ?_) (fun c6 => ?_)
      · refine zwW_p [(0, -2147483648, 0)] (q := 39) (ls' := [(2, 1), (0, a), (0, b), (0, c), (2, 0), (2, v4)]) (st' := [(0, -2147483648)]) (by decide +kernel) rfl ?_
        refine zwW_ret (nx := 40) (a := 0) (b := 0) (by decide +kernel) rfl (Or.inl rfl) ?_
        exact ⟨C, X.le (by decide) (by decide), by omega⟩
      · exfalso; omega
  · have lv2 := Gv2.1
    have ev2 := c1.2.2
    refine zwW_p [(2, 4, 2), (1, 0, 2), (1, 2, 0)] (q := 9) (ls' := [(2, 1), (0, a), (0, b), (0, c), (2, v2), (9, 0)]) (st' := [(0, b), (2, 1)]) (by decide +kernel) rfl ?_
    refine zwW_cm C.1 (op := 60) (k' := 115) (n := 1) (kd := 12) (m := 13) (nx := 12) (r := 1) (tl := [(0, b)]) (st' := []) (by decide +kernel) rfl (by decide +kernel) rfl (x115 h C b (by omega)) ?_
    rintro v8 _ ⟨rfl, ⟨rfl, c7⟩ | ⟨Gv8, c7⟩⟩
    · refine zwW_p [(2, 5, 2), (1, 4, 2)] (q := 16) (ls' := [(2, 1), (0, a), (0, b), (0, c), (2, v2), (2, 0)]) (st' := [(2, v2)]) (by decide +kernel) rfl ?_
      refine zwnu_eq (q := 37) (nx := 19) (by decide +kernel) (by omega) (fun c9 => ?_) (fun c9 => ?_)
      · exfalso; omega
      · refine zwW_p [(1, 5, 2)] (q := 21) (ls' := [(2, 1), (0, a), (0, b), (0, c), (2, v2), (2, 0)]) (st' := [(2, 0)]) (by decide +kernel) rfl ?_
        refine zwnu_eq (q := 37) (nx := 24) (by decide +kernel) (by decide) (fun c10 => ?_) (fun c10 => ?_)
        · refine zwW_p [(0, -2147483648, 0)] (q := 39) (ls' := [(2, 1), (0, a), (0, b), (0, c), (2, v2), (2, 0)]) (st' := [(0, -2147483648)]) (by decide +kernel) rfl ?_
          refine zwW_ret (nx := 40) (a := 0) (b := 0) (by decide +kernel) rfl (Or.inl rfl) ?_
          exact ⟨C, X.le (by decide) (by decide), by omega⟩
        · exfalso; omega
    · have lv8 := Gv8.1
      have ev8 := c7.2.2
      refine zwW_p [(2, 5, 2), (1, 4, 2)] (q := 16) (ls' := [(2, 1), (0, a), (0, b), (0, c), (2, v2), (2, v8)]) (st' := [(2, v2)]) (by decide +kernel) rfl ?_
      refine zwnu_eq (q := 37) (nx := 19) (by decide +kernel) (by omega) (fun c11 => ?_) (fun c11 => ?_)
      · exfalso; omega
      · refine zwW_p [(1, 5, 2)] (q := 21) (ls' := [(2, 1), (0, a), (0, b), (0, c), (2, v2), (2, v8)]) (st' := [(2, v8)]) (by decide +kernel) rfl ?_
        refine zwnu_eq (q := 37) (nx := 24) (by decide +kernel) (by omega) (fun c12 => ?_) (fun c12 => ?_)
        · exfalso; omega
        · refine zwW_p [(1, 3, 0), (0, 1, 0), (1, 5, 2)] (q := 28) (ls' := [(2, 1), (0, a), (0, b), (0, c), (2, v2), (2, v8)]) (st' := [(2, v8), (0, 1), (0, c)]) (by decide +kernel) rfl ?_
          refine zwX_gi C (kd := 6) (bn := 6) (n := 7) (nx := 31) (by decide +kernel) Gv8.2.1 Gv8.1 rfl ?_
          intro v13 ev13 lv13 uv13
          refine zwW_cs (k' := 98) (n := 3) (nx := 34) (as := [(0, c), (0, 1), (0, v13)]) (st' := []) (by decide +kernel) rfl (x98 h C c 1 v13 (by omega) (by omega) (by omega)) rfl ?_
          rintro x _ ⟨rfl, ⟨rfl, c14⟩ | ⟨rfl, c14⟩⟩
          · refine zwif_eq (q := 40) (nx := 37) (by decide +kernel) (fun c15 => ?_) (fun c15 => ?_)
            · exfalso; omega
            · refine zwW_p [(0, -2147483648, 0)] (q := 39) (ls' := [(2, 1), (0, a), (0, b), (0, c), (2, v2), (2, v8)]) (st' := [(0, -2147483648)]) (by decide +kernel) rfl ?_
              refine zwW_ret (nx := 40) (a := 0) (b := 0) (by decide +kernel) rfl (Or.inl rfl) ?_
              exact ⟨C, X.le (by decide) (by decide), by omega⟩
          · refine zwif_eq (q := 40) (nx := 37) (by decide +kernel) (fun c16 => ?_) (fun c16 => ?_)
            · refine zwW_p [(1, 5, 2), (12, 0, 0)] (q := 43) (ls' := [(2, 1), (0, a), (0, b), (0, c), (2, v2), (2, v8)]) (st' := [(2, v8), (2, v8)]) (by decide +kernel) rfl ?_
              refine zwX_gi C (kd := 6) (bn := 6) (n := 7) (nx := 46) (by decide +kernel) Gv8.2.1 Gv8.1 rfl ?_
              intro v17 ev17 lv17 uv17
              refine zwW_p [(1, 3, 0)] (q := 47) (ls' := [(2, 1), (0, a), (0, b), (0, c), (2, v2), (2, v8)]) (st' := [(0, c), (0, v17), (2, v8)]) (by decide +kernel) rfl ?_
              refine zwW_sbw (nx := 48) (by decide +kernel) ?_
              intro v18 ev18 lv18 uv18
              have Ev18 : v18 = w32 ((fld h v8 6) - c) := by rw [ev18, ev17]
              refine zwX_pi C (kd := 6) (bn := 6) (n := 7) (nx := 51) (by decide +kernel) Gv8.2.1 Gv8.1 (by first | omega | exact ⟨by omega, by omega⟩) ?_
              rintro h19 eh19 Ch19 Qh19
              have Xh19 : zXR msx35 (0) (0) h h19 := X.tr (c2 := 0) (s2 := 0) Qh19 (by decide +kernel) (by decide) (by decide)
              have Gh19_0 : gH h19 v2 := Gv2.x Qh19
              have Gh19_1 : gL h19 v8 := Gv8.x Qh19
              refine zwW_p [(1, 4, 2), (12, 0, 0)] (q := 54) (ls' := [(2, 1), (0, a), (0, b), (0, c), (2, v2), (2, v8)]) (st' := [(2, v2), (2, v2)]) (by decide +kernel) rfl ?_
              refine zwX_gi Ch19 (kd := 4) (bn := 16) (n := 19) (nx := 57) (by decide +kernel) Gh19_0.2.1 Gh19_0.1 rfl ?_
              intro v20 ev20 lv20 uv20
              refine zwW_p [(1, 3, 0)] (q := 58) (ls' := [(2, 1), (0, a), (0, b), (0, c), (2, v2), (2, v8)]) (st' := [(0, c), (0, v20), (2, v2)]) (by decide +kernel) rfl ?_
              refine zwW_adw (nx := 59) (by decide +kernel) ?_
              intro v21 ev21 lv21 uv21
              have Ev21 : v21 = w32 ((fld h19 v2 16) + c) := by rw [ev21, ev20]
              refine zwX_pi Ch19 (kd := 4) (bn := 16) (n := 19) (nx := 62) (by decide +kernel) Gh19_0.2.1 Gh19_0.1 (by first | omega | exact ⟨by omega, by omega⟩) ?_
              rintro h22 eh22 Ch22 Qh22
              have Xh22 : zXR msx35 (0) (0) h h22 := Xh19.tr (c2 := 0) (s2 := 0) Qh22 (by decide +kernel) (by decide) (by decide)
              have Gh22_0 : gH h22 v2 := Gh19_0.x Qh22
              have Gh22_1 : gL h22 v8 := Gh19_1.x Qh22
              refine zwW_p [(1, 5, 2)] (q := 64) (ls' := [(2, 1), (0, a), (0, b), (0, c), (2, v2), (2, v8)]) (st' := [(2, v8)]) (by decide +kernel) rfl ?_
              refine zwW_get (kd := 6) (bn := 1) (t := 2) (n := 7) (nx := 67) (by decide +kernel) Gh22_1.2.1 rfl ?_
              obtain ⟨v23, ev23⟩ : ∃ z, z = fld h22 v8 1 := ⟨_, rfl⟩
              rw [← ev23]
              have Gv23 : gH h22 v23 := by rw [ev23]; exact Gh22_1.2.2
              have lv23 := Gv23.1
              refine zwW_p [(1, 4, 2)] (q := 69) (ls' := [(2, 1), (0, a), (0, b), (0, c), (2, v2), (2, v8)]) (st' := [(2, v2), (2, v23)]) (by decide +kernel) rfl ?_
              refine zwac_eq (q := 83) (nx := 72) (by decide +kernel) ⟨by omega, by omega, by omega, by omega⟩ (fun c24 => ?_) (fun c24 => ?_)
              · refine zwW_p [(1, 0, 2)] (q := 84) (ls' := [(2, 1), (0, a), (0, b), (0, c), (2, v2), (2, v8)]) (st' := [(2, 1)]) (by decide +kernel) rfl ?_
                refine zwW_gc Ch22.1 (kd := 12) (bn := 11) (n := 13) (c := 34) (nx := 87) (by decide +kernel) ?_
                refine zwW_p [(12, 0, 0)] (q := 88) (ls' := [(2, 1), (0, a), (0, b), (0, c), (2, v2), (2, v8)]) (st' := [(2, 34), (2, 34)]) (by decide +kernel) rfl ?_
                refine zwW_gs Ch22.1 (kd := 5) (bn := 0) (n := 4) (t := 0) (lo := -2147483648) (hi := 2147483647) (nx := 91) (by decide +kernel) ?_
                intro v25 ev25 lv25 uv25
                refine zwW_p [(1, 3, 0)] (q := 92) (ls' := [(2, 1), (0, a), (0, b), (0, c), (2, v2), (2, v8)]) (st' := [(0, c), (0, v25), (2, 34)]) (by decide +kernel) rfl ?_
                refine zwW_adw (nx := 93) (by decide +kernel) ?_
                intro v26 ev26 lv26 uv26
                refine zwW_ps Ch22.1 (kd := 5) (bn := 0) (n := 4) (lo := -2147483648) (hi := 2147483647) (nx := 96) (by decide +kernel) (by first | omega | exact ⟨by omega, by omega⟩) ?_
                intro h27 eh27 Ih27
                have Ch27 : CI h27 := Ch22.wc eh27 Ih27 (by decide) (by decide)
                have Qh27 : zXR [(34, 34, 0, 1)] 0 0 h22 h27 := zXR.wc eh27 rfl ⟨by decide, by decide, Or.inl (by decide)⟩ (by first | decide | exact ⟨by decide, by decide⟩)
                have Xh27 : zXR msx35 (0) (0) h h27 := Xh22.tr (c2 := 0) (s2 := 0) Qh27 (by decide +kernel) (by decide) (by decide)
                have Gh27_0 : gH h27 v2 := Gh22_0.x Qh27
                have Gh27_1 : gL h27 v8 := Gh22_1.x Qh27
                refine zwW_p [(1, 4, 2)] (q := 98) (ls' := [(2, 1), (0, a), (0, b), (0, c), (2, v2), (2, v8)]) (st' := [(2, v2)]) (by decide +kernel) rfl ?_
                refine zwX_gi Ch27 (kd := 4) (bn := 15) (n := 19) (nx := 101) (by decide +kernel) Gh27_0.2.1 Gh27_0.1 rfl ?_
                intro v28 ev28 lv28 uv28
                refine zwW_p [(1, 4, 2)] (q := 103) (ls' := [(2, 1), (0, a), (0, b), (0, c), (2, v2), (2, v8)]) (st' := [(2, v2), (0, v28)]) (by decide +kernel) rfl ?_
                refine zwX_gi Ch27 (kd := 4) (bn := 16) (n := 19) (nx := 106) (by decide +kernel) Gh27_0.2.1 Gh27_0.1 rfl ?_
                intro v29 ev29 lv29 uv29
                refine zwW_sbw (nx := 107) (by decide +kernel) ?_
                intro v30 ev30 lv30 uv30
                have Ev30 : v30 = w32 ((fld h27 v2 15) - (fld h27 v2 16)) := by rw [ev30, ev28, ev29]
                refine zwW_ret (nx := 108) (a := 0) (b := 0) (by decide +kernel) rfl (Or.inl rfl) ?_
                exact ⟨Ch27, Xh27.le (by decide) (by decide), by omega⟩
              · refine zwW_p [(1, 4, 2), (12, 0, 0)] (q := 75) (ls' := [(2, 1), (0, a), (0, b), (0, c), (2, v2), (2, v8)]) (st' := [(2, v2), (2, v2)]) (by decide +kernel) rfl ?_
                refine zwX_gi Ch22 (kd := 4) (bn := 17) (n := 19) (nx := 78) (by decide +kernel) Gh22_0.2.1 Gh22_0.1 rfl ?_
                intro v31 ev31 lv31 uv31
                refine zwW_p [(1, 3, 0)] (q := 79) (ls' := [(2, 1), (0, a), (0, b), (0, c), (2, v2), (2, v8)]) (st' := [(0, c), (0, v31), (2, v2)]) (by decide +kernel) rfl ?_
                refine zwW_adw (nx := 80) (by decide +kernel) ?_
                intro v32 ev32 lv32 uv32
                have Ev32 : v32 = w32 ((fld h22 v2 17) + c) := by rw [ev32, ev31]
                refine zwX_pi Ch22 (kd := 4) (bn := 17) (n := 19) (nx := 83) (by decide +kernel) Gh22_0.2.1 Gh22_0.1 (by first | omega | exact ⟨by omega, by omega⟩) ?_
                rintro h33 eh33 Ch33 Qh33
                have Xh33 : zXR msx35 (0) (0) h h33 := Xh22.tr (c2 := 0) (s2 := 0) Qh33 (by decide +kernel) (by decide) (by decide)
                have Gh33_0 : gH h33 v2 := Gh22_0.x Qh33
                have Gh33_1 : gL h33 v8 := Gh22_1.x Qh33
                refine zwW_p [(1, 0, 2)] (q := 84) (ls' := [(2, 1), (0, a), (0, b), (0, c), (2, v2), (2, v8)]) (st' := [(2, 1)]) (by decide +kernel) rfl ?_
                refine zwW_gc Ch33.1 (kd := 12) (bn := 11) (n := 13) (c := 34) (nx := 87) (by decide +kernel) ?_
                refine zwW_p [(12, 0, 0)] (q := 88) (ls' := [(2, 1), (0, a), (0, b), (0, c), (2, v2), (2, v8)]) (st' := [(2, 34), (2, 34)]) (by decide +kernel) rfl ?_
                refine zwW_gs Ch33.1 (kd := 5) (bn := 0) (n := 4) (t := 0) (lo := -2147483648) (hi := 2147483647) (nx := 91) (by decide +kernel) ?_
                intro v34 ev34 lv34 uv34
                refine zwW_p [(1, 3, 0)] (q := 92) (ls' := [(2, 1), (0, a), (0, b), (0, c), (2, v2), (2, v8)]) (st' := [(0, c), (0, v34), (2, 34)]) (by decide +kernel) rfl ?_
                refine zwW_adw (nx := 93) (by decide +kernel) ?_
                intro v35 ev35 lv35 uv35
                refine zwW_ps Ch33.1 (kd := 5) (bn := 0) (n := 4) (lo := -2147483648) (hi := 2147483647) (nx := 96) (by decide +kernel) (by first | omega | exact ⟨by omega, by omega⟩) ?_
                intro h36 eh36 Ih36
                have Ch36 : CI h36 := Ch33.wc eh36 Ih36 (by decide) (by decide)
                have Qh36 : zXR [(34, 34, 0, 1)] 0 0 h33 h36 := zXR.wc eh36 rfl ⟨by decide, by decide, Or.inl (by decide)⟩ (by first | decide | exact ⟨by decide, by decide⟩)
                have Xh36 : zXR msx35 (0) (0) h h36 := Xh33.tr (c2 := 0) (s2 := 0) Qh36 (by decide +kernel) (by decide) (by decide)
                have Gh36_0 : gH h36 v2 := Gh33_0.x Qh36
                have Gh36_1 : gL h36 v8 := Gh33_1.x Qh36
                refine zwW_p [(1, 4, 2)] (q := 98) (ls' := [(2, 1), (0, a), (0, b), (0, c), (2, v2), (2, v8)]) (st' := [(2, v2)]) (by decide +kernel) rfl ?_
                refine zwX_gi Ch36 (kd := 4) (bn := 15) (n := 19) (nx := 101) (by decide +kernel) Gh36_0.2.1 Gh36_0.1 rfl ?_
                intro v37 ev37 lv37 uv37
                refine zwW_p [(1, 4, 2)] (q := 103) (ls' := [(2, 1), (0, a), (0, b), (0, c), (2, v2), (2, v8)]) (st' := [(2, v2), (0, v37)]) (by decide +kernel) rfl ?_
                refine zwX_gi Ch36 (kd := 4) (bn := 16) (n := 19) (nx := 106) (by decide +kernel) Gh36_0.2.1 Gh36_0.1 rfl ?_
                intro v38 ev38 lv38 uv38
                refine zwW_sbw (nx := 107) (by decide +kernel) ?_
                intro v39 ev39 lv39 uv39
                have Ev39 : v39 = w32 ((fld h36 v2 15) - (fld h36 v2 16)) := by rw [ev39, ev37, ev38]
                refine zwW_ret (nx := 108) (a := 0) (b := 0) (by decide +kernel) rfl (Or.inl rfl) ?_
                exact ⟨Ch36, Xh36.le (by decide) (by decide), by omega⟩
            · exfalso; omega
-- WheelLand.due(II)I
theorem x37 {sc : List Int} (h : Hp) (C : CI h) (a b : Int) (q_a : -2147483648 ≤ a ∧ a ≤ 2147483647) (q_b : -2147483648 ≤ b ∧ b ≤ 2147483647) : zwC sc 6 37 [(2, 1), (0, a), (0, b)] h (zwRt 0 (fun x g => h = g ∧ (-2147483648 ≤ x ∧ x ≤ 2147483647))) := by
  refine zwC_of (D := 5) 4 (by decide +kernel) rfl (ls := [(2, 1), (0, a), (0, b), (9, 0)]) rfl ?_
  refine zwW_p [(1, 0, 2), (1, 1, 0)] (q := 2) (ls' := [(2, 1), (0, a), (0, b), (9, 0)]) (st' := [(0, a), (2, 1)]) (by decide +kernel) rfl ?_
  refine zwW_cm C.1 (op := 60) (k' := 109) (n := 1) (kd := 12) (m := 13) (nx := 5) (r := 1) (tl := [(0, a)]) (st' := []) (by decide +kernel) rfl (by decide +kernel) rfl (x109 h C a (by omega)) ?_
  rintro v2 _ ⟨rfl, ⟨rfl, c1⟩ | ⟨Gv2, c1⟩⟩
  · refine zwW_p [(2, 3, 2), (1, 3, 2)] (q := 7) (ls' := [(2, 1), (0, a), (0, b), (2, 0)]) (st' := [(2, 0)]) (by decide +kernel) rfl ?_
    refine zwnu_ne (q := 13) (nx := 10) (by decide +kernel) (by decide) (fun c3 => ?_) (fun c3 => ?_)
    · exfalso; omega
    · refine zwW_p [(0, -2147483648, 0)] (q := 12) (ls' := [(2, 1), (0, a), (0, b), (2, 0)]) (st' := [(0, -2147483648)]) (by decide +kernel) rfl ?_
      refine zwW_ret (nx := 13) (a := 0) (b := 0) (by decide +kernel) rfl (Or.inl rfl) ?_
      exact ⟨rfl, by omega⟩
  · have lv2 := Gv2.1
    have ev2 := c1.2.2
    refine zwW_p [(2, 3, 2), (1, 3, 2)] (q := 7) (ls' := [(2, 1), (0, a), (0, b), (2, v2)]) (st' := [(2, v2)]) (by decide +kernel) rfl ?_
    refine zwnu_ne (q := 13) (nx := 10) (by decide +kernel) (by omega) (fun c4 => ?_) (fun c4 => ?_)
    · refine zwW_p [(1, 2, 0)] (q := 14) (ls' := [(2, 1), (0, a), (0, b), (2, v2)]) (st' := [(0, b)]) (by decide +kernel) rfl ?_
      refine zwW_sw (d := 87) (os := [0, 48, 1, 58, 2, 63, 3, 68, 4, 82]) (by decide +kernel) ?_
      refine ⟨fun c5 => ?_, fun c5 => ?_⟩
      · show zwW _ _ _ 48 _ _ _ _
        refine zwW_p [(1, 3, 2)] (q := 49) (ls' := [(2, 1), (0, a), (0, b), (2, v2)]) (st' := [(2, v2)]) (by decide +kernel) rfl ?_
        refine zwX_gi C (kd := 4) (bn := 15) (n := 19) (nx := 52) (by decide +kernel) Gv2.2.1 Gv2.1 rfl ?_
        intro v6 ev6 lv6 uv6
        refine zwW_p [(1, 3, 2)] (q := 53) (ls' := [(2, 1), (0, a), (0, b), (2, v2)]) (st' := [(2, v2), (0, v6)]) (by decide +kernel) rfl ?_
        refine zwX_gi C (kd := 4) (bn := 16) (n := 19) (nx := 56) (by decide +kernel) Gv2.2.1 Gv2.1 rfl ?_
        intro v7 ev7 lv7 uv7
        refine zwW_sbw (nx := 57) (by decide +kernel) ?_
        intro v8 ev8 lv8 uv8
        have Ev8 : v8 = w32 ((fld h v2 15) - (fld h v2 16)) := by rw [ev8, ev6, ev7]
        refine zwW_ret (nx := 58) (a := 0) (b := 0) (by decide +kernel) rfl (Or.inl rfl) ?_
        exact ⟨rfl, by omega⟩
      refine ⟨fun c9 => ?_, fun c9 => ?_⟩
      · show zwW _ _ _ 58 _ _ _ _
        refine zwW_p [(1, 3, 2)] (q := 59) (ls' := [(2, 1), (0, a), (0, b), (2, v2)]) (st' := [(2, v2)]) (by decide +kernel) rfl ?_
        refine zwX_gi C (kd := 4) (bn := 16) (n := 19) (nx := 62) (by decide +kernel) Gv2.2.1 Gv2.1 rfl ?_
        intro v10 ev10 lv10 uv10
        refine zwW_ret (nx := 63) (a := 0) (b := 0) (by decide +kernel) rfl (Or.inl rfl) ?_
        exact ⟨rfl, by omega⟩
      refine ⟨fun c11 => ?_, fun c11 => ?_⟩
      · show zwW _ _ _ 63 _ _ _ _
        refine zwW_p [(1, 3, 2)] (q := 64) (ls' := [(2, 1), (0, a), (0, b), (2, v2)]) (st' := [(2, v2)]) (by decide +kernel) rfl ?_
        refine zwX_gi C (kd := 4) (bn := 18) (n := 19) (nx := 67) (by decide +kernel) Gv2.2.1 Gv2.1 rfl ?_
        intro v12 ev12 lv12 uv12
        refine zwW_ret (nx := 68) (a := 0) (b := 0) (by decide +kernel) rfl (Or.inl rfl) ?_
        exact ⟨rfl, by omega⟩
      refine ⟨fun c13 => ?_, fun c13 => ?_⟩
      · show zwW _ _ _ 68 _ _ _ _
        refine zwW_p [(1, 3, 2)] (q := 69) (ls' := [(2, 1), (0, a), (0, b), (2, v2)]) (st' := [(2, v2)]) (by decide +kernel) rfl ?_
        refine zwX_gi C (kd := 4) (bn := 16) (n := 19) (nx := 72) (by decide +kernel) Gv2.2.1 Gv2.1 rfl ?_
        intro v14 ev14 lv14 uv14
        refine zwW_p [(1, 3, 2)] (q := 73) (ls' := [(2, 1), (0, a), (0, b), (2, v2)]) (st' := [(2, v2), (0, v14)]) (by decide +kernel) rfl ?_
        refine zwX_gi C (kd := 4) (bn := 18) (n := 19) (nx := 76) (by decide +kernel) Gv2.2.1 Gv2.1 rfl ?_
        intro v15 ev15 lv15 uv15
        refine zwW_sbw (nx := 77) (by decide +kernel) ?_
        intro v16 ev16 lv16 uv16
        have Ev16 : v16 = w32 ((fld h v2 16) - (fld h v2 18)) := by rw [ev16, ev14, ev15]
        refine zwW_p [(0, 0, 0)] (q := 78) (ls' := [(2, 1), (0, a), (0, b), (2, v2)]) (st' := [(0, 0), (0, v16)]) (by decide +kernel) rfl ?_
        refine zwW_max (nx := 81) (by decide +kernel) rfl ?_
        intro v17 ev17
        refine zwW_ret (nx := 82) (a := 0) (b := 0) (by decide +kernel) rfl (Or.inl rfl) ?_
        exact ⟨rfl, by omega⟩
      refine ⟨fun c18 => ?_, fun c18 => ?_⟩
      · show zwW _ _ _ 82 _ _ _ _
        refine zwW_p [(1, 3, 2)] (q := 83) (ls' := [(2, 1), (0, a), (0, b), (2, v2)]) (st' := [(2, v2)]) (by decide +kernel) rfl ?_
        refine zwX_gi C (kd := 4) (bn := 17) (n := 19) (nx := 86) (by decide +kernel) Gv2.2.1 Gv2.1 rfl ?_
        intro v19 ev19 lv19 uv19
        refine zwW_ret (nx := 87) (a := 0) (b := 0) (by decide +kernel) rfl (Or.inl rfl) ?_
        exact ⟨rfl, by omega⟩
      show zwW _ _ _ 87 _ _ _ _
      refine zwW_p [(0, -2147483648, 0)] (q := 89) (ls' := [(2, 1), (0, a), (0, b), (2, v2)]) (st' := [(0, -2147483648)]) (by decide +kernel) rfl ?_
      refine zwW_ret (nx := 90) (a := 0) (b := 0) (by decide +kernel) rfl (Or.inl rfl) ?_
      exact ⟨rfl, by omega⟩
    · exfalso; omega
def msx39 : Zms := [(17, 17, 0, 13), (18, 18, 0, 400)]
-- WheelLand.bar(III)I
theorem x39 {sc : List Int} (h : Hp) (C : CI h) (a b c : Int) (q_a : -2147483648 ≤ a ∧ a ≤ 2147483647) (q_b : -2147483648 ≤ b ∧ b ≤ 2147483647) (q_c : -2147483648 ≤ c ∧ c ≤ 2147483647) : zwC sc 7 39 [(2, 1), (0, a), (0, b), (0, c)] h (zwRt 0 (fun x g => CI g ∧ zXR msx39 (0) (0) h g ∧ (-2147483648 ≤ x ∧ x ≤ 2147483647))) := by
  refine zwC_of (D := 6) 6 (by decide +kernel) rfl (ls := [(2, 1), (0, a), (0, b), (0, c), (9, 0), (9, 0)]) rfl ?_
  have X : zXR msx39 0 0 h h := zXR.rf _ _
  refine zwW_p [(1, 0, 2), (1, 1, 0)] (q := 2) (ls' := [(2, 1), (0, a), (0, b), (0, c), (9, 0), (9, 0)]) (st' := [(0, a), (2, 1)]) (by decide +kernel) rfl ?_
  refine zwW_cm C.1 (op := 60) (k' := 109) (n := 1) (kd := 12) (m := 13) (nx := 5) (r := 1) (tl := [(0, a)]) (st' := []) (by decide +kernel) rfl (by decide +kernel) rfl (x109 h C a (by omega)) ?_
  rintro v2 _ ⟨rfl, ⟨rfl, c1⟩ | ⟨Gv2, c1⟩⟩
  · refine zwW_p [(2, 4, 2), (1, 0, 2), (1, 2, 0)] (q := 9) (ls' := [(2, 1), (0, a), (0, b), (0, c), (2, 0), (9, 0)]) (st' := [(0, b), (2, 1)]) (by decide +kernel) rfl ?_
    refine zwW_cm C.1 (op := 60) (k' := 115) (n := 1) (kd := 12) (m := 13) (nx := 12) (r := 1) (tl := [(0, b)]) (st' := []) (by decide +kernel) rfl (by decide +kernel) rfl (x115 h C b (by omega)) ?_
    rintro v4 _ ⟨rfl, ⟨rfl, c3⟩ | ⟨Gv4, c3⟩⟩
    · refine zwW_p [(2, 5, 2), (1, 4, 2)] (q := 16) (ls' := [(2, 1), (0, a), (0, b), (0, c), (2, 0), (2, 0)]) (st' := [(2, 0)]) (by decide +kernel) rfl ?_
      refine zwnu_eq (q := 31) (nx := 19) (by decide +kernel) (by decide) (fun c5 => ?_) (fun c5 => ?_)
      · refine zwW_p [(0, -1, 0)] (q := 32) (ls' := [(2, 1), (0, a), (0, b), (0, c), (2, 0), (2, 0)]) (st' := [(0, -1)]) (by decide +kernel) rfl ?_
        refine zwW_ret (nx := 33) (a := 0) (b := 0) (by decide +kernel) rfl (Or.inl rfl) ?_
        exact ⟨C, X.le (by decide) (by decide), by omega⟩
      · exfalso; omega
    · have lv4 := Gv4.1
      have ev4 := c3.2.2
      refine zwW_p [(2, 5, 2), (1, 4, 2)] (q := 16) (ls' := [(2, 1), (0, a), (0, b), (0, c), (2, 0), (2, v4)]) (st' := [(2, 0)]) (by decide +kernel) rfl ?_
      refine zwnu_eq (q := 31) (nx := 19) (by decide +kernel) (by decide) (fun c6 => ?_) (fun c6 => ?_)
      · refine zwW_p [(0, -1, 0)] (q := 32) (ls' := [(2, 1), (0, a), (0, b), (0, c), (2, 0), (2, v4)]) (st' := [(0, -1)]) (by decide +kernel) rfl ?_
        refine zwW_ret (nx := 33) (a := 0) (b := 0) (by decide +kernel) rfl (Or.inl rfl) ?_
        exact ⟨C, X.le (by decide) (by decide), by omega⟩
      · exfalso; omega
  · have lv2 := Gv2.1
    have ev2 := c1.2.2
    refine zwW_p [(2, 4, 2), (1, 0, 2), (1, 2, 0)] (q := 9) (ls' := [(2, 1), (0, a), (0, b), (0, c), (2, v2), (9, 0)]) (st' := [(0, b), (2, 1)]) (by decide +kernel) rfl ?_
    refine zwW_cm C.1 (op := 60) (k' := 115) (n := 1) (kd := 12) (m := 13) (nx := 12) (r := 1) (tl := [(0, b)]) (st' := []) (by decide +kernel) rfl (by decide +kernel) rfl (x115 h C b (by omega)) ?_
    rintro v8 _ ⟨rfl, ⟨rfl, c7⟩ | ⟨Gv8, c7⟩⟩
    · refine zwW_p [(2, 5, 2), (1, 4, 2)] (q := 16) (ls' := [(2, 1), (0, a), (0, b), (0, c), (2, v2), (2, 0)]) (st' := [(2, v2)]) (by decide +kernel) rfl ?_
      refine zwnu_eq (q := 31) (nx := 19) (by decide +kernel) (by omega) (fun c9 => ?_) (fun c9 => ?_)
      · exfalso; omega
      · refine zwW_p [(1, 5, 2)] (q := 21) (ls' := [(2, 1), (0, a), (0, b), (0, c), (2, v2), (2, 0)]) (st' := [(2, 0)]) (by decide +kernel) rfl ?_
        refine zwnu_eq (q := 31) (nx := 24) (by decide +kernel) (by decide) (fun c10 => ?_) (fun c10 => ?_)
        · refine zwW_p [(0, -1, 0)] (q := 32) (ls' := [(2, 1), (0, a), (0, b), (0, c), (2, v2), (2, 0)]) (st' := [(0, -1)]) (by decide +kernel) rfl ?_
          refine zwW_ret (nx := 33) (a := 0) (b := 0) (by decide +kernel) rfl (Or.inl rfl) ?_
          exact ⟨C, X.le (by decide) (by decide), by omega⟩
        · exfalso; omega
    · have lv8 := Gv8.1
      have ev8 := c7.2.2
      refine zwW_p [(2, 5, 2), (1, 4, 2)] (q := 16) (ls' := [(2, 1), (0, a), (0, b), (0, c), (2, v2), (2, v8)]) (st' := [(2, v2)]) (by decide +kernel) rfl ?_
      refine zwnu_eq (q := 31) (nx := 19) (by decide +kernel) (by omega) (fun c11 => ?_) (fun c11 => ?_)
      · exfalso; omega
      · refine zwW_p [(1, 5, 2)] (q := 21) (ls' := [(2, 1), (0, a), (0, b), (0, c), (2, v2), (2, v8)]) (st' := [(2, v8)]) (by decide +kernel) rfl ?_
        refine zwnu_eq (q := 31) (nx := 24) (by decide +kernel) (by omega) (fun c12 => ?_) (fun c12 => ?_)
        · exfalso; omega
        · refine zwW_p [(1, 3, 0)] (q := 25) (ls' := [(2, 1), (0, a), (0, b), (0, c), (2, v2), (2, v8)]) (st' := [(0, c)]) (by decide +kernel) rfl ?_
          refine zwW_cs (k' := 130) (n := 1) (nx := 28) (as := [(0, c)]) (st' := []) (by decide +kernel) rfl (x130 h C c (by omega)) rfl ?_
          rintro x _ ⟨rfl, ⟨rfl, c13⟩ | ⟨rfl, c13⟩⟩
          · refine zwif_ne (q := 33) (nx := 31) (by decide +kernel) (fun c14 => ?_) (fun c14 => ?_)
            · refine zwW_p [(1, 0, 2), (1, 4, 2), (1, 5, 2), (1, 3, 0)] (q := 39) (ls' := [(2, 1), (0, a), (0, b), (0, c), (2, v2), (2, v8)]) (st' := [(0, c), (2, v8), (2, v2), (2, 1)]) (by decide +kernel) rfl ?_
              refine zwW_cm C.1 (op := 60) (k' := 131) (n := 3) (kd := 12) (m := 13) (nx := 42) (r := 1) (tl := [(2, v2), (2, v8), (0, c)]) (st' := []) (by decide +kernel) rfl (by decide +kernel) rfl (x131 h C v2 v8 c Gv2 Gv8 (by omega)) ?_
              rintro v16 h17 ⟨Ch17, Qh17, f15⟩
              have Xh17 : zXR msx39 (0) (0) h h17 := X.tr (c2 := 0) (s2 := 0) Qh17 (by decide +kernel) (by decide) (by decide)
              have Gh17_0 : gH h17 v2 := Gv2.x Qh17
              have Gh17_1 : gL h17 v8 := Gv8.x Qh17
              refine zwW_ret (nx := 43) (a := 0) (b := 0) (by decide +kernel) rfl (Or.inl rfl) ?_
              exact ⟨Ch17, Xh17.le (by decide) (by decide), by omega⟩
            · exfalso; omega
          · refine zwif_ne (q := 33) (nx := 31) (by decide +kernel) (fun c18 => ?_) (fun c18 => ?_)
            · exfalso; omega
            · refine zwW_p [(0, -1, 0)] (q := 32) (ls' := [(2, 1), (0, a), (0, b), (0, c), (2, v2), (2, v8)]) (st' := [(0, -1)]) (by decide +kernel) rfl ?_
              refine zwW_ret (nx := 33) (a := 0) (b := 0) (by decide +kernel) rfl (Or.inl rfl) ?_
              exact ⟨C, X.le (by decide) (by decide), by omega⟩
end
