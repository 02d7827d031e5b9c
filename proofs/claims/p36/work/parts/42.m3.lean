/-! contracts of methods -/
def ms155 : Zms := [(168, 168, 0, 13), (169, 169, 0, 420)]
-- WheelLandModel.dutyAt(I)I
theorem m155 {sc : List Int} (h : Hp) (I : zI h) (a : Int) (p1 : 0 ≤ a) (p2 : a ≤ 7) (hW : zCW h) : zwC sc 4 155 [(2, 37), (0, a)] h (zwRt 0 (fun x g => zI g ∧ zMR ms155 h g ∧ (-2147483648 ≤ x ∧ x ≤ 2147483647) ∧ (0 ≤ x))) := by
  refine zwC_of (D := 3) 2 (by decide +kernel) rfl (ls := [(2, 37), (0, a)]) rfl ?_
  have R : zMR ms155 h h := zMR.rf _ _
  refine zwW_p [(1, 0, 2)] (q := 1) (ls' := [(2, 37), (0, a)]) (st' := [(2, 37)]) (by decide +kernel) rfl ?_
  refine zwW_cmv I (op := 60) (k' := 215) (n := 0) (kd := 13) (m := 97) (nx := 4) (r := 37) (tl := []) (st' := []) (by decide +kernel) rfl (by decide +kernel) rfl (m215 h I) ?_
  rintro h1 ⟨Ih1, Qh1⟩
  have Rh1 : zMR ms155 h h1 := R.tr Qh1 (by decide +kernel)
  refine zwW_p [(1, 0, 2)] (q := 5) (ls' := [(2, 37), (0, a)]) (st' := [(2, 37)]) (by decide +kernel) rfl ?_
  refine zwW_gc Ih1 (kd := 13) (bn := 56) (n := 97) (c := 168) (nx := 8) (by decide +kernel) ?_
  refine zwW_p [(0, 12, 0), (1, 0, 2)] (q := 11) (ls' := [(2, 37), (0, a)]) (st' := [(2, 37), (0, 12), (2, 168)]) (by decide +kernel) rfl ?_
  refine zwW_gc Ih1 (kd := 13) (bn := 12) (n := 97) (c := 71) (nx := 14) (by decide +kernel) ?_
  refine zwW_p [(1, 1, 0)] (q := 15) (ls' := [(2, 37), (0, a)]) (st' := [(0, a), (2, 71), (0, 12), (2, 168)]) (by decide +kernel) rfl ?_
  refine zwW_al Ih1 (a1 := 71) (a2 := 71) (kd := 20) (n := 8) (t := 0) (lo := -2147483648) (hi := 2147483647) (nx := 16) (by decide +kernel) (by first | decide | exact ⟨by decide, by decide⟩) (by first | omega | exact ⟨by omega, by omega⟩) ?_
  intro v2 ev2 lv2 uv2
  refine zwW_as Ih1 (a1 := 168) (a2 := 168) (n := 13) (lo := -2147483648) (hi := 2147483647) (nx := 17) (by decide +kernel) (by first | decide | exact ⟨by decide, by decide⟩) (by first | decide | exact ⟨by decide, by decide⟩) (by first | omega | exact ⟨by omega, by omega⟩) ?_
  intro h3 eh3 Ih3
  have Rh3 : zMR ms155 h h3 := Rh1.w (a1 := 168) (a2 := 168) (j1 := 0) (j2 := 13) (by decide +kernel) (by first | decide | exact ⟨by decide, by decide⟩) (by first | decide | exact ⟨by decide, by decide⟩) eh3
  refine zwW_p [(1, 0, 2), (0, 2, 0)] (q := 19) (ls' := [(2, 37), (0, a)]) (st' := [(0, 2), (2, 37)]) (by decide +kernel) rfl ?_
  refine zwW_cm Ih3 (op := 60) (k' := 137) (n := 1) (kd := 13) (m := 97) (nx := 22) (r := 37) (tl := [(0, 2)]) (st' := []) (by decide +kernel) rfl (by decide +kernel) rfl (m137 h3 Ih3 2 (by omega) (by omega) (hW.mr I Rh3 (by decide +kernel))) ?_
  rintro v4 h6 ⟨Ih6, Qh6, f5⟩
  have Rh6 : zMR ms155 h h6 := Rh3.tr Qh6 (by decide +kernel)
  refine zwW_cs (k' := 129) (n := 1) (nx := 25) (as := [(0, v4)]) (st' := []) (by decide +kernel) rfl (m129 h6 v4 (by omega)) rfl ?_
  rintro v7 _ ⟨rfl, f8, f9, f10⟩
  refine zwW_ret (nx := 26) (a := 0) (b := 0) (by decide +kernel) rfl (Or.inl rfl) ?_
  exact ⟨Ih6, Rh6, by omega, by omega⟩
-- WheelLandModel.canHand(I)Z
theorem m156 {sc : List Int} (h : Hp) (I : zI h) (a : Int) (p1 : 0 ≤ a) (p2 : a ≤ 19) : zwC sc 1 156 [(2, 37), (0, a)] h (zwRt 0 (fun x g => h = g ∧ (-2147483648 ≤ x ∧ x ≤ 2147483647) ∧ (x = 0 ∨ x = 1))) := by
  refine zwC_of (D := 0) 3 (by decide +kernel) rfl (ls := [(2, 37), (0, a), (9, 0)]) rfl ?_
  refine zwW_p [(1, 0, 2)] (q := 1) (ls' := [(2, 37), (0, a), (9, 0)]) (st' := [(2, 37)]) (by decide +kernel) rfl ?_
  refine zwW_gc I (kd := 13) (bn := 20) (n := 97) (c := 79) (nx := 4) (by decide +kernel) ?_
  refine zwW_p [(1, 1, 0)] (q := 5) (ls' := [(2, 37), (0, a), (9, 0)]) (st' := [(0, a), (2, 79)]) (by decide +kernel) rfl ?_
  refine zwW_al I (a1 := 79) (a2 := 79) (kd := 20) (n := 20) (t := 0) (lo := 0) (hi := 7) (nx := 6) (by decide +kernel) (by first | decide | exact ⟨by decide, by decide⟩) (by first | omega | exact ⟨by omega, by omega⟩) ?_
  intro v1 ev1 lv1 uv1
  refine zwW_p [(2, 2, 0), (1, 0, 2)] (q := 8) (ls' := [(2, 37), (0, a), (0, v1)]) (st' := [(2, 37)]) (by decide +kernel) rfl ?_
  refine zwW_gc I (kd := 13) (bn := 8) (n := 97) (c := 67) (nx := 11) (by decide +kernel) ?_
  refine zwW_p [(1, 2, 0)] (q := 12) (ls' := [(2, 37), (0, a), (0, v1)]) (st' := [(0, v1), (2, 67)]) (by decide +kernel) rfl ?_
  refine zwW_al I (a1 := 67) (a2 := 67) (kd := 20) (n := 8) (t := 0) (lo := -2147483648) (hi := 2147483647) (nx := 13) (by decide +kernel) (by first | decide | exact ⟨by decide, by decide⟩) (by first | omega | exact ⟨by omega, by omega⟩) ?_
  intro v2 ev2 lv2 uv2
  refine zwW_p [(1, 0, 2)] (q := 14) (ls' := [(2, 37), (0, a), (0, v1)]) (st' := [(2, 37), (0, v2)]) (by decide +kernel) rfl ?_
  refine zwW_gc I (kd := 13) (bn := 9) (n := 97) (c := 68) (nx := 17) (by decide +kernel) ?_
  refine zwW_p [(1, 2, 0)] (q := 18) (ls' := [(2, 37), (0, a), (0, v1)]) (st' := [(0, v1), (2, 68), (0, v2)]) (by decide +kernel) rfl ?_
  refine zwW_al I (a1 := 68) (a2 := 68) (kd := 20) (n := 8) (t := 0) (lo := -2147483648) (hi := 2147483647) (nx := 19) (by decide +kernel) (by first | decide | exact ⟨by decide, by decide⟩) (by first | omega | exact ⟨by omega, by omega⟩) ?_
  intro v3 ev3 lv3 uv3
  refine zwW_adw (nx := 20) (by decide +kernel) ?_
  intro v4 ev4 lv4 uv4
  refine zwif_le (q := 42) (nx := 23) (by decide +kernel) (fun c5 => ?_) (fun c5 => ?_)
  · refine zwW_p [(0, 0, 0)] (q := 43) (ls' := [(2, 37), (0, a), (0, v1)]) (st' := [(0, 0)]) (by decide +kernel) rfl ?_
    refine zwW_ret (nx := 44) (a := 1) (b := 0) (by decide +kernel) rfl (Or.inr (Or.inl ⟨rfl, Or.inl rfl⟩)) ?_
    exact ⟨rfl, by omega, by omega⟩
  · refine zwW_p [(1, 0, 2)] (q := 24) (ls' := [(2, 37), (0, a), (0, v1)]) (st' := [(2, 37)]) (by decide +kernel) rfl ?_
    refine zwW_gc I (kd := 13) (bn := 25) (n := 97) (c := 84) (nx := 27) (by decide +kernel) ?_
    refine zwW_p [(1, 1, 0)] (q := 28) (ls' := [(2, 37), (0, a), (0, v1)]) (st' := [(0, a), (2, 84)]) (by decide +kernel) rfl ?_
    refine zwW_al I (a1 := 84) (a2 := 84) (kd := 20) (n := 20) (t := 0) (lo := -2147483648) (hi := 2147483647) (nx := 29) (by decide +kernel) (by first | decide | exact ⟨by decide, by decide⟩) (by first | omega | exact ⟨by omega, by omega⟩) ?_
    intro v6 ev6 lv6 uv6
    refine zwW_p [(1, 0, 2)] (q := 30) (ls' := [(2, 37), (0, a), (0, v1)]) (st' := [(2, 37), (0, v6)]) (by decide +kernel) rfl ?_
    refine zwW_gc I (kd := 13) (bn := 11) (n := 97) (c := 70) (nx := 33) (by decide +kernel) ?_
    refine zwW_p [(1, 2, 0)] (q := 34) (ls' := [(2, 37), (0, a), (0, v1)]) (st' := [(0, v1), (2, 70), (0, v6)]) (by decide +kernel) rfl ?_
    refine zwW_al I (a1 := 70) (a2 := 70) (kd := 20) (n := 8) (t := 0) (lo := -2147483648) (hi := 2147483647) (nx := 35) (by decide +kernel) (by first | decide | exact ⟨by decide, by decide⟩) (by first | omega | exact ⟨by omega, by omega⟩) ?_
    intro v7 ev7 lv7 uv7
    refine zwic_lt (q := 42) (nx := 38) (by decide +kernel) (fun c8 => ?_) (fun c8 => ?_)
    · refine zwW_p [(0, 0, 0)] (q := 43) (ls' := [(2, 37), (0, a), (0, v1)]) (st' := [(0, 0)]) (by decide +kernel) rfl ?_
      refine zwW_ret (nx := 44) (a := 1) (b := 0) (by decide +kernel) rfl (Or.inr (Or.inl ⟨rfl, Or.inl rfl⟩)) ?_
      exact ⟨rfl, by omega, by omega⟩
    · refine zwW_p [(0, 1, 0), (24, 43, 0)] (q := 43) (ls' := [(2, 37), (0, a), (0, v1)]) (st' := [(0, 1)]) (by decide +kernel) rfl ?_
      refine zwW_ret (nx := 44) (a := 1) (b := 0) (by decide +kernel) rfl (Or.inr (Or.inl ⟨rfl, Or.inr rfl⟩)) ?_
      exact ⟨rfl, by omega, by omega⟩
def ms157 : Zms := [(168, 168, 0, 13), (169, 169, 0, 420)]
-- WheelLandModel.canMill(I)Z
theorem m157 {sc : List Int} (h : Hp) (I : zI h) (a : Int) (p1 : 0 ≤ a) (p2 : a ≤ 19) (hW : zCW h) : zwC sc 5 157 [(2, 37), (0, a)] h (zwRt 0 (fun x g => zI g ∧ zMR ms157 h g ∧ (-2147483648 ≤ x ∧ x ≤ 2147483647) ∧ (x = 0 ∨ x = 1))) := by
  refine zwC_of (D := 4) 3 (by decide +kernel) rfl (ls := [(2, 37), (0, a), (9, 0)]) rfl ?_
  have R : zMR ms157 h h := zMR.rf _ _
  refine zwW_p [(1, 0, 2)] (q := 1) (ls' := [(2, 37), (0, a), (9, 0)]) (st' := [(2, 37)]) (by decide +kernel) rfl ?_
  refine zwW_gc I (kd := 13) (bn := 20) (n := 97) (c := 79) (nx := 4) (by decide +kernel) ?_
  refine zwW_p [(1, 1, 0)] (q := 5) (ls' := [(2, 37), (0, a), (9, 0)]) (st' := [(0, a), (2, 79)]) (by decide +kernel) rfl ?_
  refine zwW_al I (a1 := 79) (a2 := 79) (kd := 20) (n := 20) (t := 0) (lo := 0) (hi := 7) (nx := 6) (by decide +kernel) (by first | decide | exact ⟨by decide, by decide⟩) (by first | omega | exact ⟨by omega, by omega⟩) ?_
  intro v1 ev1 lv1 uv1
  refine zwW_p [(2, 2, 0), (1, 0, 2)] (q := 8) (ls' := [(2, 37), (0, a), (0, v1)]) (st' := [(2, 37)]) (by decide +kernel) rfl ?_
  refine zwW_gc I (kd := 13) (bn := 10) (n := 97) (c := 69) (nx := 11) (by decide +kernel) ?_
  refine zwW_p [(1, 2, 0)] (q := 12) (ls' := [(2, 37), (0, a), (0, v1)]) (st' := [(0, v1), (2, 69)]) (by decide +kernel) rfl ?_
  refine zwW_al I (a1 := 69) (a2 := 69) (kd := 20) (n := 8) (t := 0) (lo := -2147483648) (hi := 2147483647) (nx := 13) (by decide +kernel) (by first | decide | exact ⟨by decide, by decide⟩) (by first | omega | exact ⟨by omega, by omega⟩) ?_
  intro v2 ev2 lv2 uv2
  refine zwif_le (q := 41) (nx := 16) (by decide +kernel) (fun c3 => ?_) (fun c3 => ?_)
  · refine zwW_p [(0, 0, 0)] (q := 42) (ls' := [(2, 37), (0, a), (0, v1)]) (st' := [(0, 0)]) (by decide +kernel) rfl ?_
    refine zwW_ret (nx := 43) (a := 1) (b := 0) (by decide +kernel) rfl (Or.inr (Or.inl ⟨rfl, Or.inl rfl⟩)) ?_
    exact ⟨I, R, by omega, by omega⟩
  · refine zwW_p [(1, 0, 2)] (q := 17) (ls' := [(2, 37), (0, a), (0, v1)]) (st' := [(2, 37)]) (by decide +kernel) rfl ?_
    refine zwW_gc I (kd := 13) (bn := 25) (n := 97) (c := 84) (nx := 20) (by decide +kernel) ?_
    refine zwW_p [(1, 1, 0)] (q := 21) (ls' := [(2, 37), (0, a), (0, v1)]) (st' := [(0, a), (2, 84)]) (by decide +kernel) rfl ?_
    refine zwW_al I (a1 := 84) (a2 := 84) (kd := 20) (n := 20) (t := 0) (lo := -2147483648) (hi := 2147483647) (nx := 22) (by decide +kernel) (by first | decide | exact ⟨by decide, by decide⟩) (by first | omega | exact ⟨by omega, by omega⟩) ?_
    intro v4 ev4 lv4 uv4
    refine zwW_p [(1, 0, 2)] (q := 23) (ls' := [(2, 37), (0, a), (0, v1)]) (st' := [(2, 37), (0, v4)]) (by decide +kernel) rfl ?_
    refine zwW_gc I (kd := 13) (bn := 12) (n := 97) (c := 71) (nx := 26) (by decide +kernel) ?_
    refine zwW_p [(1, 2, 0)] (q := 27) (ls' := [(2, 37), (0, a), (0, v1)]) (st' := [(0, v1), (2, 71), (0, v4)]) (by decide +kernel) rfl ?_
    refine zwW_al I (a1 := 71) (a2 := 71) (kd := 20) (n := 8) (t := 0) (lo := -2147483648) (hi := 2147483647) (nx := 28) (by decide +kernel) (by first | decide | exact ⟨by decide, by decide⟩) (by first | omega | exact ⟨by omega, by omega⟩) ?_
    intro v5 ev5 lv5 uv5
    refine zwW_p [(1, 0, 2), (1, 2, 0)] (q := 30) (ls' := [(2, 37), (0, a), (0, v1)]) (st' := [(0, v1), (2, 37), (0, v5), (0, v4)]) (by decide +kernel) rfl ?_
    refine zwW_cm I (op := 60) (k' := 155) (n := 1) (kd := 13) (m := 97) (nx := 33) (r := 37) (tl := [(0, v1)]) (st' := [(0, v5), (0, v4)]) (by decide +kernel) rfl (by decide +kernel) rfl (m155 h I v1 (by omega) (by omega) (hW.mr I R (by decide +kernel))) ?_
    rintro v6 h9 ⟨Ih9, Qh9, f7, f8⟩
    have Rh9 : zMR ms157 h h9 := R.tr Qh9 (by decide +kernel)
    refine zwW_adw (nx := 34) (by decide +kernel) ?_
    intro v10 ev10 lv10 uv10
    refine zwic_lt (q := 41) (nx := 37) (by decide +kernel) (fun c11 => ?_) (fun c11 => ?_)
    · refine zwW_p [(0, 0, 0)] (q := 42) (ls' := [(2, 37), (0, a), (0, v1)]) (st' := [(0, 0)]) (by decide +kernel) rfl ?_
      refine zwW_ret (nx := 43) (a := 1) (b := 0) (by decide +kernel) rfl (Or.inr (Or.inl ⟨rfl, Or.inl rfl⟩)) ?_
      exact ⟨Ih9, Rh9, by omega, by omega⟩
    · refine zwW_p [(0, 1, 0), (24, 42, 0)] (q := 42) (ls' := [(2, 37), (0, a), (0, v1)]) (st' := [(0, 1)]) (by decide +kernel) rfl ?_
      refine zwW_ret (nx := 43) (a := 1) (b := 0) (by decide +kernel) rfl (Or.inr (Or.inl ⟨rfl, Or.inr rfl⟩)) ?_
      exact ⟨Ih9, Rh9, by omega, by omega⟩
def ms62 : Zms := [(168, 168, 0, 13), (169, 169, 0, 420)]
-- WheelLandModel.likes(I)I
theorem m62 {sc : List Int} (h : Hp) (I : zI h) (a : Int) (hW : zCW h) : zwC sc 6 62 [(2, 37), (0, a)] h (zwRt 0 (fun x g => zI g ∧ zMR ms62 h g ∧ (-2147483648 ≤ x ∧ x ≤ 2147483647) ∧ (-1 ≤ x ∧ x ≤ 1))) := by
  refine zwC_of (D := 5) 4 (by decide +kernel) rfl (ls := [(2, 37), (0, a), (9, 0), (9, 0)]) rfl ?_
  have R : zMR ms62 h h := zMR.rf _ _
  refine zwW_p [(1, 0, 2), (1, 1, 0)] (q := 2) (ls' := [(2, 37), (0, a), (9, 0), (9, 0)]) (st' := [(0, a), (2, 37)]) (by decide +kernel) rfl ?_
  refine zwW_cm I (op := 60) (k' := 111) (n := 1) (kd := 13) (m := 97) (nx := 5) (r := 37) (tl := [(0, a)]) (st' := []) (by decide +kernel) rfl (by decide +kernel) rfl (m111 h I a) ?_
  rintro x _ ⟨rfl, ⟨rfl, c1⟩ | ⟨rfl, c1⟩⟩
  · refine zwif_ne (q := 10) (nx := 8) (by decide +kernel) (fun c2 => ?_) (fun c2 => ?_)
    · refine zwW_p [(1, 0, 2)] (q := 11) (ls' := [(2, 37), (0, a), (9, 0), (9, 0)]) (st' := [(2, 37)]) (by decide +kernel) rfl ?_
      refine zwW_gc I (kd := 13) (bn := 20) (n := 97) (c := 79) (nx := 14) (by decide +kernel) ?_
      refine zwW_p [(1, 1, 0)] (q := 15) (ls' := [(2, 37), (0, a), (9, 0), (9, 0)]) (st' := [(0, a), (2, 79)]) (by decide +kernel) rfl ?_
      refine zwW_al I (a1 := 79) (a2 := 79) (kd := 20) (n := 20) (t := 0) (lo := 0) (hi := 7) (nx := 16) (by decide +kernel) (by first | decide | exact ⟨by decide, by decide⟩) (by first | omega | exact ⟨by omega, by omega⟩) ?_
      intro v3 ev3 lv3 uv3
      refine zwW_p [(2, 2, 0), (1, 0, 2)] (q := 18) (ls' := [(2, 37), (0, a), (0, v3), (9, 0)]) (st' := [(2, 37)]) (by decide +kernel) rfl ?_
      refine zwW_gc I (kd := 13) (bn := 11) (n := 97) (c := 70) (nx := 21) (by decide +kernel) ?_
      refine zwW_p [(1, 2, 0)] (q := 22) (ls' := [(2, 37), (0, a), (0, v3), (9, 0)]) (st' := [(0, v3), (2, 70)]) (by decide +kernel) rfl ?_
      refine zwW_al I (a1 := 70) (a2 := 70) (kd := 20) (n := 8) (t := 0) (lo := -2147483648) (hi := 2147483647) (nx := 23) (by decide +kernel) (by first | decide | exact ⟨by decide, by decide⟩) (by first | omega | exact ⟨by omega, by omega⟩) ?_
      intro v4 ev4 lv4 uv4
      refine zwW_p [(1, 0, 2)] (q := 24) (ls' := [(2, 37), (0, a), (0, v3), (9, 0)]) (st' := [(2, 37), (0, v4)]) (by decide +kernel) rfl ?_
      refine zwW_gc I (kd := 13) (bn := 12) (n := 97) (c := 71) (nx := 27) (by decide +kernel) ?_
      refine zwW_p [(1, 2, 0)] (q := 28) (ls' := [(2, 37), (0, a), (0, v3), (9, 0)]) (st' := [(0, v3), (2, 71), (0, v4)]) (by decide +kernel) rfl ?_
      refine zwW_al I (a1 := 71) (a2 := 71) (kd := 20) (n := 8) (t := 0) (lo := -2147483648) (hi := 2147483647) (nx := 29) (by decide +kernel) (by first | decide | exact ⟨by decide, by decide⟩) (by first | omega | exact ⟨by omega, by omega⟩) ?_
      intro v5 ev5 lv5 uv5
      refine zwW_p [(1, 0, 2), (1, 2, 0)] (q := 31) (ls' := [(2, 37), (0, a), (0, v3), (9, 0)]) (st' := [(0, v3), (2, 37), (0, v5), (0, v4)]) (by decide +kernel) rfl ?_
      refine zwW_cm I (op := 60) (k' := 155) (n := 1) (kd := 13) (m := 97) (nx := 34) (r := 37) (tl := [(0, v3)]) (st' := [(0, v5), (0, v4)]) (by decide +kernel) rfl (by decide +kernel) rfl (m155 h I v3 (by omega) (by omega) (hW.mr I R (by decide +kernel))) ?_
      rintro v6 h9 ⟨Ih9, Qh9, f7, f8⟩
      have Rh9 : zMR ms62 h h9 := R.tr Qh9 (by decide +kernel)
      refine zwW_adw (nx := 35) (by decide +kernel) ?_
      intro v10 ev10 lv10 uv10
      refine zwW_p [(1, 0, 2)] (q := 36) (ls' := [(2, 37), (0, a), (0, v3), (9, 0)]) (st' := [(2, 37), (0, v10), (0, v4)]) (by decide +kernel) rfl ?_
      refine zwW_gc Ih9 (kd := 13) (bn := 13) (n := 97) (c := 72) (nx := 39) (by decide +kernel) ?_
      refine zwW_p [(1, 2, 0)] (q := 40) (ls' := [(2, 37), (0, a), (0, v3), (9, 0)]) (st' := [(0, v3), (2, 72), (0, v10), (0, v4)]) (by decide +kernel) rfl ?_
      refine zwW_al Ih9 (a1 := 72) (a2 := 72) (kd := 20) (n := 8) (t := 0) (lo := -2147483648) (hi := 2147483647) (nx := 41) (by decide +kernel) (by first | decide | exact ⟨by decide, by decide⟩) (by first | omega | exact ⟨by omega, by omega⟩) ?_
      intro v11 ev11 lv11 uv11
      refine zwW_adw (nx := 42) (by decide +kernel) ?_
      intro v12 ev12 lv12 uv12
      refine zwic_gt (q := 49) (nx := 45) (by decide +kernel) (fun c13 => ?_) (fun c13 => ?_)
      · refine zwW_p [(0, 0, 0), (2, 3, 0), (1, 3, 0)] (q := 52) (ls' := [(2, 37), (0, a), (0, v3), (0, 0)]) (st' := [(0, 0)]) (by decide +kernel) rfl ?_
        refine zwif_eq (q := 65) (nx := 55) (by decide +kernel) (fun c14 => ?_) (fun c14 => ?_)
        · refine zwW_p [(1, 0, 2), (1, 1, 0)] (q := 67) (ls' := [(2, 37), (0, a), (0, v3), (0, 0)]) (st' := [(0, a), (2, 37)]) (by decide +kernel) rfl ?_
          refine zwW_cm Ih9 (op := 60) (k' := 157) (n := 1) (kd := 13) (m := 97) (nx := 70) (r := 37) (tl := [(0, a)]) (st' := []) (by decide +kernel) rfl (by decide +kernel) rfl (m157 h9 Ih9 a (by omega) (by omega) (hW.mr I Rh9 (by decide +kernel))) ?_
          rintro v15 h18 ⟨Ih18, Qh18, f16, f17⟩
          have Rh18 : zMR ms62 h h18 := Rh9.tr Qh18 (by decide +kernel)
          refine zwif_eq (q := 75) (nx := 73) (by decide +kernel) (fun c19 => ?_) (fun c19 => ?_)
          · refine zwW_p [(1, 0, 2), (1, 1, 0)] (q := 77) (ls' := [(2, 37), (0, a), (0, v3), (0, 0)]) (st' := [(0, a), (2, 37)]) (by decide +kernel) rfl ?_
            refine zwW_cm Ih18 (op := 60) (k' := 156) (n := 1) (kd := 13) (m := 97) (nx := 80) (r := 37) (tl := [(0, a)]) (st' := []) (by decide +kernel) rfl (by decide +kernel) rfl (m156 h18 Ih18 a (by omega) (by omega)) ?_
            rintro v20 _ ⟨rfl, f21, f22⟩
            refine zwif_eq (q := 87) (nx := 83) (by decide +kernel) (fun c23 => ?_) (fun c23 => ?_)
            · refine zwW_p [(0, -1, 0)] (q := 88) (ls' := [(2, 37), (0, a), (0, v3), (0, 0)]) (st' := [(0, -1)]) (by decide +kernel) rfl ?_
              refine zwW_ret (nx := 89) (a := 0) (b := 0) (by decide +kernel) rfl (Or.inl rfl) ?_
              exact ⟨Ih18, Rh18, by omega, by omega⟩
            · refine zwW_p [(0, 0, 0), (24, 88, 0)] (q := 88) (ls' := [(2, 37), (0, a), (0, v3), (0, 0)]) (st' := [(0, 0)]) (by decide +kernel) rfl ?_
              refine zwW_ret (nx := 89) (a := 0) (b := 0) (by decide +kernel) rfl (Or.inl rfl) ?_
              exact ⟨Ih18, Rh18, by omega, by omega⟩
          · refine zwW_p [(0, 1, 0)] (q := 74) (ls' := [(2, 37), (0, a), (0, v3), (0, 0)]) (st' := [(0, 1)]) (by decide +kernel) rfl ?_
            refine zwW_ret (nx := 75) (a := 0) (b := 0) (by decide +kernel) rfl (Or.inl rfl) ?_
            exact ⟨Ih18, Rh18, by omega, by omega⟩
        · exfalso; omega
      · refine zwW_p [(0, 1, 0), (24, 50, 0), (2, 3, 0), (1, 3, 0)] (q := 52) (ls' := [(2, 37), (0, a), (0, v3), (0, 1)]) (st' := [(0, 1)]) (by decide +kernel) rfl ?_
        refine zwif_eq (q := 65) (nx := 55) (by decide +kernel) (fun c24 => ?_) (fun c24 => ?_)
        · exfalso; omega
        · refine zwW_p [(1, 0, 2), (1, 1, 0)] (q := 57) (ls' := [(2, 37), (0, a), (0, v3), (0, 1)]) (st' := [(0, a), (2, 37)]) (by decide +kernel) rfl ?_
          refine zwW_cm Ih9 (op := 60) (k' := 156) (n := 1) (kd := 13) (m := 97) (nx := 60) (r := 37) (tl := [(0, a)]) (st' := []) (by decide +kernel) rfl (by decide +kernel) rfl (m156 h9 Ih9 a (by omega) (by omega)) ?_
          rintro v25 _ ⟨rfl, f26, f27⟩
          refine zwif_eq (q := 65) (nx := 63) (by decide +kernel) (fun c28 => ?_) (fun c28 => ?_)
          · refine zwW_p [(1, 0, 2), (1, 1, 0)] (q := 67) (ls' := [(2, 37), (0, a), (0, v3), (0, 1)]) (st' := [(0, a), (2, 37)]) (by decide +kernel) rfl ?_
            refine zwW_cm Ih9 (op := 60) (k' := 157) (n := 1) (kd := 13) (m := 97) (nx := 70) (r := 37) (tl := [(0, a)]) (st' := []) (by decide +kernel) rfl (by decide +kernel) rfl (m157 h9 Ih9 a (by omega) (by omega) (hW.mr I Rh9 (by decide +kernel))) ?_
            rintro v29 h32 ⟨Ih32, Qh32, f30, f31⟩
            have Rh32 : zMR ms62 h h32 := Rh9.tr Qh32 (by decide +kernel)
            refine zwif_eq (q := 75) (nx := 73) (by decide +kernel) (fun c33 => ?_) (fun c33 => ?_)
            · refine zwW_p [(1, 0, 2), (1, 1, 0)] (q := 77) (ls' := [(2, 37), (0, a), (0, v3), (0, 1)]) (st' := [(0, a), (2, 37)]) (by decide +kernel) rfl ?_
              refine zwW_cm Ih32 (op := 60) (k' := 156) (n := 1) (kd := 13) (m := 97) (nx := 80) (r := 37) (tl := [(0, a)]) (st' := []) (by decide +kernel) rfl (by decide +kernel) rfl (m156 h32 Ih32 a (by omega) (by omega)) ?_
              rintro v34 _ ⟨rfl, f35, f36⟩
              refine zwif_eq (q := 87) (nx := 83) (by decide +kernel) (fun c37 => ?_) (fun c37 => ?_)
              · refine zwW_p [(0, -1, 0)] (q := 88) (ls' := [(2, 37), (0, a), (0, v3), (0, 1)]) (st' := [(0, -1)]) (by decide +kernel) rfl ?_
                refine zwW_ret (nx := 89) (a := 0) (b := 0) (by decide +kernel) rfl (Or.inl rfl) ?_
                exact ⟨Ih32, Rh32, by omega, by omega⟩
              · refine zwW_p [(0, 0, 0), (24, 88, 0)] (q := 88) (ls' := [(2, 37), (0, a), (0, v3), (0, 1)]) (st' := [(0, 0)]) (by decide +kernel) rfl ?_
                refine zwW_ret (nx := 89) (a := 0) (b := 0) (by decide +kernel) rfl (Or.inl rfl) ?_
                exact ⟨Ih32, Rh32, by omega, by omega⟩
            · refine zwW_p [(0, 1, 0)] (q := 74) (ls' := [(2, 37), (0, a), (0, v3), (0, 1)]) (st' := [(0, 1)]) (by decide +kernel) rfl ?_
              refine zwW_ret (nx := 75) (a := 0) (b := 0) (by decide +kernel) rfl (Or.inl rfl) ?_
              exact ⟨Ih32, Rh32, by omega, by omega⟩
          · refine zwW_p [(0, 0, 0)] (q := 64) (ls' := [(2, 37), (0, a), (0, v3), (0, 1)]) (st' := [(0, 0)]) (by decide +kernel) rfl ?_
            refine zwW_ret (nx := 65) (a := 0) (b := 0) (by decide +kernel) rfl (Or.inl rfl) ?_
            exact ⟨Ih9, Rh9, by omega, by omega⟩
    · exfalso; omega
  · refine zwif_ne (q := 10) (nx := 8) (by decide +kernel) (fun c38 => ?_) (fun c38 => ?_)
    · exfalso; omega
    · refine zwW_p [(0, -1, 0)] (q := 9) (ls' := [(2, 37), (0, a), (9, 0), (9, 0)]) (st' := [(0, -1)]) (by decide +kernel) rfl ?_
      refine zwW_ret (nx := 10) (a := 0) (b := 0) (by decide +kernel) rfl (Or.inl rfl) ?_
      exact ⟨I, R, by omega, by omega⟩
def ms195 : Zms := [(37, 37, 38, 39), (67, 67, 0, 8), (68, 68, 0, 8), (69, 69, 0, 8), (73, 73, 0, 8), (76, 76, 0, 8), (77, 77, 0, 8), (84, 84, 0, 20), (86, 86, 0, 20), (87, 87, 0, 20), (88, 88, 0, 20), (168, 168, 0, 13), (169, 169, 0, 420)]
-- WheelLandModel.buys(I)V
theorem m195 {sc : List Int} (h : Hp) (I : zI h) (a : Int) (p1 : 0 ≤ a) (p2 : a ≤ 19) (hW : zCW h) : zwC sc 7 195 [(2, 37), (0, a)] h (zwRv (fun g => zI g ∧ zMR ms195 h g)) := by
  refine zwC_of (D := 6) 5 (by decide +kernel) rfl (ls := [(2, 37), (0, a), (9, 0), (9, 0), (9, 0)]) rfl ?_
  have R : zMR ms195 h h := zMR.rf _ _
  refine zwW_p [(1, 0, 2)] (q := 1) (ls' := [(2, 37), (0, a), (9, 0), (9, 0), (9, 0)]) (st' := [(2, 37)]) (by decide +kernel) rfl ?_
  refine zwW_gc I (kd := 13) (bn := 20) (n := 97) (c := 79) (nx := 4) (by decide +kernel) ?_
  refine zwW_p [(1, 1, 0)] (q := 5) (ls' := [(2, 37), (0, a), (9, 0), (9, 0), (9, 0)]) (st' := [(0, a), (2, 79)]) (by decide +kernel) rfl ?_
  refine zwW_al I (a1 := 79) (a2 := 79) (kd := 20) (n := 20) (t := 0) (lo := 0) (hi := 7) (nx := 6) (by decide +kernel) (by first | decide | exact ⟨by decide, by decide⟩) (by first | omega | exact ⟨by omega, by omega⟩) ?_
  intro v1 ev1 lv1 uv1
  refine zwW_p [(2, 2, 0), (1, 0, 2), (1, 1, 0)] (q := 9) (ls' := [(2, 37), (0, a), (0, v1), (9, 0), (9, 0)]) (st' := [(0, a), (2, 37)]) (by decide +kernel) rfl ?_
  refine zwW_cm I (op := 60) (k' := 62) (n := 1) (kd := 13) (m := 97) (nx := 12) (r := 37) (tl := [(0, a)]) (st' := []) (by decide +kernel) rfl (by decide +kernel) rfl (m62 h I a (hW.mr I R (by decide +kernel))) ?_
  rintro v2 h5 ⟨Ih5, Qh5, f3, f4⟩
  have Rh5 : zMR ms195 h h5 := R.tr Qh5 (by decide +kernel)
  refine zwW_p [(2, 3, 0), (1, 3, 0), (0, -1, 0)] (q := 15) (ls' := [(2, 37), (0, a), (0, v1), (0, v2), (9, 0)]) (st' := [(0, -1), (0, v2)]) (by decide +kernel) rfl ?_
  refine zwic_ne (q := 31) (nx := 18) (by decide +kernel) (fun c6 => ?_) (fun c6 => ?_)
  · refine zwW_p [(1, 3, 0)] (q := 32) (ls' := [(2, 37), (0, a), (0, v1), (0, v2), (9, 0)]) (st' := [(0, v2)]) (by decide +kernel) rfl ?_
    refine zwif_ne (q := 120) (nx := 35) (by decide +kernel) (fun c7 => ?_) (fun c7 => ?_)
    · refine zwW_p [(1, 0, 2), (1, 2, 0)] (q := 122) (ls' := [(2, 37), (0, a), (0, v1), (0, v2), (9, 0)]) (st' := [(0, v1), (2, 37)]) (by decide +kernel) rfl ?_
      refine zwW_cm Ih5 (op := 60) (k' := 155) (n := 1) (kd := 13) (m := 97) (nx := 125) (r := 37) (tl := [(0, v1)]) (st' := []) (by decide +kernel) rfl (by decide +kernel) rfl (m155 h5 Ih5 v1 (by omega) (by omega) (hW.mr I Rh5 (by decide +kernel))) ?_
      rintro v8 h11 ⟨Ih11, Qh11, f9, f10⟩
      have Rh11 : zMR ms195 h h11 := Rh5.tr Qh11 (by decide +kernel)
      refine zwW_p [(2, 4, 0), (1, 0, 2)] (q := 128) (ls' := [(2, 37), (0, a), (0, v1), (0, v2), (0, v8)]) (st' := [(2, 37)]) (by decide +kernel) rfl ?_
      refine zwW_gc Ih11 (kd := 13) (bn := 25) (n := 97) (c := 84) (nx := 131) (by decide +kernel) ?_
      refine zwW_p [(1, 1, 0), (14, 0, 0)] (q := 133) (ls' := [(2, 37), (0, a), (0, v1), (0, v2), (0, v8)]) (st' := [(0, a), (2, 84), (0, a), (2, 84)]) (by decide +kernel) rfl ?_
      refine zwW_al Ih11 (a1 := 84) (a2 := 84) (kd := 20) (n := 20) (t := 0) (lo := -2147483648) (hi := 2147483647) (nx := 134) (by decide +kernel) (by first | decide | exact ⟨by decide, by decide⟩) (by first | omega | exact ⟨by omega, by omega⟩) ?_
      intro v12 ev12 lv12 uv12
      refine zwW_p [(1, 0, 2)] (q := 135) (ls' := [(2, 37), (0, a), (0, v1), (0, v2), (0, v8)]) (st' := [(2, 37), (0, v12), (0, a), (2, 84)]) (by decide +kernel) rfl ?_
      refine zwW_gc Ih11 (kd := 13) (bn := 12) (n := 97) (c := 71) (nx := 138) (by decide +kernel) ?_
      refine zwW_p [(1, 2, 0)] (q := 139) (ls' := [(2, 37), (0, a), (0, v1), (0, v2), (0, v8)]) (st' := [(0, v1), (2, 71), (0, v12), (0, a), (2, 84)]) (by decide +kernel) rfl ?_
      refine zwW_al Ih11 (a1 := 71) (a2 := 71) (kd := 20) (n := 8) (t := 0) (lo := -2147483648) (hi := 2147483647) (nx := 140) (by decide +kernel) (by first | decide | exact ⟨by decide, by decide⟩) (by first | omega | exact ⟨by omega, by omega⟩) ?_
      intro v13 ev13 lv13 uv13
      refine zwW_p [(1, 4, 0)] (q := 142) (ls' := [(2, 37), (0, a), (0, v1), (0, v2), (0, v8)]) (st' := [(0, v8), (0, v13), (0, v12), (0, a), (2, 84)]) (by decide +kernel) rfl ?_
      refine zwW_adw (nx := 143) (by decide +kernel) ?_
      intro v14 ev14 lv14 uv14
      refine zwW_sbw (nx := 144) (by decide +kernel) ?_
      intro v15 ev15 lv15 uv15
      refine zwW_as Ih11 (a1 := 84) (a2 := 84) (n := 20) (lo := -2147483648) (hi := 2147483647) (nx := 145) (by decide +kernel) (by first | decide | exact ⟨by decide, by decide⟩) (by first | omega | exact ⟨by omega, by omega⟩) (by first | omega | exact ⟨by omega, by omega⟩) ?_
      intro h16 eh16 Ih16
      have Rh16 : zMR ms195 h h16 := Rh11.w (a1 := 84) (a2 := 84) (j1 := 0) (j2 := 20) (by decide +kernel) (by first | decide | exact ⟨by decide, by decide⟩) (by first | omega | exact ⟨by omega, by omega⟩) eh16
      refine zwW_p [(1, 0, 2)] (q := 146) (ls' := [(2, 37), (0, a), (0, v1), (0, v2), (0, v8)]) (st' := [(2, 37)]) (by decide +kernel) rfl ?_
      refine zwW_gc Ih16 (kd := 13) (bn := 14) (n := 97) (c := 73) (nx := 149) (by decide +kernel) ?_
      refine zwW_p [(1, 2, 0), (14, 0, 0)] (q := 151) (ls' := [(2, 37), (0, a), (0, v1), (0, v2), (0, v8)]) (st' := [(0, v1), (2, 73), (0, v1), (2, 73)]) (by decide +kernel) rfl ?_
      refine zwW_al Ih16 (a1 := 73) (a2 := 73) (kd := 20) (n := 8) (t := 0) (lo := -2147483648) (hi := 2147483647) (nx := 152) (by decide +kernel) (by first | decide | exact ⟨by decide, by decide⟩) (by first | omega | exact ⟨by omega, by omega⟩) ?_
      intro v17 ev17 lv17 uv17
      refine zwW_p [(1, 0, 2)] (q := 153) (ls' := [(2, 37), (0, a), (0, v1), (0, v2), (0, v8)]) (st' := [(2, 37), (0, v17), (0, v1), (2, 73)]) (by decide +kernel) rfl ?_
      refine zwW_gc Ih16 (kd := 13) (bn := 12) (n := 97) (c := 71) (nx := 156) (by decide +kernel) ?_
      refine zwW_p [(1, 2, 0)] (q := 157) (ls' := [(2, 37), (0, a), (0, v1), (0, v2), (0, v8)]) (st' := [(0, v1), (2, 71), (0, v17), (0, v1), (2, 73)]) (by decide +kernel) rfl ?_
      refine zwW_al Ih16 (a1 := 71) (a2 := 71) (kd := 20) (n := 8) (t := 0) (lo := -2147483648) (hi := 2147483647) (nx := 158) (by decide +kernel) (by first | decide | exact ⟨by decide, by decide⟩) (by first | omega | exact ⟨by omega, by omega⟩) ?_
      intro v18 ev18 lv18 uv18
      refine zwW_adw (nx := 159) (by decide +kernel) ?_
      intro v19 ev19 lv19 uv19
      refine zwW_as Ih16 (a1 := 73) (a2 := 73) (n := 8) (lo := -2147483648) (hi := 2147483647) (nx := 160) (by decide +kernel) (by first | decide | exact ⟨by decide, by decide⟩) (by first | omega | exact ⟨by omega, by omega⟩) (by first | omega | exact ⟨by omega, by omega⟩) ?_
      intro h20 eh20 Ih20
      have Rh20 : zMR ms195 h h20 := Rh16.w (a1 := 73) (a2 := 73) (j1 := 0) (j2 := 8) (by decide +kernel) (by first | decide | exact ⟨by decide, by decide⟩) (by first | omega | exact ⟨by omega, by omega⟩) eh20
      refine zwW_p [(1, 0, 2), (12, 0, 0)] (q := 162) (ls' := [(2, 37), (0, a), (0, v1), (0, v2), (0, v8)]) (st' := [(2, 37), (2, 37)]) (by decide +kernel) rfl ?_
      refine zwW_gs Ih20 (kd := 13) (bn := 38) (n := 97) (t := 0) (lo := -2147483648) (hi := 2147483647) (nx := 165) (by decide +kernel) ?_
      intro v21 ev21 lv21 uv21
      refine zwW_p [(1, 4, 0)] (q := 167) (ls' := [(2, 37), (0, a), (0, v1), (0, v2), (0, v8)]) (st' := [(0, v8), (0, v21), (2, 37)]) (by decide +kernel) rfl ?_
      refine zwW_adw (nx := 168) (by decide +kernel) ?_
      intro v22 ev22 lv22 uv22
      refine zwW_ps Ih20 (kd := 13) (bn := 38) (n := 97) (lo := -2147483648) (hi := 2147483647) (nx := 171) (by decide +kernel) (by first | omega | exact ⟨by omega, by omega⟩) ?_
      intro h23 eh23 Ih23
      have Rh23 : zMR ms195 h h23 := Rh20.w (a1 := 37) (a2 := 37) (j1 := 38) (j2 := 39) (by decide +kernel) (by first | decide | exact ⟨by decide, by decide⟩) (by first | decide | exact ⟨by decide, by decide⟩) eh23
      refine zwW_p [(1, 0, 2)] (q := 172) (ls' := [(2, 37), (0, a), (0, v1), (0, v2), (0, v8)]) (st' := [(2, 37)]) (by decide +kernel) rfl ?_
      refine zwW_gc Ih23 (kd := 13) (bn := 29) (n := 97) (c := 88) (nx := 175) (by decide +kernel) ?_
      refine zwW_p [(1, 1, 0), (14, 0, 0)] (q := 177) (ls' := [(2, 37), (0, a), (0, v1), (0, v2), (0, v8)]) (st' := [(0, a), (2, 88), (0, a), (2, 88)]) (by decide +kernel) rfl ?_
      refine zwW_al Ih23 (a1 := 88) (a2 := 88) (kd := 20) (n := 20) (t := 0) (lo := -2147483648) (hi := 2147483647) (nx := 178) (by decide +kernel) (by first | decide | exact ⟨by decide, by decide⟩) (by first | omega | exact ⟨by omega, by omega⟩) ?_
      intro v24 ev24 lv24 uv24
      refine zwW_p [(0, 1, 0)] (q := 179) (ls' := [(2, 37), (0, a), (0, v1), (0, v2), (0, v8)]) (st' := [(0, 1), (0, v24), (0, a), (2, 88)]) (by decide +kernel) rfl ?_
      refine zwW_adw (nx := 180) (by decide +kernel) ?_
      intro v25 ev25 lv25 uv25
      refine zwW_as Ih23 (a1 := 88) (a2 := 88) (n := 20) (lo := -2147483648) (hi := 2147483647) (nx := 181) (by decide +kernel) (by first | decide | exact ⟨by decide, by decide⟩) (by first | omega | exact ⟨by omega, by omega⟩) (by first | omega | exact ⟨by omega, by omega⟩) ?_
      intro h26 eh26 Ih26
      have Rh26 : zMR ms195 h h26 := Rh23.w (a1 := 88) (a2 := 88) (j1 := 0) (j2 := 20) (by decide +kernel) (by first | decide | exact ⟨by decide, by decide⟩) (by first | omega | exact ⟨by omega, by omega⟩) eh26
      refine zwW_p [(1, 0, 2)] (q := 182) (ls' := [(2, 37), (0, a), (0, v1), (0, v2), (0, v8)]) (st' := [(2, 37)]) (by decide +kernel) rfl ?_
      refine zwW_gc Ih26 (kd := 13) (bn := 10) (n := 97) (c := 69) (nx := 185) (by decide +kernel) ?_
      refine zwW_p [(1, 2, 0), (14, 0, 0)] (q := 187) (ls' := [(2, 37), (0, a), (0, v1), (0, v2), (0, v8)]) (st' := [(0, v1), (2, 69), (0, v1), (2, 69)]) (by decide +kernel) rfl ?_
      refine zwW_al Ih26 (a1 := 69) (a2 := 69) (kd := 20) (n := 8) (t := 0) (lo := -2147483648) (hi := 2147483647) (nx := 188) (by decide +kernel) (by first | decide | exact ⟨by decide, by decide⟩) (by first | omega | exact ⟨by omega, by omega⟩) ?_
      intro v27 ev27 lv27 uv27
      refine zwW_p [(0, 1, 0)] (q := 189) (ls' := [(2, 37), (0, a), (0, v1), (0, v2), (0, v8)]) (st' := [(0, 1), (0, v27), (0, v1), (2, 69)]) (by decide +kernel) rfl ?_
      refine zwW_sbw (nx := 190) (by decide +kernel) ?_
      intro v28 ev28 lv28 uv28
      refine zwW_as Ih26 (a1 := 69) (a2 := 69) (n := 8) (lo := -2147483648) (hi := 2147483647) (nx := 191) (by decide +kernel) (by first | decide | exact ⟨by decide, by decide⟩) (by first | omega | exact ⟨by omega, by omega⟩) (by first | omega | exact ⟨by omega, by omega⟩) ?_
      intro h29 eh29 Ih29
      have Rh29 : zMR ms195 h h29 := Rh26.w (a1 := 69) (a2 := 69) (j1 := 0) (j2 := 8) (by decide +kernel) (by first | decide | exact ⟨by decide, by decide⟩) (by first | omega | exact ⟨by omega, by omega⟩) eh29
      refine zwW_p [(1, 0, 2)] (q := 192) (ls' := [(2, 37), (0, a), (0, v1), (0, v2), (0, v8)]) (st' := [(2, 37)]) (by decide +kernel) rfl ?_
      refine zwW_gc Ih29 (kd := 13) (bn := 18) (n := 97) (c := 77) (nx := 195) (by decide +kernel) ?_
      refine zwW_p [(1, 2, 0), (14, 0, 0)] (q := 197) (ls' := [(2, 37), (0, a), (0, v1), (0, v2), (0, v8)]) (st' := [(0, v1), (2, 77), (0, v1), (2, 77)]) (by decide +kernel) rfl ?_
      refine zwW_al Ih29 (a1 := 77) (a2 := 77) (kd := 20) (n := 8) (t := 0) (lo := -2147483648) (hi := 2147483647) (nx := 198) (by decide +kernel) (by first | decide | exact ⟨by decide, by decide⟩) (by first | omega | exact ⟨by omega, by omega⟩) ?_
      intro v30 ev30 lv30 uv30
      refine zwW_p [(0, 1, 0)] (q := 199) (ls' := [(2, 37), (0, a), (0, v1), (0, v2), (0, v8)]) (st' := [(0, 1), (0, v30), (0, v1), (2, 77)]) (by decide +kernel) rfl ?_
      refine zwW_adw (nx := 200) (by decide +kernel) ?_
      intro v31 ev31 lv31 uv31
      refine zwW_as Ih29 (a1 := 77) (a2 := 77) (n := 8) (lo := -2147483648) (hi := 2147483647) (nx := 201) (by decide +kernel) (by first | decide | exact ⟨by decide, by decide⟩) (by first | omega | exact ⟨by omega, by omega⟩) (by first | omega | exact ⟨by omega, by omega⟩) ?_
      intro h32 eh32 Ih32
      have Rh32 : zMR ms195 h h32 := Rh29.w (a1 := 77) (a2 := 77) (j1 := 0) (j2 := 8) (by decide +kernel) (by first | decide | exact ⟨by decide, by decide⟩) (by first | omega | exact ⟨by omega, by omega⟩) eh32
      refine zwW_retv (nx := 202) (a := 0) (b := 0) (by decide +kernel) ?_
      exact ⟨Ih32, Rh32⟩
    · refine zwW_p [(1, 0, 2)] (q := 36) (ls' := [(2, 37), (0, a), (0, v1), (0, v2), (9, 0)]) (st' := [(2, 37)]) (by decide +kernel) rfl ?_
      refine zwW_gc Ih5 (kd := 13) (bn := 25) (n := 97) (c := 84) (nx := 39) (by decide +kernel) ?_
      refine zwW_p [(1, 1, 0), (14, 0, 0)] (q := 41) (ls' := [(2, 37), (0, a), (0, v1), (0, v2), (9, 0)]) (st' := [(0, a), (2, 84), (0, a), (2, 84)]) (by decide +kernel) rfl ?_
      refine zwW_al Ih5 (a1 := 84) (a2 := 84) (kd := 20) (n := 20) (t := 0) (lo := -2147483648) (hi := 2147483647) (nx := 42) (by decide +kernel) (by first | decide | exact ⟨by decide, by decide⟩) (by first | omega | exact ⟨by omega, by omega⟩) ?_
      intro v33 ev33 lv33 uv33
      refine zwW_p [(1, 0, 2)] (q := 43) (ls' := [(2, 37), (0, a), (0, v1), (0, v2), (9, 0)]) (st' := [(2, 37), (0, v33), (0, a), (2, 84)]) (by decide +kernel) rfl ?_
      refine zwW_gc Ih5 (kd := 13) (bn := 11) (n := 97) (c := 70) (nx := 46) (by decide +kernel) ?_
      refine zwW_p [(1, 2, 0)] (q := 47) (ls' := [(2, 37), (0, a), (0, v1), (0, v2), (9, 0)]) (st' := [(0, v1), (2, 70), (0, v33), (0, a), (2, 84)]) (by decide +kernel) rfl ?_
      refine zwW_al Ih5 (a1 := 70) (a2 := 70) (kd := 20) (n := 8) (t := 0) (lo := -2147483648) (hi := 2147483647) (nx := 48) (by decide +kernel) (by first | decide | exact ⟨by decide, by decide⟩) (by first | omega | exact ⟨by omega, by omega⟩) ?_
      intro v34 ev34 lv34 uv34
      refine zwW_sbw (nx := 49) (by decide +kernel) ?_
      intro v35 ev35 lv35 uv35
      refine zwW_as Ih5 (a1 := 84) (a2 := 84) (n := 20) (lo := -2147483648) (hi := 2147483647) (nx := 50) (by decide +kernel) (by first | decide | exact ⟨by decide, by decide⟩) (by first | omega | exact ⟨by omega, by omega⟩) (by first | omega | exact ⟨by omega, by omega⟩) ?_
      intro h36 eh36 Ih36
      have Rh36 : zMR ms195 h h36 := Rh5.w (a1 := 84) (a2 := 84) (j1 := 0) (j2 := 20) (by decide +kernel) (by first | decide | exact ⟨by decide, by decide⟩) (by first | omega | exact ⟨by omega, by omega⟩) eh36
      refine zwW_p [(1, 0, 2)] (q := 51) (ls' := [(2, 37), (0, a), (0, v1), (0, v2), (9, 0)]) (st' := [(2, 37)]) (by decide +kernel) rfl ?_
      refine zwW_gc Ih36 (kd := 13) (bn := 14) (n := 97) (c := 73) (nx := 54) (by decide +kernel) ?_
      refine zwW_p [(1, 2, 0), (14, 0, 0)] (q := 56) (ls' := [(2, 37), (0, a), (0, v1), (0, v2), (9, 0)]) (st' := [(0, v1), (2, 73), (0, v1), (2, 73)]) (by decide +kernel) rfl ?_
      refine zwW_al Ih36 (a1 := 73) (a2 := 73) (kd := 20) (n := 8) (t := 0) (lo := -2147483648) (hi := 2147483647) (nx := 57) (by decide +kernel) (by first | decide | exact ⟨by decide, by decide⟩) (by first | omega | exact ⟨by omega, by omega⟩) ?_
      intro v37 ev37 lv37 uv37
      refine zwW_p [(1, 0, 2)] (q := 58) (ls' := [(2, 37), (0, a), (0, v1), (0, v2), (9, 0)]) (st' := [(2, 37), (0, v37), (0, v1), (2, 73)]) (by decide +kernel) rfl ?_
      refine zwW_gc Ih36 (kd := 13) (bn := 11) (n := 97) (c := 70) (nx := 61) (by decide +kernel) ?_
      refine zwW_p [(1, 2, 0)] (q := 62) (ls' := [(2, 37), (0, a), (0, v1), (0, v2), (9, 0)]) (st' := [(0, v1), (2, 70), (0, v37), (0, v1), (2, 73)]) (by decide +kernel) rfl ?_
      refine zwW_al Ih36 (a1 := 70) (a2 := 70) (kd := 20) (n := 8) (t := 0) (lo := -2147483648) (hi := 2147483647) (nx := 63) (by decide +kernel) (by first | decide | exact ⟨by decide, by decide⟩) (by first | omega | exact ⟨by omega, by omega⟩) ?_
      intro v38 ev38 lv38 uv38
      refine zwW_adw (nx := 64) (by decide +kernel) ?_
      intro v39 ev39 lv39 uv39
      refine zwW_as Ih36 (a1 := 73) (a2 := 73) (n := 8) (lo := -2147483648) (hi := 2147483647) (nx := 65) (by decide +kernel) (by first | decide | exact ⟨by decide, by decide⟩) (by first | omega | exact ⟨by omega, by omega⟩) (by first | omega | exact ⟨by omega, by omega⟩) ?_
      intro h40 eh40 Ih40
      have Rh40 : zMR ms195 h h40 := Rh36.w (a1 := 73) (a2 := 73) (j1 := 0) (j2 := 8) (by decide +kernel) (by first | decide | exact ⟨by decide, by decide⟩) (by first | omega | exact ⟨by omega, by omega⟩) eh40
      refine zwW_p [(1, 0, 2)] (q := 66) (ls' := [(2, 37), (0, a), (0, v1), (0, v2), (9, 0)]) (st' := [(2, 37)]) (by decide +kernel) rfl ?_
      refine zwW_gc Ih40 (kd := 13) (bn := 28) (n := 97) (c := 87) (nx := 69) (by decide +kernel) ?_
      refine zwW_p [(1, 1, 0), (14, 0, 0)] (q := 71) (ls' := [(2, 37), (0, a), (0, v1), (0, v2), (9, 0)]) (st' := [(0, a), (2, 87), (0, a), (2, 87)]) (by decide +kernel) rfl ?_
      refine zwW_al Ih40 (a1 := 87) (a2 := 87) (kd := 20) (n := 20) (t := 0) (lo := -2147483648) (hi := 2147483647) (nx := 72) (by decide +kernel) (by first | decide | exact ⟨by decide, by decide⟩) (by first | omega | exact ⟨by omega, by omega⟩) ?_
      intro v41 ev41 lv41 uv41
      refine zwW_p [(0, 1, 0)] (q := 73) (ls' := [(2, 37), (0, a), (0, v1), (0, v2), (9, 0)]) (st' := [(0, 1), (0, v41), (0, a), (2, 87)]) (by decide +kernel) rfl ?_
      refine zwW_adw (nx := 74) (by decide +kernel) ?_
      intro v42 ev42 lv42 uv42
      refine zwW_as Ih40 (a1 := 87) (a2 := 87) (n := 20) (lo := -2147483648) (hi := 2147483647) (nx := 75) (by decide +kernel) (by first | decide | exact ⟨by decide, by decide⟩) (by first | omega | exact ⟨by omega, by omega⟩) (by first | omega | exact ⟨by omega, by omega⟩) ?_
      intro h43 eh43 Ih43
      have Rh43 : zMR ms195 h h43 := Rh40.w (a1 := 87) (a2 := 87) (j1 := 0) (j2 := 20) (by decide +kernel) (by first | decide | exact ⟨by decide, by decide⟩) (by first | omega | exact ⟨by omega, by omega⟩) eh43
      refine zwW_p [(1, 0, 2)] (q := 76) (ls' := [(2, 37), (0, a), (0, v1), (0, v2), (9, 0)]) (st' := [(2, 37)]) (by decide +kernel) rfl ?_
      refine zwW_gc Ih43 (kd := 13) (bn := 8) (n := 97) (c := 67) (nx := 79) (by decide +kernel) ?_
      refine zwW_p [(1, 2, 0)] (q := 80) (ls' := [(2, 37), (0, a), (0, v1), (0, v2), (9, 0)]) (st' := [(0, v1), (2, 67)]) (by decide +kernel) rfl ?_
      refine zwW_al Ih43 (a1 := 67) (a2 := 67) (kd := 20) (n := 8) (t := 0) (lo := -2147483648) (hi := 2147483647) (nx := 81) (by decide +kernel) (by first | decide | exact ⟨by decide, by decide⟩) (by first | omega | exact ⟨by omega, by omega⟩) ?_
      intro v44 ev44 lv44 uv44
      refine zwif_le (q := 107) (nx := 84) (by decide +kernel) (fun c45 => ?_) (fun c45 => ?_)
      · refine zwW_p [(1, 0, 2)] (q := 108) (ls' := [(2, 37), (0, a), (0, v1), (0, v2), (9, 0)]) (st' := [(2, 37)]) (by decide +kernel) rfl ?_
        refine zwW_gc Ih43 (kd := 13) (bn := 9) (n := 97) (c := 68) (nx := 111) (by decide +kernel) ?_
        refine zwW_p [(1, 2, 0), (14, 0, 0)] (q := 113) (ls' := [(2, 37), (0, a), (0, v1), (0, v2), (9, 0)]) (st' := [(0, v1), (2, 68), (0, v1), (2, 68)]) (by decide +kernel) rfl ?_
        refine zwW_al Ih43 (a1 := 68) (a2 := 68) (kd := 20) (n := 8) (t := 0) (lo := -2147483648) (hi := 2147483647) (nx := 114) (by decide +kernel) (by first | decide | exact ⟨by decide, by decide⟩) (by first | omega | exact ⟨by omega, by omega⟩) ?_
        intro v46 ev46 lv46 uv46
        refine zwW_p [(0, 1, 0)] (q := 115) (ls' := [(2, 37), (0, a), (0, v1), (0, v2), (9, 0)]) (st' := [(0, 1), (0, v46), (0, v1), (2, 68)]) (by decide +kernel) rfl ?_
        refine zwW_sbw (nx := 116) (by decide +kernel) ?_
        intro v47 ev47 lv47 uv47
        refine zwW_as Ih43 (a1 := 68) (a2 := 68) (n := 8) (lo := -2147483648) (hi := 2147483647) (nx := 117) (by decide +kernel) (by first | decide | exact ⟨by decide, by decide⟩) (by first | omega | exact ⟨by omega, by omega⟩) (by first | omega | exact ⟨by omega, by omega⟩) ?_
        intro h48 eh48 Ih48
        have Rh48 : zMR ms195 h h48 := Rh43.w (a1 := 68) (a2 := 68) (j1 := 0) (j2 := 8) (by decide +kernel) (by first | decide | exact ⟨by decide, by decide⟩) (by first | omega | exact ⟨by omega, by omega⟩) eh48
        refine zwW_p [(24, 201, 0)] (q := 201) (ls' := [(2, 37), (0, a), (0, v1), (0, v2), (9, 0)]) (st' := []) (by decide +kernel) rfl ?_
        refine zwW_retv (nx := 202) (a := 0) (b := 0) (by decide +kernel) ?_
        exact ⟨Ih48, Rh48⟩
      · refine zwW_p [(1, 0, 2)] (q := 85) (ls' := [(2, 37), (0, a), (0, v1), (0, v2), (9, 0)]) (st' := [(2, 37)]) (by decide +kernel) rfl ?_
        refine zwW_gc Ih43 (kd := 13) (bn := 8) (n := 97) (c := 67) (nx := 88) (by decide +kernel) ?_
        refine zwW_p [(1, 2, 0), (14, 0, 0)] (q := 90) (ls' := [(2, 37), (0, a), (0, v1), (0, v2), (9, 0)]) (st' := [(0, v1), (2, 67), (0, v1), (2, 67)]) (by decide +kernel) rfl ?_
        refine zwW_al Ih43 (a1 := 67) (a2 := 67) (kd := 20) (n := 8) (t := 0) (lo := -2147483648) (hi := 2147483647) (nx := 91) (by decide +kernel) (by first | decide | exact ⟨by decide, by decide⟩) (by first | omega | exact ⟨by omega, by omega⟩) ?_
        intro v49 ev49 lv49 uv49
        refine zwW_p [(0, 1, 0)] (q := 92) (ls' := [(2, 37), (0, a), (0, v1), (0, v2), (9, 0)]) (st' := [(0, 1), (0, v49), (0, v1), (2, 67)]) (by decide +kernel) rfl ?_
        refine zwW_sbw (nx := 93) (by decide +kernel) ?_
        intro v50 ev50 lv50 uv50
        refine zwW_as Ih43 (a1 := 67) (a2 := 67) (n := 8) (lo := -2147483648) (hi := 2147483647) (nx := 94) (by decide +kernel) (by first | decide | exact ⟨by decide, by decide⟩) (by first | omega | exact ⟨by omega, by omega⟩) (by first | omega | exact ⟨by omega, by omega⟩) ?_
        intro h51 eh51 Ih51
        have Rh51 : zMR ms195 h h51 := Rh43.w (a1 := 67) (a2 := 67) (j1 := 0) (j2 := 8) (by decide +kernel) (by first | decide | exact ⟨by decide, by decide⟩) (by first | omega | exact ⟨by omega, by omega⟩) eh51
        refine zwW_p [(1, 0, 2)] (q := 95) (ls' := [(2, 37), (0, a), (0, v1), (0, v2), (9, 0)]) (st' := [(2, 37)]) (by decide +kernel) rfl ?_
        refine zwW_gc Ih51 (kd := 13) (bn := 17) (n := 97) (c := 76) (nx := 98) (by decide +kernel) ?_
        refine zwW_p [(1, 2, 0), (14, 0, 0)] (q := 100) (ls' := [(2, 37), (0, a), (0, v1), (0, v2), (9, 0)]) (st' := [(0, v1), (2, 76), (0, v1), (2, 76)]) (by decide +kernel) rfl ?_
        refine zwW_al Ih51 (a1 := 76) (a2 := 76) (kd := 20) (n := 8) (t := 0) (lo := -2147483648) (hi := 2147483647) (nx := 101) (by decide +kernel) (by first | decide | exact ⟨by decide, by decide⟩) (by first | omega | exact ⟨by omega, by omega⟩) ?_
        intro v52 ev52 lv52 uv52
        refine zwW_p [(0, 1, 0)] (q := 102) (ls' := [(2, 37), (0, a), (0, v1), (0, v2), (9, 0)]) (st' := [(0, 1), (0, v52), (0, v1), (2, 76)]) (by decide +kernel) rfl ?_
        refine zwW_adw (nx := 103) (by decide +kernel) ?_
        intro v53 ev53 lv53 uv53
        refine zwW_as Ih51 (a1 := 76) (a2 := 76) (n := 8) (lo := -2147483648) (hi := 2147483647) (nx := 104) (by decide +kernel) (by first | decide | exact ⟨by decide, by decide⟩) (by first | omega | exact ⟨by omega, by omega⟩) (by first | omega | exact ⟨by omega, by omega⟩) ?_
        intro h54 eh54 Ih54
        have Rh54 : zMR ms195 h h54 := Rh51.w (a1 := 76) (a2 := 76) (j1 := 0) (j2 := 8) (by decide +kernel) (by first | decide | exact ⟨by decide, by decide⟩) (by first | omega | exact ⟨by omega, by omega⟩) eh54
        refine zwW_p [(24, 201, 0)] (q := 201) (ls' := [(2, 37), (0, a), (0, v1), (0, v2), (9, 0)]) (st' := []) (by decide +kernel) rfl ?_
        refine zwW_retv (nx := 202) (a := 0) (b := 0) (by decide +kernel) ?_
        exact ⟨Ih54, Rh54⟩
  · refine zwW_p [(1, 0, 2)] (q := 19) (ls' := [(2, 37), (0, a), (0, v1), (0, v2), (9, 0)]) (st' := [(2, 37)]) (by decide +kernel) rfl ?_
    refine zwW_gc Ih5 (kd := 13) (bn := 27) (n := 97) (c := 86) (nx := 22) (by decide +kernel) ?_
    refine zwW_p [(1, 1, 0), (14, 0, 0)] (q := 24) (ls' := [(2, 37), (0, a), (0, v1), (0, v2), (9, 0)]) (st' := [(0, a), (2, 86), (0, a), (2, 86)]) (by decide +kernel) rfl ?_
    refine zwW_al Ih5 (a1 := 86) (a2 := 86) (kd := 20) (n := 20) (t := 0) (lo := -2147483648) (hi := 2147483647) (nx := 25) (by decide +kernel) (by first | decide | exact ⟨by decide, by decide⟩) (by first | omega | exact ⟨by omega, by omega⟩) ?_
    intro v55 ev55 lv55 uv55
    refine zwW_p [(0, 1, 0)] (q := 26) (ls' := [(2, 37), (0, a), (0, v1), (0, v2), (9, 0)]) (st' := [(0, 1), (0, v55), (0, a), (2, 86)]) (by decide +kernel) rfl ?_
    refine zwW_adw (nx := 27) (by decide +kernel) ?_
    intro v56 ev56 lv56 uv56
    refine zwW_as Ih5 (a1 := 86) (a2 := 86) (n := 20) (lo := -2147483648) (hi := 2147483647) (nx := 28) (by decide +kernel) (by first | decide | exact ⟨by decide, by decide⟩) (by first | omega | exact ⟨by omega, by omega⟩) (by first | omega | exact ⟨by omega, by omega⟩) ?_
    intro h57 eh57 Ih57
    have Rh57 : zMR ms195 h h57 := Rh5.w (a1 := 86) (a2 := 86) (j1 := 0) (j2 := 20) (by decide +kernel) (by first | decide | exact ⟨by decide, by decide⟩) (by first | omega | exact ⟨by omega, by omega⟩) eh57
    refine zwW_p [(24, 201, 0)] (q := 201) (ls' := [(2, 37), (0, a), (0, v1), (0, v2), (9, 0)]) (st' := []) (by decide +kernel) rfl ?_
    refine zwW_retv (nx := 202) (a := 0) (b := 0) (by decide +kernel) ?_
    exact ⟨Ih57, Rh57⟩
def ms196 : Zms := [(71, 71, 0, 8), (77, 77, 0, 8), (78, 78, 0, 8), (93, 93, 0, 20), (168, 168, 0, 13), (169, 169, 0, 420)]
-- WheelLandModel.seasons()V
theorem m196 {sc : List Int} (h : Hp) (I : zI h) (hW : zCW h) : zwC sc 4 196 [(2, 37)] h (zwRv (fun g => zI g ∧ zMR ms196 h g)) := by
  refine zwC_of (D := 3) 2 (by decide +kernel) rfl (ls := [(2, 37), (9, 0)]) rfl ?_
  have R : zMR ms196 h h := zMR.rf _ _
  refine zwW_p [(0, 0, 0), (2, 1, 0)] (q := 2) (ls' := [(2, 37), (0, 0)]) (st' := []) (by decide +kernel) rfl ?_
  have L1 : ∀ (n : Nat) (qL1 : Int) (hL1 : Hp), n = ((100 - qL1)).toNat → (0 ≤ qL1 ∧ qL1 ≤ 20) → zI hL1 → zMR ms196 h hL1 → zwW sc (3) 196 2 [(2, 37), (0, qL1)] [] hL1 (zwRv (fun g => zI g ∧ zMR ms196 h g)) := by
    intro n
    induction n using Nat.strongRecOn with
    | ind n IHL1 =>
      intro qL1 hL1 hnL1 iL1_0 IhL1 RhL1
      refine zwW_p [(1, 1, 0), (1, 0, 2)] (q := 4) (ls' := [(2, 37), (0, qL1)]) (st' := [(2, 37), (0, qL1)]) (by decide +kernel) rfl ?_
      refine zwW_gs IhL1 (kd := 13) (bn := 2) (n := 97) (t := 0) (lo := 0) (hi := 20) (nx := 7) (by decide +kernel) ?_
      intro v2 ev2 lv2 uv2
      refine zwic_ge (q := 51) (nx := 10) (by decide +kernel) (fun c3 => ?_) (fun c3 => ?_)
      · refine zwW_p [(0, 0, 0), (2, 1, 0)] (q := 53) (ls' := [(2, 37), (0, 0)]) (st' := []) (by decide +kernel) rfl ?_
        have L4 : ∀ (n : Nat) (vL4 : Int) (hL4 : Hp), n = ((100 - vL4)).toNat → (0 ≤ vL4 ∧ vL4 ≤ 8) → zI hL4 → zMR ms196 h hL4 → zwW sc (3) 196 53 [(2, 37), (0, vL4)] [] hL4 (zwRv (fun g => zI g ∧ zMR ms196 h g)) := by
          intro n
          induction n using Nat.strongRecOn with
          | ind n IHL4 =>
            intro vL4 hL4 hnL4 iL4_0 IhL4 RhL4
            refine zwW_p [(1, 1, 0), (1, 0, 2)] (q := 55) (ls' := [(2, 37), (0, vL4)]) (st' := [(2, 37), (0, vL4)]) (by decide +kernel) rfl ?_
            refine zwW_gs IhL4 (kd := 13) (bn := 1) (n := 97) (t := 0) (lo := 0) (hi := 8) (nx := 58) (by decide +kernel) ?_
            intro v5 ev5 lv5 uv5
            refine zwic_ge (q := 162) (nx := 61) (by decide +kernel) (fun c6 => ?_) (fun c6 => ?_)
            · refine zwW_retv (nx := 163) (a := 0) (b := 0) (by decide +kernel) ?_
              exact ⟨IhL4, RhL4⟩
            · refine zwW_p [(1, 0, 2)] (q := 62) (ls' := [(2, 37), (0, vL4)]) (st' := [(2, 37)]) (by decide +kernel) rfl ?_
              refine zwW_gc IhL4 (kd := 13) (bn := 18) (n := 97) (c := 77) (nx := 65) (by decide +kernel) ?_
              refine zwW_p [(1, 1, 0)] (q := 66) (ls' := [(2, 37), (0, vL4)]) (st' := [(0, vL4), (2, 77)]) (by decide +kernel) rfl ?_
              refine zwW_al IhL4 (a1 := 77) (a2 := 77) (kd := 20) (n := 8) (t := 0) (lo := -2147483648) (hi := 2147483647) (nx := 67) (by decide +kernel) (by first | decide | exact ⟨by decide, by decide⟩) (by first | omega | exact ⟨by omega, by omega⟩) ?_
              intro v7 ev7 lv7 uv7
              refine zwW_p [(1, 0, 2)] (q := 68) (ls' := [(2, 37), (0, vL4)]) (st' := [(2, 37), (0, v7)]) (by decide +kernel) rfl ?_
              refine zwW_gc IhL4 (kd := 13) (bn := 19) (n := 97) (c := 78) (nx := 71) (by decide +kernel) ?_
              refine zwW_p [(1, 1, 0)] (q := 72) (ls' := [(2, 37), (0, vL4)]) (st' := [(0, vL4), (2, 78), (0, v7)]) (by decide +kernel) rfl ?_
              refine zwW_al IhL4 (a1 := 78) (a2 := 78) (kd := 20) (n := 8) (t := 0) (lo := -2147483648) (hi := 2147483647) (nx := 73) (by decide +kernel) (by first | decide | exact ⟨by decide, by decide⟩) (by first | omega | exact ⟨by omega, by omega⟩) ?_
              intro v8 ev8 lv8 uv8
              refine zwic_ge (q := 107) (nx := 76) (by decide +kernel) (fun c9 => ?_) (fun c9 => ?_)
              · refine zwW_p [(1, 0, 2)] (q := 108) (ls' := [(2, 37), (0, vL4)]) (st' := [(2, 37)]) (by decide +kernel) rfl ?_
                refine zwW_gc IhL4 (kd := 13) (bn := 12) (n := 97) (c := 71) (nx := 111) (by decide +kernel) ?_
                refine zwW_p [(1, 1, 0), (1, 0, 2)] (q := 113) (ls' := [(2, 37), (0, vL4)]) (st' := [(2, 37), (0, vL4), (2, 71)]) (by decide +kernel) rfl ?_
                refine zwW_gc IhL4 (kd := 13) (bn := 12) (n := 97) (c := 71) (nx := 116) (by decide +kernel) ?_
                refine zwW_p [(1, 1, 0)] (q := 117) (ls' := [(2, 37), (0, vL4)]) (st' := [(0, vL4), (2, 71), (0, vL4), (2, 71)]) (by decide +kernel) rfl ?_
                refine zwW_al IhL4 (a1 := 71) (a2 := 71) (kd := 20) (n := 8) (t := 0) (lo := -2147483648) (hi := 2147483647) (nx := 118) (by decide +kernel) (by first | decide | exact ⟨by decide, by decide⟩) (by first | omega | exact ⟨by omega, by omega⟩) ?_
                intro v10 ev10 lv10 uv10
                refine zwW_p [(0, 99, 0)] (q := 120) (ls' := [(2, 37), (0, vL4)]) (st' := [(0, 99), (0, v10), (0, vL4), (2, 71)]) (by decide +kernel) rfl ?_
                refine zwic_ge (q := 134) (nx := 123) (by decide +kernel) (fun c11 => ?_) (fun c11 => ?_)
                · refine zwW_p [(0, 99, 0)] (q := 136) (ls' := [(2, 37), (0, vL4)]) (st' := [(0, 99), (0, vL4), (2, 71)]) (by decide +kernel) rfl ?_
                  refine zwW_as IhL4 (a1 := 71) (a2 := 71) (n := 8) (lo := -2147483648) (hi := 2147483647) (nx := 137) (by decide +kernel) (by first | decide | exact ⟨by decide, by decide⟩) (by first | omega | exact ⟨by omega, by omega⟩) (by first | decide | exact ⟨by decide, by decide⟩) ?_
                  intro h12 eh12 Ih12
                  have Rh12 : zMR ms196 h h12 := RhL4.w (a1 := 71) (a2 := 71) (j1 := 0) (j2 := 8) (by decide +kernel) (by first | decide | exact ⟨by decide, by decide⟩) (by first | omega | exact ⟨by omega, by omega⟩) eh12
                  refine zwW_p [(1, 0, 2)] (q := 138) (ls' := [(2, 37), (0, vL4)]) (st' := [(2, 37)]) (by decide +kernel) rfl ?_
                  refine zwW_gc Ih12 (kd := 13) (bn := 19) (n := 97) (c := 78) (nx := 141) (by decide +kernel) ?_
                  refine zwW_p [(1, 1, 0), (1, 0, 2)] (q := 143) (ls' := [(2, 37), (0, vL4)]) (st' := [(2, 37), (0, vL4), (2, 78)]) (by decide +kernel) rfl ?_
                  refine zwW_gc Ih12 (kd := 13) (bn := 18) (n := 97) (c := 77) (nx := 146) (by decide +kernel) ?_
                  refine zwW_p [(1, 1, 0)] (q := 147) (ls' := [(2, 37), (0, vL4)]) (st' := [(0, vL4), (2, 77), (0, vL4), (2, 78)]) (by decide +kernel) rfl ?_
                  refine zwW_al Ih12 (a1 := 77) (a2 := 77) (kd := 20) (n := 8) (t := 0) (lo := -2147483648) (hi := 2147483647) (nx := 148) (by decide +kernel) (by first | decide | exact ⟨by decide, by decide⟩) (by first | omega | exact ⟨by omega, by omega⟩) ?_
                  intro v13 ev13 lv13 uv13
                  refine zwW_as Ih12 (a1 := 78) (a2 := 78) (n := 8) (lo := -2147483648) (hi := 2147483647) (nx := 149) (by decide +kernel) (by first | decide | exact ⟨by decide, by decide⟩) (by first | omega | exact ⟨by omega, by omega⟩) (by first | omega | exact ⟨by omega, by omega⟩) ?_
                  intro h14 eh14 Ih14
                  have Rh14 : zMR ms196 h h14 := Rh12.w (a1 := 78) (a2 := 78) (j1 := 0) (j2 := 8) (by decide +kernel) (by first | decide | exact ⟨by decide, by decide⟩) (by first | omega | exact ⟨by omega, by omega⟩) eh14
                  refine zwW_p [(1, 0, 2)] (q := 150) (ls' := [(2, 37), (0, vL4)]) (st' := [(2, 37)]) (by decide +kernel) rfl ?_
                  refine zwW_gc Ih14 (kd := 13) (bn := 18) (n := 97) (c := 77) (nx := 153) (by decide +kernel) ?_
                  refine zwW_p [(1, 1, 0), (0, 0, 0)] (q := 155) (ls' := [(2, 37), (0, vL4)]) (st' := [(0, 0), (0, vL4), (2, 77)]) (by decide +kernel) rfl ?_
                  refine zwW_as Ih14 (a1 := 77) (a2 := 77) (n := 8) (lo := -2147483648) (hi := 2147483647) (nx := 156) (by decide +kernel) (by first | decide | exact ⟨by decide, by decide⟩) (by first | omega | exact ⟨by omega, by omega⟩) (by first | decide | exact ⟨by decide, by decide⟩) ?_
                  intro h15 eh15 Ih15
                  have Rh15 : zMR ms196 h h15 := Rh14.w (a1 := 77) (a2 := 77) (j1 := 0) (j2 := 8) (by decide +kernel) (by first | decide | exact ⟨by decide, by decide⟩) (by first | omega | exact ⟨by omega, by omega⟩) eh15
                  refine zwW_inc (i := 1) (c := 1) (x := vL4) (nx := 159) (by decide +kernel) rfl (by first | omega | exact ⟨by omega, by omega⟩) (ls' := [(2, 37), (0, (vL4 + 1))]) rfl ?_
                  refine zwW_p [(24, 53, 0)] (q := 53) (ls' := [(2, 37), (0, (vL4 + 1))]) (st' := []) (by decide +kernel) rfl ?_
                  exact IHL4 ((100 - (vL4 + 1))).toNat (by omega) (vL4 + 1) h15 rfl (by omega) Ih15 Rh15
                · refine zwW_p [(1, 0, 2)] (q := 124) (ls' := [(2, 37), (0, vL4)]) (st' := [(2, 37), (0, vL4), (2, 71)]) (by decide +kernel) rfl ?_
                  refine zwW_gc IhL4 (kd := 13) (bn := 12) (n := 97) (c := 71) (nx := 127) (by decide +kernel) ?_
                  refine zwW_p [(1, 1, 0)] (q := 128) (ls' := [(2, 37), (0, vL4)]) (st' := [(0, vL4), (2, 71), (0, vL4), (2, 71)]) (by decide +kernel) rfl ?_
                  refine zwW_al IhL4 (a1 := 71) (a2 := 71) (kd := 20) (n := 8) (t := 0) (lo := -2147483648) (hi := 2147483647) (nx := 129) (by decide +kernel) (by first | decide | exact ⟨by decide, by decide⟩) (by first | omega | exact ⟨by omega, by omega⟩) ?_
                  intro v16 ev16 lv16 uv16
                  refine zwW_p [(0, 1, 0)] (q := 130) (ls' := [(2, 37), (0, vL4)]) (st' := [(0, 1), (0, v16), (0, vL4), (2, 71)]) (by decide +kernel) rfl ?_
                  refine zwW_adw (nx := 131) (by decide +kernel) ?_
                  intro v17 ev17 lv17 uv17
                  refine zwW_p [(24, 136, 0)] (q := 136) (ls' := [(2, 37), (0, vL4)]) (st' := [(0, v17), (0, vL4), (2, 71)]) (by decide +kernel) rfl ?_
                  refine zwW_as IhL4 (a1 := 71) (a2 := 71) (n := 8) (lo := -2147483648) (hi := 2147483647) (nx := 137) (by decide +kernel) (by first | decide | exact ⟨by decide, by decide⟩) (by first | omega | exact ⟨by omega, by omega⟩) (by first | omega | exact ⟨by omega, by omega⟩) ?_
                  intro h18 eh18 Ih18
                  have Rh18 : zMR ms196 h h18 := RhL4.w (a1 := 71) (a2 := 71) (j1 := 0) (j2 := 8) (by decide +kernel) (by first | decide | exact ⟨by decide, by decide⟩) (by first | omega | exact ⟨by omega, by omega⟩) eh18
                  refine zwW_p [(1, 0, 2)] (q := 138) (ls' := [(2, 37), (0, vL4)]) (st' := [(2, 37)]) (by decide +kernel) rfl ?_
                  refine zwW_gc Ih18 (kd := 13) (bn := 19) (n := 97) (c := 78) (nx := 141) (by decide +kernel) ?_
                  refine zwW_p [(1, 1, 0), (1, 0, 2)] (q := 143) (ls' := [(2, 37), (0, vL4)]) (st' := [(2, 37), (0, vL4), (2, 78)]) (by decide +kernel) rfl ?_
                  refine zwW_gc Ih18 (kd := 13) (bn := 18) (n := 97) (c := 77) (nx := 146) (by decide +kernel) ?_
                  refine zwW_p [(1, 1, 0)] (q := 147) (ls' := [(2, 37), (0, vL4)]) (st' := [(0, vL4), (2, 77), (0, vL4), (2, 78)]) (by decide +kernel) rfl ?_
                  refine zwW_al Ih18 (a1 := 77) (a2 := 77) (kd := 20) (n := 8) (t := 0) (lo := -2147483648) (hi := 2147483647) (nx := 148) (by decide +kernel) (by first | decide | exact ⟨by decide, by decide⟩) (by first | omega | exact ⟨by omega, by omega⟩) ?_
                  intro v19 ev19 lv19 uv19
                  refine zwW_as Ih18 (a1 := 78) (a2 := 78) (n := 8) (lo := -2147483648) (hi := 2147483647) (nx := 149) (by decide +kernel) (by first | decide | exact ⟨by decide, by decide⟩) (by first | omega | exact ⟨by omega, by omega⟩) (by first | omega | exact ⟨by omega, by omega⟩) ?_
                  intro h20 eh20 Ih20
                  have Rh20 : zMR ms196 h h20 := Rh18.w (a1 := 78) (a2 := 78) (j1 := 0) (j2 := 8) (by decide +kernel) (by first | decide | exact ⟨by decide, by decide⟩) (by first | omega | exact ⟨by omega, by omega⟩) eh20
                  refine zwW_p [(1, 0, 2)] (q := 150) (ls' := [(2, 37), (0, vL4)]) (st' := [(2, 37)]) (by decide +kernel) rfl ?_
                  refine zwW_gc Ih20 (kd := 13) (bn := 18) (n := 97) (c := 77) (nx := 153) (by decide +kernel) ?_
                  refine zwW_p [(1, 1, 0), (0, 0, 0)] (q := 155) (ls' := [(2, 37), (0, vL4)]) (st' := [(0, 0), (0, vL4), (2, 77)]) (by decide +kernel) rfl ?_
                  refine zwW_as Ih20 (a1 := 77) (a2 := 77) (n := 8) (lo := -2147483648) (hi := 2147483647) (nx := 156) (by decide +kernel) (by first | decide | exact ⟨by decide, by decide⟩) (by first | omega | exact ⟨by omega, by omega⟩) (by first | decide | exact ⟨by decide, by decide⟩) ?_
                  intro h21 eh21 Ih21
                  have Rh21 : zMR ms196 h h21 := Rh20.w (a1 := 77) (a2 := 77) (j1 := 0) (j2 := 8) (by decide +kernel) (by first | decide | exact ⟨by decide, by decide⟩) (by first | omega | exact ⟨by omega, by omega⟩) eh21
                  refine zwW_inc (i := 1) (c := 1) (x := vL4) (nx := 159) (by decide +kernel) rfl (by first | omega | exact ⟨by omega, by omega⟩) (ls' := [(2, 37), (0, (vL4 + 1))]) rfl ?_
                  refine zwW_p [(24, 53, 0)] (q := 53) (ls' := [(2, 37), (0, (vL4 + 1))]) (st' := []) (by decide +kernel) rfl ?_
                  exact IHL4 ((100 - (vL4 + 1))).toNat (by omega) (vL4 + 1) h21 rfl (by omega) Ih21 Rh21
              · refine zwW_p [(1, 0, 2)] (q := 77) (ls' := [(2, 37), (0, vL4)]) (st' := [(2, 37)]) (by decide +kernel) rfl ?_
                refine zwW_gc IhL4 (kd := 13) (bn := 12) (n := 97) (c := 71) (nx := 80) (by decide +kernel) ?_
                refine zwW_p [(1, 1, 0), (1, 0, 2)] (q := 82) (ls' := [(2, 37), (0, vL4)]) (st' := [(2, 37), (0, vL4), (2, 71)]) (by decide +kernel) rfl ?_
                refine zwW_gc IhL4 (kd := 13) (bn := 12) (n := 97) (c := 71) (nx := 85) (by decide +kernel) ?_
                refine zwW_p [(1, 1, 0)] (q := 86) (ls' := [(2, 37), (0, vL4)]) (st' := [(0, vL4), (2, 71), (0, vL4), (2, 71)]) (by decide +kernel) rfl ?_
                refine zwW_al IhL4 (a1 := 71) (a2 := 71) (kd := 20) (n := 8) (t := 0) (lo := -2147483648) (hi := 2147483647) (nx := 87) (by decide +kernel) (by first | decide | exact ⟨by decide, by decide⟩) (by first | omega | exact ⟨by omega, by omega⟩) ?_
                intro v22 ev22 lv22 uv22
                refine zwW_p [(0, 1, 0)] (q := 88) (ls' := [(2, 37), (0, vL4)]) (st' := [(0, 1), (0, v22), (0, vL4), (2, 71)]) (by decide +kernel) rfl ?_
                refine zwic_le (q := 102) (nx := 91) (by decide +kernel) (fun c23 => ?_) (fun c23 => ?_)
                · refine zwW_p [(0, 1, 0)] (q := 103) (ls' := [(2, 37), (0, vL4)]) (st' := [(0, 1), (0, vL4), (2, 71)]) (by decide +kernel) rfl ?_
                  refine zwW_as IhL4 (a1 := 71) (a2 := 71) (n := 8) (lo := -2147483648) (hi := 2147483647) (nx := 104) (by decide +kernel) (by first | decide | exact ⟨by decide, by decide⟩) (by first | omega | exact ⟨by omega, by omega⟩) (by first | decide | exact ⟨by decide, by decide⟩) ?_
                  intro h24 eh24 Ih24
                  have Rh24 : zMR ms196 h h24 := RhL4.w (a1 := 71) (a2 := 71) (j1 := 0) (j2 := 8) (by decide +kernel) (by first | decide | exact ⟨by decide, by decide⟩) (by first | omega | exact ⟨by omega, by omega⟩) eh24
                  refine zwW_p [(24, 137, 0), (1, 0, 2)] (q := 138) (ls' := [(2, 37), (0, vL4)]) (st' := [(2, 37)]) (by decide +kernel) rfl ?_
                  refine zwW_gc Ih24 (kd := 13) (bn := 19) (n := 97) (c := 78) (nx := 141) (by decide +kernel) ?_
                  refine zwW_p [(1, 1, 0), (1, 0, 2)] (q := 143) (ls' := [(2, 37), (0, vL4)]) (st' := [(2, 37), (0, vL4), (2, 78)]) (by decide +kernel) rfl ?_
                  refine zwW_gc Ih24 (kd := 13) (bn := 18) (n := 97) (c := 77) (nx := 146) (by decide +kernel) ?_
                  refine zwW_p [(1, 1, 0)] (q := 147) (ls' := [(2, 37), (0, vL4)]) (st' := [(0, vL4), (2, 77), (0, vL4), (2, 78)]) (by decide +kernel) rfl ?_
                  refine zwW_al Ih24 (a1 := 77) (a2 := 77) (kd := 20) (n := 8) (t := 0) (lo := -2147483648) (hi := 2147483647) (nx := 148) (by decide +kernel) (by first | decide | exact ⟨by decide, by decide⟩) (by first | omega | exact ⟨by omega, by omega⟩) ?_
                  intro v25 ev25 lv25 uv25
                  refine zwW_as Ih24 (a1 := 78) (a2 := 78) (n := 8) (lo := -2147483648) (hi := 2147483647) (nx := 149) (by decide +kernel) (by first | decide | exact ⟨by decide, by decide⟩) (by first | omega | exact ⟨by omega, by omega⟩) (by first | omega | exact ⟨by omega, by omega⟩) ?_
                  intro h26 eh26 Ih26
                  have Rh26 : zMR ms196 h h26 := Rh24.w (a1 := 78) (a2 := 78) (j1 := 0) (j2 := 8) (by decide +kernel) (by first | decide | exact ⟨by decide, by decide⟩) (by first | omega | exact ⟨by omega, by omega⟩) eh26
                  refine zwW_p [(1, 0, 2)] (q := 150) (ls' := [(2, 37), (0, vL4)]) (st' := [(2, 37)]) (by decide +kernel) rfl ?_
                  refine zwW_gc Ih26 (kd := 13) (bn := 18) (n := 97) (c := 77) (nx := 153) (by decide +kernel) ?_
                  refine zwW_p [(1, 1, 0), (0, 0, 0)] (q := 155) (ls' := [(2, 37), (0, vL4)]) (st' := [(0, 0), (0, vL4), (2, 77)]) (by decide +kernel) rfl ?_
                  refine zwW_as Ih26 (a1 := 77) (a2 := 77) (n := 8) (lo := -2147483648) (hi := 2147483647) (nx := 156) (by decide +kernel) (by first | decide | exact ⟨by decide, by decide⟩) (by first | omega | exact ⟨by omega, by omega⟩) (by first | decide | exact ⟨by decide, by decide⟩) ?_
                  intro h27 eh27 Ih27
                  have Rh27 : zMR ms196 h h27 := Rh26.w (a1 := 77) (a2 := 77) (j1 := 0) (j2 := 8) (by decide +kernel) (by first | decide | exact ⟨by decide, by decide⟩) (by first | omega | exact ⟨by omega, by omega⟩) eh27
                  refine zwW_inc (i := 1) (c := 1) (x := vL4) (nx := 159) (by decide +kernel) rfl (by first | omega | exact ⟨by omega, by omega⟩) (ls' := [(2, 37), (0, (vL4 + 1))]) rfl ?_
                  refine zwW_p [(24, 53, 0)] (q := 53) (ls' := [(2, 37), (0, (vL4 + 1))]) (st' := []) (by decide +kernel) rfl ?_
                  exact IHL4 ((100 - (vL4 + 1))).toNat (by omega) (vL4 + 1) h27 rfl (by omega) Ih27 Rh27
                · refine zwW_p [(1, 0, 2)] (q := 92) (ls' := [(2, 37), (0, vL4)]) (st' := [(2, 37), (0, vL4), (2, 71)]) (by decide +kernel) rfl ?_
                  refine zwW_gc IhL4 (kd := 13) (bn := 12) (n := 97) (c := 71) (nx := 95) (by decide +kernel) ?_
                  refine zwW_p [(1, 1, 0)] (q := 96) (ls' := [(2, 37), (0, vL4)]) (st' := [(0, vL4), (2, 71), (0, vL4), (2, 71)]) (by decide +kernel) rfl ?_
                  refine zwW_al IhL4 (a1 := 71) (a2 := 71) (kd := 20) (n := 8) (t := 0) (lo := -2147483648) (hi := 2147483647) (nx := 97) (by decide +kernel) (by first | decide | exact ⟨by decide, by decide⟩) (by first | omega | exact ⟨by omega, by omega⟩) ?_
                  intro v28 ev28 lv28 uv28
                  refine zwW_p [(0, 1, 0)] (q := 98) (ls' := [(2, 37), (0, vL4)]) (st' := [(0, 1), (0, v28), (0, vL4), (2, 71)]) (by decide +kernel) rfl ?_
                  refine zwW_sbw (nx := 99) (by decide +kernel) ?_
                  intro v29 ev29 lv29 uv29
                  refine zwW_p [(24, 103, 0)] (q := 103) (ls' := [(2, 37), (0, vL4)]) (st' := [(0, v29), (0, vL4), (2, 71)]) (by decide +kernel) rfl ?_
                  refine zwW_as IhL4 (a1 := 71) (a2 := 71) (n := 8) (lo := -2147483648) (hi := 2147483647) (nx := 104) (by decide +kernel) (by first | decide | exact ⟨by decide, by decide⟩) (by first | omega | exact ⟨by omega, by omega⟩) (by first | omega | exact ⟨by omega, by omega⟩) ?_
                  intro h30 eh30 Ih30
                  have Rh30 : zMR ms196 h h30 := RhL4.w (a1 := 71) (a2 := 71) (j1 := 0) (j2 := 8) (by decide +kernel) (by first | decide | exact ⟨by decide, by decide⟩) (by first | omega | exact ⟨by omega, by omega⟩) eh30
                  refine zwW_p [(24, 137, 0), (1, 0, 2)] (q := 138) (ls' := [(2, 37), (0, vL4)]) (st' := [(2, 37)]) (by decide +kernel) rfl ?_
                  refine zwW_gc Ih30 (kd := 13) (bn := 19) (n := 97) (c := 78) (nx := 141) (by decide +kernel) ?_
                  refine zwW_p [(1, 1, 0), (1, 0, 2)] (q := 143) (ls' := [(2, 37), (0, vL4)]) (st' := [(2, 37), (0, vL4), (2, 78)]) (by decide +kernel) rfl ?_
                  refine zwW_gc Ih30 (kd := 13) (bn := 18) (n := 97) (c := 77) (nx := 146) (by decide +kernel) ?_
                  refine zwW_p [(1, 1, 0)] (q := 147) (ls' := [(2, 37), (0, vL4)]) (st' := [(0, vL4), (2, 77), (0, vL4), (2, 78)]) (by decide +kernel) rfl ?_
                  refine zwW_al Ih30 (a1 := 77) (a2 := 77) (kd := 20) (n := 8) (t := 0) (lo := -2147483648) (hi := 2147483647) (nx := 148) (by decide +kernel) (by first | decide | exact ⟨by decide, by decide⟩) (by first | omega | exact ⟨by omega, by omega⟩) ?_
                  intro v31 ev31 lv31 uv31
                  refine zwW_as Ih30 (a1 := 78) (a2 := 78) (n := 8) (lo := -2147483648) (hi := 2147483647) (nx := 149) (by decide +kernel) (by first | decide | exact ⟨by decide, by decide⟩) (by first | omega | exact ⟨by omega, by omega⟩) (by first | omega | exact ⟨by omega, by omega⟩) ?_
                  intro h32 eh32 Ih32
                  have Rh32 : zMR ms196 h h32 := Rh30.w (a1 := 78) (a2 := 78) (j1 := 0) (j2 := 8) (by decide +kernel) (by first | decide | exact ⟨by decide, by decide⟩) (by first | omega | exact ⟨by omega, by omega⟩) eh32
                  refine zwW_p [(1, 0, 2)] (q := 150) (ls' := [(2, 37), (0, vL4)]) (st' := [(2, 37)]) (by decide +kernel) rfl ?_
                  refine zwW_gc Ih32 (kd := 13) (bn := 18) (n := 97) (c := 77) (nx := 153) (by decide +kernel) ?_
                  refine zwW_p [(1, 1, 0), (0, 0, 0)] (q := 155) (ls' := [(2, 37), (0, vL4)]) (st' := [(0, 0), (0, vL4), (2, 77)]) (by decide +kernel) rfl ?_
                  refine zwW_as Ih32 (a1 := 77) (a2 := 77) (n := 8) (lo := -2147483648) (hi := 2147483647) (nx := 156) (by decide +kernel) (by first | decide | exact ⟨by decide, by decide⟩) (by first | omega | exact ⟨by omega, by omega⟩) (by first | decide | exact ⟨by decide, by decide⟩) ?_
                  intro h33 eh33 Ih33
                  have Rh33 : zMR ms196 h h33 := Rh32.w (a1 := 77) (a2 := 77) (j1 := 0) (j2 := 8) (by decide +kernel) (by first | decide | exact ⟨by decide, by decide⟩) (by first | omega | exact ⟨by omega, by omega⟩) eh33
                  refine zwW_inc (i := 1) (c := 1) (x := vL4) (nx := 159) (by decide +kernel) rfl (by first | omega | exact ⟨by omega, by omega⟩) (ls' := [(2, 37), (0, (vL4 + 1))]) rfl ?_
                  refine zwW_p [(24, 53, 0)] (q := 53) (ls' := [(2, 37), (0, (vL4 + 1))]) (st' := []) (by decide +kernel) rfl ?_
                  exact IHL4 ((100 - (vL4 + 1))).toNat (by omega) (vL4 + 1) h33 rfl (by omega) Ih33 Rh33
        exact L4 _ 0 hL1 rfl (by omega) IhL1 RhL1
      · refine zwW_p [(1, 0, 2)] (q := 11) (ls' := [(2, 37), (0, qL1)]) (st' := [(2, 37)]) (by decide +kernel) rfl ?_
        refine zwW_gc IhL1 (kd := 13) (bn := 21) (n := 97) (c := 80) (nx := 14) (by decide +kernel) ?_
        refine zwW_p [(1, 1, 0)] (q := 15) (ls' := [(2, 37), (0, qL1)]) (st' := [(0, qL1), (2, 80)]) (by decide +kernel) rfl ?_
        refine zwW_al IhL1 (a1 := 80) (a2 := 80) (kd := 20) (n := 20) (t := 0) (lo := 0) (hi := 5) (nx := 16) (by decide +kernel) (by first | decide | exact ⟨by decide, by decide⟩) (by first | omega | exact ⟨by omega, by omega⟩) ?_
        intro v34 ev34 lv34 uv34
        refine zwif_ne (q := 22) (nx := 19) (by decide +kernel) (fun c35 => ?_) (fun c35 => ?_)
        · refine zwW_p [(1, 0, 2), (1, 1, 0)] (q := 24) (ls' := [(2, 37), (0, qL1)]) (st' := [(0, qL1), (2, 37)]) (by decide +kernel) rfl ?_
          refine zwW_cmv IhL1 (op := 60) (k' := 225) (n := 1) (kd := 13) (m := 97) (nx := 27) (r := 37) (tl := [(0, qL1)]) (st' := []) (by decide +kernel) rfl (by decide +kernel) rfl (m225 hL1 IhL1 qL1 (by omega) (by omega)) ?_
          rintro h36 ⟨Ih36, Qh36⟩
          have Rh36 : zMR ms196 h h36 := RhL1.tr Qh36 (by decide +kernel)
          refine zwW_p [(1, 0, 2)] (q := 28) (ls' := [(2, 37), (0, qL1)]) (st' := [(2, 37)]) (by decide +kernel) rfl ?_
          refine zwW_gc Ih36 (kd := 13) (bn := 34) (n := 97) (c := 93) (nx := 31) (by decide +kernel) ?_
          refine zwW_p [(1, 1, 0), (14, 0, 0)] (q := 33) (ls' := [(2, 37), (0, qL1)]) (st' := [(0, qL1), (2, 93), (0, qL1), (2, 93)]) (by decide +kernel) rfl ?_
          refine zwW_al Ih36 (a1 := 93) (a2 := 93) (kd := 23) (n := 20) (t := 1) (lo := -9223372036854775808) (hi := 9223372036854775807) (nx := 34) (by decide +kernel) (by first | decide | exact ⟨by decide, by decide⟩) (by first | omega | exact ⟨by omega, by omega⟩) ?_
          intro v37 ev37 lv37 uv37
          refine zwW_p [(1, 0, 2), (0, 0, 0)] (q := 36) (ls' := [(2, 37), (0, qL1)]) (st' := [(0, 0), (2, 37), (1, v37), (0, qL1), (2, 93)]) (by decide +kernel) rfl ?_
          refine zwW_cm Ih36 (op := 60) (k' := 137) (n := 1) (kd := 13) (m := 97) (nx := 39) (r := 37) (tl := [(0, 0)]) (st' := [(1, v37), (0, qL1), (2, 93)]) (by decide +kernel) rfl (by decide +kernel) rfl (m137 h36 Ih36 0 (by omega) (by omega) (hW.mr I Rh36 (by decide +kernel))) ?_
          rintro v38 h40 ⟨Ih40, Qh40, f39⟩
          have Rh40 : zMR ms196 h h40 := Rh36.tr Qh40 (by decide +kernel)
          refine zwW_cs (k' := 129) (n := 1) (nx := 42) (as := [(0, v38)]) (st' := [(1, v37), (0, qL1), (2, 93)]) (by decide +kernel) rfl (m129 h40 v38 (by omega)) rfl ?_
          rintro v41 _ ⟨rfl, f42, f43, f44⟩
          refine zwW_p [(7, 0, 0)] (q := 43) (ls' := [(2, 37), (0, qL1)]) (st' := [(1, v41), (1, v37), (0, qL1), (2, 93)]) (by decide +kernel) rfl ?_
          refine zwW_law (nx := 44) (by decide +kernel) ?_
          intro v45 ev45 lv45 uv45
          refine zwW_asl Ih40 (a1 := 93) (a2 := 93) (n := 20) (lo := -9223372036854775808) (hi := 9223372036854775807) (nx := 45) (by decide +kernel) (by first | decide | exact ⟨by decide, by decide⟩) (by first | omega | exact ⟨by omega, by omega⟩) (by first | omega | exact ⟨by omega, by omega⟩) ?_
          intro h46 eh46 Ih46
          have Rh46 : zMR ms196 h h46 := Rh40.w (a1 := 93) (a2 := 93) (j1 := 0) (j2 := 20) (by decide +kernel) (by first | decide | exact ⟨by decide, by decide⟩) (by first | omega | exact ⟨by omega, by omega⟩) eh46
          refine zwW_inc (i := 1) (c := 1) (x := qL1) (nx := 48) (by decide +kernel) rfl (by first | omega | exact ⟨by omega, by omega⟩) (ls' := [(2, 37), (0, (qL1 + 1))]) rfl ?_
          refine zwW_p [(24, 2, 0)] (q := 2) (ls' := [(2, 37), (0, (qL1 + 1))]) (st' := []) (by decide +kernel) rfl ?_
          exact IHL1 ((100 - (qL1 + 1))).toNat (by omega) (qL1 + 1) h46 rfl (by omega) Ih46 Rh46
        · refine zwW_p [(24, 45, 0)] (q := 45) (ls' := [(2, 37), (0, qL1)]) (st' := []) (by decide +kernel) rfl ?_
          refine zwW_inc (i := 1) (c := 1) (x := qL1) (nx := 48) (by decide +kernel) rfl (by first | omega | exact ⟨by omega, by omega⟩) (ls' := [(2, 37), (0, (qL1 + 1))]) rfl ?_
          refine zwW_p [(24, 2, 0)] (q := 2) (ls' := [(2, 37), (0, (qL1 + 1))]) (st' := []) (by decide +kernel) rfl ?_
          exact IHL1 ((100 - (qL1 + 1))).toNat (by omega) (qL1 + 1) hL1 rfl (by omega) IhL1 RhL1
  exact L1 _ 0 h rfl (by omega) I R
def ms197 : Zms := [(72, 72, 0, 8), (362, 362, 0, 8)]
-- WheelLandModel.goRound()V
theorem m197 {sc : List Int} (h : Hp) (I : zI h) : zwC sc 2 197 [(2, 37)] h (zwRv (fun g => zI g ∧ zMR ms197 h g)) := by
  refine zwC_of (D := 1) 3 (by decide +kernel) rfl (ls := [(2, 37), (9, 0), (9, 0)]) rfl ?_
  have R : zMR ms197 h h := zMR.rf _ _
  refine zwW_p [(0, 0, 0), (2, 1, 0)] (q := 2) (ls' := [(2, 37), (0, 0), (9, 0)]) (st' := []) (by decide +kernel) rfl ?_
  have L1 : ∀ (n : Nat) (vL1 : Int) (w2L1 : Vl) (hL1 : Hp), n = ((100 - vL1)).toNat → (0 ≤ vL1 ∧ vL1 ≤ 8) → zI hL1 → zMR ms197 h hL1 → zwW sc (1) 197 2 [(2, 37), (0, vL1), w2L1] [] hL1 (zwRv (fun g => zI g ∧ zMR ms197 h g)) := by
    intro n
    induction n using Nat.strongRecOn with
    | ind n IHL1 =>
      intro vL1 w2L1 hL1 hnL1 iL1_0 IhL1 RhL1
      refine zwW_p [(1, 1, 0), (1, 0, 2)] (q := 4) (ls' := [(2, 37), (0, vL1), w2L1]) (st' := [(2, 37), (0, vL1)]) (by decide +kernel) rfl ?_
      refine zwW_gs IhL1 (kd := 13) (bn := 1) (n := 97) (t := 0) (lo := 0) (hi := 8) (nx := 7) (by decide +kernel) ?_
      intro v2 ev2 lv2 uv2
      refine zwic_ge (q := 91) (nx := 10) (by decide +kernel) (fun c3 => ?_) (fun c3 => ?_)
      · refine zwW_p [(0, 0, 0), (2, 1, 0)] (q := 93) (ls' := [(2, 37), (0, 0), w2L1]) (st' := []) (by decide +kernel) rfl ?_
        have L4 : ∀ (n : Nat) (vL4 : Int) (hL4 : Hp), n = ((100 - vL4)).toNat → (0 ≤ vL4 ∧ vL4 ≤ 8) → zI hL4 → zMR ms197 h hL4 → zwW sc (1) 197 93 [(2, 37), (0, vL4), w2L1] [] hL4 (zwRv (fun g => zI g ∧ zMR ms197 h g)) := by
          intro n
          induction n using Nat.strongRecOn with
          | ind n IHL4 =>
            intro vL4 hL4 hnL4 iL4_0 IhL4 RhL4
            refine zwW_p [(1, 1, 0), (1, 0, 2)] (q := 95) (ls' := [(2, 37), (0, vL4), w2L1]) (st' := [(2, 37), (0, vL4)]) (by decide +kernel) rfl ?_
            refine zwW_gs IhL4 (kd := 13) (bn := 1) (n := 97) (t := 0) (lo := 0) (hi := 8) (nx := 98) (by decide +kernel) ?_
            intro v5 ev5 lv5 uv5
            refine zwic_ge (q := 119) (nx := 101) (by decide +kernel) (fun c6 => ?_) (fun c6 => ?_)
            · refine zwW_retv (nx := 120) (a := 0) (b := 0) (by decide +kernel) ?_
              exact ⟨IhL4, RhL4⟩
            · refine zwW_p [(1, 0, 2)] (q := 102) (ls' := [(2, 37), (0, vL4), w2L1]) (st' := [(2, 37)]) (by decide +kernel) rfl ?_
              refine zwW_gc IhL4 (kd := 13) (bn := 13) (n := 97) (c := 72) (nx := 105) (by decide +kernel) ?_
              refine zwW_p [(1, 1, 0), (1, 0, 2)] (q := 107) (ls' := [(2, 37), (0, vL4), w2L1]) (st' := [(2, 37), (0, vL4), (2, 72)]) (by decide +kernel) rfl ?_
              refine zwW_gc IhL4 (kd := 13) (bn := 92) (n := 97) (c := 362) (nx := 110) (by decide +kernel) ?_
              refine zwW_p [(1, 1, 0)] (q := 111) (ls' := [(2, 37), (0, vL4), w2L1]) (st' := [(0, vL4), (2, 362), (0, vL4), (2, 72)]) (by decide +kernel) rfl ?_
              refine zwW_al IhL4 (a1 := 362) (a2 := 362) (kd := 20) (n := 8) (t := 0) (lo := -2147483648) (hi := 2147483647) (nx := 112) (by decide +kernel) (by first | decide | exact ⟨by decide, by decide⟩) (by first | omega | exact ⟨by omega, by omega⟩) ?_
              intro v7 ev7 lv7 uv7
              refine zwW_as IhL4 (a1 := 72) (a2 := 72) (n := 8) (lo := -2147483648) (hi := 2147483647) (nx := 113) (by decide +kernel) (by first | decide | exact ⟨by decide, by decide⟩) (by first | omega | exact ⟨by omega, by omega⟩) (by first | omega | exact ⟨by omega, by omega⟩) ?_
              intro h8 eh8 Ih8
              have Rh8 : zMR ms197 h h8 := RhL4.w (a1 := 72) (a2 := 72) (j1 := 0) (j2 := 8) (by decide +kernel) (by first | decide | exact ⟨by decide, by decide⟩) (by first | omega | exact ⟨by omega, by omega⟩) eh8
              refine zwW_inc (i := 1) (c := 1) (x := vL4) (nx := 116) (by decide +kernel) rfl (by first | omega | exact ⟨by omega, by omega⟩) (ls' := [(2, 37), (0, (vL4 + 1)), w2L1]) rfl ?_
              refine zwW_p [(24, 93, 0)] (q := 93) (ls' := [(2, 37), (0, (vL4 + 1)), w2L1]) (st' := []) (by decide +kernel) rfl ?_
              exact IHL4 ((100 - (vL4 + 1))).toNat (by omega) (vL4 + 1) h8 rfl (by omega) Ih8 Rh8
        exact L4 _ 0 hL1 rfl (by omega) IhL1 RhL1
      · refine zwW_p [(1, 0, 2)] (q := 11) (ls' := [(2, 37), (0, vL1), w2L1]) (st' := [(2, 37)]) (by decide +kernel) rfl ?_
        refine zwW_gc IhL1 (kd := 13) (bn := 92) (n := 97) (c := 362) (nx := 14) (by decide +kernel) ?_
        refine zwW_p [(1, 1, 0), (1, 0, 2)] (q := 16) (ls' := [(2, 37), (0, vL1), w2L1]) (st' := [(2, 37), (0, vL1), (2, 362)]) (by decide +kernel) rfl ?_
        refine zwW_gc IhL1 (kd := 13) (bn := 13) (n := 97) (c := 72) (nx := 19) (by decide +kernel) ?_
        refine zwW_p [(1, 1, 0)] (q := 20) (ls' := [(2, 37), (0, vL1), w2L1]) (st' := [(0, vL1), (2, 72), (0, vL1), (2, 362)]) (by decide +kernel) rfl ?_
        refine zwW_al IhL1 (a1 := 72) (a2 := 72) (kd := 20) (n := 8) (t := 0) (lo := -2147483648) (hi := 2147483647) (nx := 21) (by decide +kernel) (by first | decide | exact ⟨by decide, by decide⟩) (by first | omega | exact ⟨by omega, by omega⟩) ?_
        intro v9 ev9 lv9 uv9
        refine zwW_p [(0, 1, 0)] (q := 22) (ls' := [(2, 37), (0, vL1), w2L1]) (st' := [(0, 1), (0, v9), (0, vL1), (2, 362)]) (by decide +kernel) rfl ?_
        refine zwW_sbw (nx := 23) (by decide +kernel) ?_
        intro v10 ev10 lv10 uv10
        refine zwW_cs (k' := 129) (n := 1) (nx := 26) (as := [(0, v10)]) (st' := [(0, vL1), (2, 362)]) (by decide +kernel) rfl (m129 hL1 v10 (by omega)) rfl ?_
        rintro v11 _ ⟨rfl, f12, f13, f14⟩
        refine zwW_as IhL1 (a1 := 362) (a2 := 362) (n := 8) (lo := -2147483648) (hi := 2147483647) (nx := 27) (by decide +kernel) (by first | decide | exact ⟨by decide, by decide⟩) (by first | omega | exact ⟨by omega, by omega⟩) (by first | omega | exact ⟨by omega, by omega⟩) ?_
        intro h15 eh15 Ih15
        have Rh15 : zMR ms197 h h15 := RhL1.w (a1 := 362) (a2 := 362) (j1 := 0) (j2 := 8) (by decide +kernel) (by first | decide | exact ⟨by decide, by decide⟩) (by first | omega | exact ⟨by omega, by omega⟩) eh15
        refine zwW_p [(0, 0, 0), (2, 2, 0)] (q := 29) (ls' := [(2, 37), (0, vL1), (0, 0)]) (st' := []) (by decide +kernel) rfl ?_
        have L16 : ∀ (n : Nat) (oL16 : Int) (hL16 : Hp), n = ((100 - oL16)).toNat → (0 ≤ oL16 ∧ oL16 ≤ 8) → zI hL16 → zMR ms197 h hL16 → zwW sc (1) 197 29 [(2, 37), (0, vL1), (0, oL16)] [] hL16 (zwRv (fun g => zI g ∧ zMR ms197 h g)) := by
          intro n
          induction n using Nat.strongRecOn with
          | ind n IHL16 =>
            intro oL16 hL16 hnL16 iL16_0 IhL16 RhL16
            refine zwW_p [(1, 2, 0), (1, 0, 2)] (q := 31) (ls' := [(2, 37), (0, vL1), (0, oL16)]) (st' := [(2, 37), (0, oL16)]) (by decide +kernel) rfl ?_
            refine zwW_gs IhL16 (kd := 13) (bn := 1) (n := 97) (t := 0) (lo := 0) (hi := 8) (nx := 34) (by decide +kernel) ?_
            intro v17 ev17 lv17 uv17
            refine zwic_ge (q := 85) (nx := 37) (by decide +kernel) (fun c18 => ?_) (fun c18 => ?_)
            · refine zwW_inc (i := 1) (c := 1) (x := vL1) (nx := 88) (by decide +kernel) rfl (by first | omega | exact ⟨by omega, by omega⟩) (ls' := [(2, 37), (0, (vL1 + 1)), (0, oL16)]) rfl ?_
              refine zwW_p [(24, 2, 0)] (q := 2) (ls' := [(2, 37), (0, (vL1 + 1)), (0, oL16)]) (st' := []) (by decide +kernel) rfl ?_
              exact IHL1 ((100 - (vL1 + 1))).toNat (by omega) (vL1 + 1) (0, oL16) hL16 rfl (by omega) IhL16 RhL16
            · refine zwW_p [(1, 0, 2)] (q := 38) (ls' := [(2, 37), (0, vL1), (0, oL16)]) (st' := [(2, 37)]) (by decide +kernel) rfl ?_
              refine zwW_gc IhL16 (kd := 13) (bn := 4) (n := 97) (c := 47) (nx := 41) (by decide +kernel) ?_
              refine zwW_p [(1, 1, 0)] (q := 42) (ls' := [(2, 37), (0, vL1), (0, oL16)]) (st' := [(0, vL1), (2, 47)]) (by decide +kernel) rfl ?_
              refine zwW_ro IhL16 (a := 47) (n := 8) (kd := 26) (base := 48) (step := 1) (nx := 43) (by decide +kernel) rfl (by first | omega | exact ⟨by omega, by omega⟩) ?_
              rw [show ((48 : Nat) : Int) + ((1 : Nat) : Int) * vL1 = (48 + vL1) by omega]
              refine zwW_p [(1, 2, 0)] (q := 44) (ls' := [(2, 37), (0, vL1), (0, oL16)]) (st' := [(0, oL16), (2, (48 + vL1))]) (by decide +kernel) rfl ?_
              refine zwW_al IhL16 (a1 := 48) (a2 := 55) (kd := 20) (n := 8) (t := 0) (lo := 0) (hi := 9) (nx := 45) (by decide +kernel) (by first | omega | exact ⟨by omega, by omega⟩) (by first | omega | exact ⟨by omega, by omega⟩) ?_
              intro v19 ev19 lv19 uv19
              refine zwif_le (q := 79) (nx := 48) (by decide +kernel) (fun c20 => ?_) (fun c20 => ?_)
              · refine zwW_inc (i := 2) (c := 1) (x := oL16) (nx := 82) (by decide +kernel) rfl (by first | omega | exact ⟨by omega, by omega⟩) (ls' := [(2, 37), (0, vL1), (0, (oL16 + 1))]) rfl ?_
                refine zwW_p [(24, 29, 0)] (q := 29) (ls' := [(2, 37), (0, vL1), (0, (oL16 + 1))]) (st' := []) (by decide +kernel) rfl ?_
                exact IHL16 ((100 - (oL16 + 1))).toNat (by omega) (oL16 + 1) hL16 rfl (by omega) IhL16 RhL16
              · refine zwW_p [(1, 0, 2)] (q := 49) (ls' := [(2, 37), (0, vL1), (0, oL16)]) (st' := [(2, 37)]) (by decide +kernel) rfl ?_
                refine zwW_gc IhL16 (kd := 13) (bn := 13) (n := 97) (c := 72) (nx := 52) (by decide +kernel) ?_
                refine zwW_p [(1, 2, 0)] (q := 53) (ls' := [(2, 37), (0, vL1), (0, oL16)]) (st' := [(0, oL16), (2, 72)]) (by decide +kernel) rfl ?_
                refine zwW_al IhL16 (a1 := 72) (a2 := 72) (kd := 20) (n := 8) (t := 0) (lo := -2147483648) (hi := 2147483647) (nx := 54) (by decide +kernel) (by first | decide | exact ⟨by decide, by decide⟩) (by first | omega | exact ⟨by omega, by omega⟩) ?_
                intro v21 ev21 lv21 uv21
                refine zwW_p [(0, 2, 0)] (q := 55) (ls' := [(2, 37), (0, vL1), (0, oL16)]) (st' := [(0, 2), (0, v21)]) (by decide +kernel) rfl ?_
                refine zwW_sbw (nx := 56) (by decide +kernel) ?_
                intro v22 ev22 lv22 uv22
                refine zwW_p [(1, 0, 2)] (q := 57) (ls' := [(2, 37), (0, vL1), (0, oL16)]) (st' := [(2, 37), (0, v22)]) (by decide +kernel) rfl ?_
                refine zwW_gc IhL16 (kd := 13) (bn := 92) (n := 97) (c := 362) (nx := 60) (by decide +kernel) ?_
                refine zwW_p [(1, 1, 0)] (q := 61) (ls' := [(2, 37), (0, vL1), (0, oL16)]) (st' := [(0, vL1), (2, 362), (0, v22)]) (by decide +kernel) rfl ?_
                refine zwW_al IhL16 (a1 := 362) (a2 := 362) (kd := 20) (n := 8) (t := 0) (lo := -2147483648) (hi := 2147483647) (nx := 62) (by decide +kernel) (by first | decide | exact ⟨by decide, by decide⟩) (by first | omega | exact ⟨by omega, by omega⟩) ?_
                intro v23 ev23 lv23 uv23
                refine zwic_le (q := 79) (nx := 65) (by decide +kernel) (fun c24 => ?_) (fun c24 => ?_)
                · refine zwW_inc (i := 2) (c := 1) (x := oL16) (nx := 82) (by decide +kernel) rfl (by first | omega | exact ⟨by omega, by omega⟩) (ls' := [(2, 37), (0, vL1), (0, (oL16 + 1))]) rfl ?_
                  refine zwW_p [(24, 29, 0)] (q := 29) (ls' := [(2, 37), (0, vL1), (0, (oL16 + 1))]) (st' := []) (by decide +kernel) rfl ?_
                  exact IHL16 ((100 - (oL16 + 1))).toNat (by omega) (oL16 + 1) hL16 rfl (by omega) IhL16 RhL16
                · refine zwW_p [(1, 0, 2)] (q := 66) (ls' := [(2, 37), (0, vL1), (0, oL16)]) (st' := [(2, 37)]) (by decide +kernel) rfl ?_
                  refine zwW_gc IhL16 (kd := 13) (bn := 92) (n := 97) (c := 362) (nx := 69) (by decide +kernel) ?_
                  refine zwW_p [(1, 1, 0), (1, 0, 2)] (q := 71) (ls' := [(2, 37), (0, vL1), (0, oL16)]) (st' := [(2, 37), (0, vL1), (2, 362)]) (by decide +kernel) rfl ?_
                  refine zwW_gc IhL16 (kd := 13) (bn := 13) (n := 97) (c := 72) (nx := 74) (by decide +kernel) ?_
                  refine zwW_p [(1, 2, 0)] (q := 75) (ls' := [(2, 37), (0, vL1), (0, oL16)]) (st' := [(0, oL16), (2, 72), (0, vL1), (2, 362)]) (by decide +kernel) rfl ?_
                  refine zwW_al IhL16 (a1 := 72) (a2 := 72) (kd := 20) (n := 8) (t := 0) (lo := -2147483648) (hi := 2147483647) (nx := 76) (by decide +kernel) (by first | decide | exact ⟨by decide, by decide⟩) (by first | omega | exact ⟨by omega, by omega⟩) ?_
                  intro v25 ev25 lv25 uv25
                  refine zwW_p [(0, 2, 0)] (q := 77) (ls' := [(2, 37), (0, vL1), (0, oL16)]) (st' := [(0, 2), (0, v25), (0, vL1), (2, 362)]) (by decide +kernel) rfl ?_
                  refine zwW_sbw (nx := 78) (by decide +kernel) ?_
                  intro v26 ev26 lv26 uv26
                  refine zwW_as IhL16 (a1 := 362) (a2 := 362) (n := 8) (lo := -2147483648) (hi := 2147483647) (nx := 79) (by decide +kernel) (by first | decide | exact ⟨by decide, by decide⟩) (by first | omega | exact ⟨by omega, by omega⟩) (by first | omega | exact ⟨by omega, by omega⟩) ?_
                  intro h27 eh27 Ih27
                  have Rh27 : zMR ms197 h h27 := RhL16.w (a1 := 362) (a2 := 362) (j1 := 0) (j2 := 8) (by decide +kernel) (by first | decide | exact ⟨by decide, by decide⟩) (by first | omega | exact ⟨by omega, by omega⟩) eh27
                  refine zwW_inc (i := 2) (c := 1) (x := oL16) (nx := 82) (by decide +kernel) rfl (by first | omega | exact ⟨by omega, by omega⟩) (ls' := [(2, 37), (0, vL1), (0, (oL16 + 1))]) rfl ?_
                  refine zwW_p [(24, 29, 0)] (q := 29) (ls' := [(2, 37), (0, vL1), (0, (oL16 + 1))]) (st' := []) (by decide +kernel) rfl ?_
                  exact IHL16 ((100 - (oL16 + 1))).toNat (by omega) (oL16 + 1) h27 rfl (by omega) Ih27 Rh27
        exact L16 _ 0 h15 rfl (by omega) Ih15 Rh15
  exact L1 _ 0 (9, 0) h rfl (by omega) I R
def ms114 : Zms := [(37, 37, 0, 1), (37, 37, 38, 39), (37, 37, 64, 65), (37, 37, 71, 72), (57, 64, 0, 157), (66, 66, 0, 8), (67, 67, 0, 8), (68, 68, 0, 8), (69, 69, 0, 8), (71, 71, 0, 8), (72, 72, 0, 8), (73, 73, 0, 8), (76, 76, 0, 8), (77, 77, 0, 8), (78, 78, 0, 8), (84, 84, 0, 20), (86, 86, 0, 20), (87, 87, 0, 20), (88, 88, 0, 20), (92, 92, 0, 20), (93, 93, 0, 20), (95, 95, 0, 20), (168, 168, 0, 13), (169, 169, 0, 420), (170, 170, 0, 300), (171, 171, 0, 300), (172, 172, 0, 300), (173, 173, 0, 300), (174, 174, 0, 300), (175, 175, 0, 300), (176, 176, 0, 20), (177, 177, 0, 8), (178, 178, 0, 20), (179, 179, 0, 20), (206, 361, 0, 6), (362, 362, 0, 8)]
-- WheelLandModel.week()V
theorem m114 {sc : List Int} (h : Hp) (I : zI h) (p1 : fld h 37 0 ≤ 155) (hA : zAM h) (hW : zCW h) : zwC sc 8 114 [(2, 37)] h (zwRv (fun g => zI g ∧ zMR ms114 h g ∧ (fld g 37 0 = fld h 37 0 + 1))) := by
  refine zwC_of (D := 7) 2 (by decide +kernel) rfl (ls := [(2, 37), (9, 0)]) rfl ?_
  have R : zMR ms114 h h := zMR.rf _ _
  have B0 := I.b (a1 := 37) (a2 := 37) (j1 := 2) (j2 := 3) (lo := 0) (hi := 20) (by decide +kernel) (r := 37) (j := 2) (by decide) (by decide) (by decide) (by decide)
  have B1 := I.b (a1 := 37) (a2 := 37) (j1 := 0) (j2 := 1) (lo := 0) (hi := 156) (by decide +kernel) (r := 37) (j := 0) (by decide) (by decide) (by decide) (by decide)
  refine zwW_p [(1, 0, 2)] (q := 1) (ls' := [(2, 37), (9, 0)]) (st' := [(2, 37)]) (by decide +kernel) rfl ?_
  refine zwW_cmv I (op := 60) (k' := 194) (n := 0) (kd := 13) (m := 97) (nx := 4) (r := 37) (tl := []) (st' := []) (by decide +kernel) rfl (by decide +kernel) rfl (m194 h I (by omega) (hA.mr R (by decide +kernel) (by omega))) ?_
  rintro h1 ⟨Ih1, Qh1⟩
  have Rh1 : zMR ms114 h h1 := R.tr Qh1 (by decide +kernel)
  have th1_37_0 : fld h1 37 0 = fld h 37 0 := Qh1.f (a1 := 37) (a2 := 37) (j1 := 0) (j2 := 1) (by decide +kernel) (by first | decide | exact ⟨by decide, by decide⟩) (by first | decide | exact ⟨by decide, by decide⟩)
  refine zwW_p [(0, 0, 0), (2, 1, 0)] (q := 6) (ls' := [(2, 37), (0, 0)]) (st' := []) (by decide +kernel) rfl ?_
  have L2 : ∀ (n : Nat) (qL2 : Int) (hL2 : Hp), n = ((1000 - qL2)).toNat → (0 ≤ qL2 ∧ qL2 ≤ 20) → (fld hL2 37 0 = fld h 37 0) → zI hL2 → zMR ms114 h hL2 → zwW sc (7) 114 6 [(2, 37), (0, qL2)] [] hL2 (zwRv (fun g => zI g ∧ zMR ms114 h g ∧ (fld g 37 0 = fld h 37 0 + 1))) := by
    intro n
    induction n using Nat.strongRecOn with
    | ind n IHL2 =>
      intro qL2 hL2 hnL2 iL2_0 iL2_1 IhL2 RhL2
      refine zwW_p [(1, 1, 0), (1, 0, 2)] (q := 8) (ls' := [(2, 37), (0, qL2)]) (st' := [(2, 37), (0, qL2)]) (by decide +kernel) rfl ?_
      refine zwW_gs IhL2 (kd := 13) (bn := 2) (n := 97) (t := 0) (lo := 0) (hi := 20) (nx := 11) (by decide +kernel) ?_
      intro v3 ev3 lv3 uv3
      refine zwic_ge (q := 41) (nx := 14) (by decide +kernel) (fun c4 => ?_) (fun c4 => ?_)
      · refine zwW_p [(1, 0, 2)] (q := 42) (ls' := [(2, 37), (0, qL2)]) (st' := [(2, 37)]) (by decide +kernel) rfl ?_
        refine zwW_gs IhL2 (kd := 13) (bn := 0) (n := 97) (t := 0) (lo := 0) (hi := 156) (nx := 45) (by decide +kernel) ?_
        intro v5 ev5 lv5 uv5
        refine zwW_p [(0, 13, 0)] (q := 47) (ls' := [(2, 37), (0, qL2)]) (st' := [(0, 13), (0, v5)]) (by decide +kernel) rfl ?_
        refine zwW_rem (nx := 48) (by decide +kernel) (by omega) (by omega) ?_
        refine zwW_p [(0, 12, 0)] (q := 50) (ls' := [(2, 37), (0, qL2)]) (st' := [(0, 12), (0, (v5 % 13))]) (by decide +kernel) rfl ?_
        refine zwic_ne (q := 57) (nx := 53) (by decide +kernel) (fun c6 => ?_) (fun c6 => ?_)
        · refine zwW_p [(1, 0, 2)] (q := 58) (ls' := [(2, 37), (0, qL2)]) (st' := [(2, 37)]) (by decide +kernel) rfl ?_
          refine zwW_cmv IhL2 (op := 60) (k' := 197) (n := 0) (kd := 13) (m := 97) (nx := 61) (r := 37) (tl := []) (st' := []) (by decide +kernel) rfl (by decide +kernel) rfl (m197 hL2 IhL2) ?_
          rintro h7 ⟨Ih7, Qh7⟩
          have Rh7 : zMR ms114 h h7 := RhL2.tr Qh7 (by decide +kernel)
          have th7_37_0 : fld h7 37 0 = fld hL2 37 0 := Qh7.f (a1 := 37) (a2 := 37) (j1 := 0) (j2 := 1) (by decide +kernel) (by first | decide | exact ⟨by decide, by decide⟩) (by first | decide | exact ⟨by decide, by decide⟩)
          refine zwW_p [(0, 0, 0), (2, 1, 0)] (q := 63) (ls' := [(2, 37), (0, 0)]) (st' := []) (by decide +kernel) rfl ?_
          have L8 : ∀ (n : Nat) (vL8 : Int) (hL8 : Hp), n = ((1000 - vL8)).toNat → (0 ≤ vL8 ∧ vL8 ≤ 8) → (fld hL8 37 0 = fld h 37 0) → zI hL8 → zMR ms114 h hL8 → zwW sc (7) 114 63 [(2, 37), (0, vL8)] [] hL8 (zwRv (fun g => zI g ∧ zMR ms114 h g ∧ (fld g 37 0 = fld h 37 0 + 1))) := by
            intro n
            induction n using Nat.strongRecOn with
            | ind n IHL8 =>
              intro vL8 hL8 hnL8 iL8_0 iL8_1 IhL8 RhL8
              refine zwW_p [(1, 1, 0), (1, 0, 2)] (q := 65) (ls' := [(2, 37), (0, vL8)]) (st' := [(2, 37), (0, vL8)]) (by decide +kernel) rfl ?_
              refine zwW_gs IhL8 (kd := 13) (bn := 1) (n := 97) (t := 0) (lo := 0) (hi := 8) (nx := 68) (by decide +kernel) ?_
              intro v9 ev9 lv9 uv9
              refine zwic_ge (q := 97) (nx := 71) (by decide +kernel) (fun c10 => ?_) (fun c10 => ?_)
              · refine zwW_p [(0, 0, 0), (2, 1, 0)] (q := 99) (ls' := [(2, 37), (0, 0)]) (st' := []) (by decide +kernel) rfl ?_
                have L11 : ∀ (n : Nat) (lL11 : Int) (hL11 : Hp), n = ((1000 - lL11)).toNat → (0 ≤ lL11 ∧ lL11 ≤ 300) → (fld hL11 37 0 = fld h 37 0) → zI hL11 → zMR ms114 h hL11 → zwW sc (7) 114 99 [(2, 37), (0, lL11)] [] hL11 (zwRv (fun g => zI g ∧ zMR ms114 h g ∧ (fld g 37 0 = fld h 37 0 + 1))) := by
                  intro n
                  induction n using Nat.strongRecOn with
                  | ind n IHL11 =>
                    intro lL11 hL11 hnL11 iL11_0 iL11_1 IhL11 RhL11
                    refine zwW_p [(1, 1, 0), (1, 0, 2)] (q := 101) (ls' := [(2, 37), (0, lL11)]) (st' := [(2, 37), (0, lL11)]) (by decide +kernel) rfl ?_
                    refine zwW_gs IhL11 (kd := 13) (bn := 64) (n := 97) (t := 0) (lo := 0) (hi := 300) (nx := 104) (by decide +kernel) ?_
                    intro v12 ev12 lv12 uv12
                    refine zwic_ge (q := 133) (nx := 107) (by decide +kernel) (fun c13 => ?_) (fun c13 => ?_)
                    · refine zwW_p [(1, 0, 2)] (q := 134) (ls' := [(2, 37), (0, lL11)]) (st' := [(2, 37)]) (by decide +kernel) rfl ?_
                      refine zwW_gc IhL11 (kd := 13) (bn := 91) (n := 97) (c := 205) (nx := 137) (by decide +kernel) ?_
                      refine zwW_p [(1, 0, 2)] (q := 138) (ls' := [(2, 37), (0, lL11)]) (st' := [(2, 37), (2, 205)]) (by decide +kernel) rfl ?_
                      refine zwW_gs IhL11 (kd := 13) (bn := 0) (n := 97) (t := 0) (lo := 0) (hi := 156) (nx := 141) (by decide +kernel) ?_
                      intro v14 ev14 lv14 uv14
                      refine zwW_ro IhL11 (a := 205) (n := 156) (kd := 26) (base := 206) (step := 1) (nx := 142) (by decide +kernel) rfl (by first | omega | exact ⟨by omega, by omega⟩) ?_
                      rw [show ((206 : Nat) : Int) + ((1 : Nat) : Int) * v14 = (206 + v14) by omega]
                      refine zwW_p [(0, 3, 0), (1, 0, 2)] (q := 144) (ls' := [(2, 37), (0, lL11)]) (st' := [(2, 37), (0, 3), (2, (206 + v14))]) (by decide +kernel) rfl ?_
                      refine zwW_gs IhL11 (kd := 13) (bn := 69) (n := 97) (t := 0) (lo := -2147483648) (hi := 2147483647) (nx := 147) (by decide +kernel) ?_
                      intro v15 ev15 lv15 uv15
                      refine zwW_as IhL11 (a1 := 206) (a2 := 361) (n := 6) (lo := -2147483648) (hi := 2147483647) (nx := 148) (by decide +kernel) (by first | omega | exact ⟨by omega, by omega⟩) (by first | decide | exact ⟨by decide, by decide⟩) (by first | omega | exact ⟨by omega, by omega⟩) ?_
                      intro h16 eh16 Ih16
                      have th16_37_0 : fld h16 37 0 = fld hL11 37 0 := by rw [eh16]; exact fld_wr (by omega)
                      have Rh16 : zMR ms114 h h16 := RhL11.w (a1 := 206) (a2 := 361) (j1 := 0) (j2 := 6) (by decide +kernel) (by first | omega | exact ⟨by omega, by omega⟩) (by first | decide | exact ⟨by decide, by decide⟩) eh16
                      refine zwW_p [(1, 0, 2)] (q := 149) (ls' := [(2, 37), (0, lL11)]) (st' := [(2, 37)]) (by decide +kernel) rfl ?_
                      refine zwW_gc Ih16 (kd := 13) (bn := 91) (n := 97) (c := 205) (nx := 152) (by decide +kernel) ?_
                      refine zwW_p [(1, 0, 2)] (q := 153) (ls' := [(2, 37), (0, lL11)]) (st' := [(2, 37), (2, 205)]) (by decide +kernel) rfl ?_
                      refine zwW_gs Ih16 (kd := 13) (bn := 0) (n := 97) (t := 0) (lo := 0) (hi := 156) (nx := 156) (by decide +kernel) ?_
                      intro v17 ev17 lv17 uv17
                      refine zwW_ro Ih16 (a := 205) (n := 156) (kd := 26) (base := 206) (step := 1) (nx := 157) (by decide +kernel) rfl (by first | omega | exact ⟨by omega, by omega⟩) ?_
                      rw [show ((206 : Nat) : Int) + ((1 : Nat) : Int) * v17 = (206 + v17) by omega]
                      refine zwW_p [(0, 4, 0), (1, 0, 2)] (q := 159) (ls' := [(2, 37), (0, lL11)]) (st' := [(2, 37), (0, 4), (2, (206 + v17))]) (by decide +kernel) rfl ?_
                      refine zwW_gs Ih16 (kd := 13) (bn := 70) (n := 97) (t := 0) (lo := -2147483648) (hi := 2147483647) (nx := 162) (by decide +kernel) ?_
                      intro v18 ev18 lv18 uv18
                      refine zwW_as Ih16 (a1 := 206) (a2 := 361) (n := 6) (lo := -2147483648) (hi := 2147483647) (nx := 163) (by decide +kernel) (by first | omega | exact ⟨by omega, by omega⟩) (by first | decide | exact ⟨by decide, by decide⟩) (by first | omega | exact ⟨by omega, by omega⟩) ?_
                      intro h19 eh19 Ih19
                      have th19_37_0 : fld h19 37 0 = fld h16 37 0 := by rw [eh19]; exact fld_wr (by omega)
                      have Rh19 : zMR ms114 h h19 := Rh16.w (a1 := 206) (a2 := 361) (j1 := 0) (j2 := 6) (by decide +kernel) (by first | omega | exact ⟨by omega, by omega⟩) (by first | decide | exact ⟨by decide, by decide⟩) eh19
                      refine zwW_p [(1, 0, 2)] (q := 164) (ls' := [(2, 37), (0, lL11)]) (st' := [(2, 37)]) (by decide +kernel) rfl ?_
                      refine zwW_gc Ih19 (kd := 13) (bn := 91) (n := 97) (c := 205) (nx := 167) (by decide +kernel) ?_
                      refine zwW_p [(1, 0, 2)] (q := 168) (ls' := [(2, 37), (0, lL11)]) (st' := [(2, 37), (2, 205)]) (by decide +kernel) rfl ?_
                      refine zwW_gs Ih19 (kd := 13) (bn := 0) (n := 97) (t := 0) (lo := 0) (hi := 156) (nx := 171) (by decide +kernel) ?_
                      intro v20 ev20 lv20 uv20
                      refine zwW_ro Ih19 (a := 205) (n := 156) (kd := 26) (base := 206) (step := 1) (nx := 172) (by decide +kernel) rfl (by first | omega | exact ⟨by omega, by omega⟩) ?_
                      rw [show ((206 : Nat) : Int) + ((1 : Nat) : Int) * v20 = (206 + v20) by omega]
                      refine zwW_p [(0, 5, 0), (1, 0, 2)] (q := 174) (ls' := [(2, 37), (0, lL11)]) (st' := [(2, 37), (0, 5), (2, (206 + v20))]) (by decide +kernel) rfl ?_
                      refine zwW_gs Ih19 (kd := 13) (bn := 71) (n := 97) (t := 0) (lo := -2147483648) (hi := 2147483647) (nx := 177) (by decide +kernel) ?_
                      intro v21 ev21 lv21 uv21
                      refine zwW_as Ih19 (a1 := 206) (a2 := 361) (n := 6) (lo := -2147483648) (hi := 2147483647) (nx := 178) (by decide +kernel) (by first | omega | exact ⟨by omega, by omega⟩) (by first | decide | exact ⟨by decide, by decide⟩) (by first | omega | exact ⟨by omega, by omega⟩) ?_
                      intro h22 eh22 Ih22
                      have th22_37_0 : fld h22 37 0 = fld h19 37 0 := by rw [eh22]; exact fld_wr (by omega)
                      have Rh22 : zMR ms114 h h22 := Rh19.w (a1 := 206) (a2 := 361) (j1 := 0) (j2 := 6) (by decide +kernel) (by first | omega | exact ⟨by omega, by omega⟩) (by first | decide | exact ⟨by decide, by decide⟩) eh22
                      refine zwW_p [(1, 0, 2), (12, 0, 0)] (q := 180) (ls' := [(2, 37), (0, lL11)]) (st' := [(2, 37), (2, 37)]) (by decide +kernel) rfl ?_
                      refine zwW_gs Ih22 (kd := 13) (bn := 0) (n := 97) (t := 0) (lo := 0) (hi := 156) (nx := 183) (by decide +kernel) ?_
                      intro v23 ev23 lv23 uv23
                      refine zwW_p [(0, 1, 0)] (q := 184) (ls' := [(2, 37), (0, lL11)]) (st' := [(0, 1), (0, v23), (2, 37)]) (by decide +kernel) rfl ?_
                      refine zwW_add (nx := 185) (by decide +kernel) (by first | omega | exact ⟨by omega, by omega⟩) ?_
                      refine zwW_ps Ih22 (kd := 13) (bn := 0) (n := 97) (lo := 0) (hi := 156) (nx := 188) (by decide +kernel) (by first | omega | exact ⟨by omega, by omega⟩) ?_
                      intro h24 eh24 Ih24
                      have th24_37_0 : fld h24 37 0 = (v23 + 1) := by rw [eh24]; exact fld_wr_eq (Ih22.s (a1 := 37) (a2 := 37) (k := 13) (n := 97) (by decide +kernel) (by decide) (by decide)) (by decide)
                      have Rh24 : zMR ms114 h h24 := Rh22.w (a1 := 37) (a2 := 37) (j1 := 0) (j2 := 1) (by decide +kernel) (by first | decide | exact ⟨by decide, by decide⟩) (by first | decide | exact ⟨by decide, by decide⟩) eh24
                      refine zwW_p [(0, 0, 0), (2, 1, 0)] (q := 190) (ls' := [(2, 37), (0, 0)]) (st' := []) (by decide +kernel) rfl ?_
                      have L25 : ∀ (n : Nat) (vL25 : Int) (hL25 : Hp), n = ((1000 - vL25)).toNat → (0 ≤ vL25 ∧ vL25 ≤ 8) → (fld hL25 37 0 = fld h 37 0 + 1) → zI hL25 → zMR ms114 h hL25 → zwW sc (7) 114 190 [(2, 37), (0, vL25)] [] hL25 (zwRv (fun g => zI g ∧ zMR ms114 h g ∧ (fld g 37 0 = fld h 37 0 + 1))) := by
                        intro n
                        induction n using Nat.strongRecOn with
                        | ind n IHL25 =>
                          intro vL25 hL25 hnL25 iL25_0 iL25_1 IhL25 RhL25
                          refine zwW_p [(1, 1, 0), (1, 0, 2)] (q := 192) (ls' := [(2, 37), (0, vL25)]) (st' := [(2, 37), (0, vL25)]) (by decide +kernel) rfl ?_
                          refine zwW_gs IhL25 (kd := 13) (bn := 1) (n := 97) (t := 0) (lo := 0) (hi := 8) (nx := 195) (by decide +kernel) ?_
                          intro v26 ev26 lv26 uv26
                          refine zwic_ge (q := 221) (nx := 198) (by decide +kernel) (fun c27 => ?_) (fun c27 => ?_)
                          · refine zwW_p [(0, 0, 0), (2, 1, 0)] (q := 223) (ls' := [(2, 37), (0, 0)]) (st' := []) (by decide +kernel) rfl ?_
                            have L28 : ∀ (n : Nat) (qL28 : Int) (hL28 : Hp), n = ((1000 - qL28)).toNat → (0 ≤ qL28 ∧ qL28 ≤ 20) → (fld hL28 37 0 = fld h 37 0 + 1) → zI hL28 → zMR ms114 h hL28 → zwW sc (7) 114 223 [(2, 37), (0, qL28)] [] hL28 (zwRv (fun g => zI g ∧ zMR ms114 h g ∧ (fld g 37 0 = fld h 37 0 + 1))) := by
                              intro n
                              induction n using Nat.strongRecOn with
                              | ind n IHL28 =>
                                intro qL28 hL28 hnL28 iL28_0 iL28_1 IhL28 RhL28
                                refine zwW_p [(1, 1, 0), (1, 0, 2)] (q := 225) (ls' := [(2, 37), (0, qL28)]) (st' := [(2, 37), (0, qL28)]) (by decide +kernel) rfl ?_
                                refine zwW_gs IhL28 (kd := 13) (bn := 2) (n := 97) (t := 0) (lo := 0) (hi := 20) (nx := 228) (by decide +kernel) ?_
                                intro v29 ev29 lv29 uv29
                                refine zwic_ge (q := 244) (nx := 231) (by decide +kernel) (fun c30 => ?_) (fun c30 => ?_)
                                · refine zwW_retv (nx := 245) (a := 0) (b := 0) (by decide +kernel) ?_
                                  exact ⟨IhL28, RhL28, by omega⟩
                                · refine zwW_p [(1, 0, 2)] (q := 232) (ls' := [(2, 37), (0, qL28)]) (st' := [(2, 37)]) (by decide +kernel) rfl ?_
                                  refine zwW_gc IhL28 (kd := 13) (bn := 33) (n := 97) (c := 92) (nx := 235) (by decide +kernel) ?_
                                  refine zwW_p [(1, 1, 0), (0, 0, 0)] (q := 237) (ls' := [(2, 37), (0, qL28)]) (st' := [(0, 0), (0, qL28), (2, 92)]) (by decide +kernel) rfl ?_
                                  refine zwW_as IhL28 (a1 := 92) (a2 := 92) (n := 20) (lo := -2147483648) (hi := 2147483647) (nx := 238) (by decide +kernel) (by first | decide | exact ⟨by decide, by decide⟩) (by first | omega | exact ⟨by omega, by omega⟩) (by first | decide | exact ⟨by decide, by decide⟩) ?_
                                  intro h31 eh31 Ih31
                                  have th31_37_0 : fld h31 37 0 = fld hL28 37 0 := by rw [eh31]; exact fld_wr (by omega)
                                  have Rh31 : zMR ms114 h h31 := RhL28.w (a1 := 92) (a2 := 92) (j1 := 0) (j2 := 20) (by decide +kernel) (by first | decide | exact ⟨by decide, by decide⟩) (by first | omega | exact ⟨by omega, by omega⟩) eh31
                                  refine zwW_inc (i := 1) (c := 1) (x := qL28) (nx := 241) (by decide +kernel) rfl (by first | omega | exact ⟨by omega, by omega⟩) (ls' := [(2, 37), (0, (qL28 + 1))]) rfl ?_
                                  refine zwW_p [(24, 223, 0)] (q := 223) (ls' := [(2, 37), (0, (qL28 + 1))]) (st' := []) (by decide +kernel) rfl ?_
                                  exact IHL28 ((1000 - (qL28 + 1))).toNat (by omega) (qL28 + 1) h31 rfl (by omega) (by omega) Ih31 Rh31
                            exact L28 _ 0 hL25 rfl (by omega) (by omega) IhL25 RhL25
                          · refine zwW_p [(1, 0, 2)] (q := 199) (ls' := [(2, 37), (0, vL25)]) (st' := [(2, 37)]) (by decide +kernel) rfl ?_
                            refine zwW_gc IhL25 (kd := 13) (bn := 5) (n := 97) (c := 56) (nx := 202) (by decide +kernel) ?_
                            refine zwW_p [(1, 1, 0)] (q := 203) (ls' := [(2, 37), (0, vL25)]) (st' := [(0, vL25), (2, 56)]) (by decide +kernel) rfl ?_
                            refine zwW_ro IhL25 (a := 56) (n := 8) (kd := 26) (base := 57) (step := 1) (nx := 204) (by decide +kernel) rfl (by first | omega | exact ⟨by omega, by omega⟩) ?_
                            rw [show ((57 : Nat) : Int) + ((1 : Nat) : Int) * vL25 = (57 + vL25) by omega]
                            refine zwW_p [(1, 0, 2)] (q := 205) (ls' := [(2, 37), (0, vL25)]) (st' := [(2, 37), (2, (57 + vL25))]) (by decide +kernel) rfl ?_
                            refine zwW_gs IhL25 (kd := 13) (bn := 0) (n := 97) (t := 0) (lo := 0) (hi := 156) (nx := 208) (by decide +kernel) ?_
                            intro v32 ev32 lv32 uv32
                            refine zwW_p [(1, 0, 2)] (q := 209) (ls' := [(2, 37), (0, vL25)]) (st' := [(2, 37), (0, v32), (2, (57 + vL25))]) (by decide +kernel) rfl ?_
                            refine zwW_gc IhL25 (kd := 13) (bn := 12) (n := 97) (c := 71) (nx := 212) (by decide +kernel) ?_
                            refine zwW_p [(1, 1, 0)] (q := 213) (ls' := [(2, 37), (0, vL25)]) (st' := [(0, vL25), (2, 71), (0, v32), (2, (57 + vL25))]) (by decide +kernel) rfl ?_
                            refine zwW_al IhL25 (a1 := 71) (a2 := 71) (kd := 20) (n := 8) (t := 0) (lo := -2147483648) (hi := 2147483647) (nx := 214) (by decide +kernel) (by first | decide | exact ⟨by decide, by decide⟩) (by first | omega | exact ⟨by omega, by omega⟩) ?_
                            intro v33 ev33 lv33 uv33
                            refine zwW_as IhL25 (a1 := 57) (a2 := 64) (n := 157) (lo := -2147483648) (hi := 2147483647) (nx := 215) (by decide +kernel) (by first | omega | exact ⟨by omega, by omega⟩) (by first | omega | exact ⟨by omega, by omega⟩) (by first | omega | exact ⟨by omega, by omega⟩) ?_
                            intro h34 eh34 Ih34
                            have th34_37_0 : fld h34 37 0 = fld hL25 37 0 := by rw [eh34]; exact fld_wr (by omega)
                            have Rh34 : zMR ms114 h h34 := RhL25.w (a1 := 57) (a2 := 64) (j1 := 0) (j2 := 157) (by decide +kernel) (by first | omega | exact ⟨by omega, by omega⟩) (by first | omega | exact ⟨by omega, by omega⟩) eh34
                            refine zwW_inc (i := 1) (c := 1) (x := vL25) (nx := 218) (by decide +kernel) rfl (by first | omega | exact ⟨by omega, by omega⟩) (ls' := [(2, 37), (0, (vL25 + 1))]) rfl ?_
                            refine zwW_p [(24, 190, 0)] (q := 190) (ls' := [(2, 37), (0, (vL25 + 1))]) (st' := []) (by decide +kernel) rfl ?_
                            exact IHL25 ((1000 - (vL25 + 1))).toNat (by omega) (vL25 + 1) h34 rfl (by omega) (by omega) Ih34 Rh34
                      exact L25 _ 0 h24 rfl (by omega) (by omega) Ih24 Rh24
                    · refine zwW_p [(1, 0, 2)] (q := 108) (ls' := [(2, 37), (0, lL11)]) (st' := [(2, 37)]) (by decide +kernel) rfl ?_
                      refine zwW_gc IhL11 (kd := 13) (bn := 91) (n := 97) (c := 205) (nx := 111) (by decide +kernel) ?_
                      refine zwW_p [(1, 0, 2)] (q := 112) (ls' := [(2, 37), (0, lL11)]) (st' := [(2, 37), (2, 205)]) (by decide +kernel) rfl ?_
                      refine zwW_gs IhL11 (kd := 13) (bn := 0) (n := 97) (t := 0) (lo := 0) (hi := 156) (nx := 115) (by decide +kernel) ?_
                      intro v35 ev35 lv35 uv35
                      refine zwW_ro IhL11 (a := 205) (n := 156) (kd := 26) (base := 206) (step := 1) (nx := 116) (by decide +kernel) rfl (by first | omega | exact ⟨by omega, by omega⟩) ?_
                      rw [show ((206 : Nat) : Int) + ((1 : Nat) : Int) * v35 = (206 + v35) by omega]
                      refine zwW_p [(0, 2, 0), (14, 0, 0)] (q := 118) (ls' := [(2, 37), (0, lL11)]) (st' := [(0, 2), (2, (206 + v35)), (0, 2), (2, (206 + v35))]) (by decide +kernel) rfl ?_
                      refine zwW_al IhL11 (a1 := 206) (a2 := 361) (kd := 20) (n := 6) (t := 0) (lo := -2147483648) (hi := 2147483647) (nx := 119) (by decide +kernel) (by first | omega | exact ⟨by omega, by omega⟩) (by first | decide | exact ⟨by decide, by decide⟩) ?_
                      intro v36 ev36 lv36 uv36
                      refine zwW_p [(1, 0, 2)] (q := 120) (ls' := [(2, 37), (0, lL11)]) (st' := [(2, 37), (0, v36), (0, 2), (2, (206 + v35))]) (by decide +kernel) rfl ?_
                      refine zwW_gc IhL11 (kd := 13) (bn := 63) (n := 97) (c := 175) (nx := 123) (by decide +kernel) ?_
                      refine zwW_p [(1, 1, 0)] (q := 124) (ls' := [(2, 37), (0, lL11)]) (st' := [(0, lL11), (2, 175), (0, v36), (0, 2), (2, (206 + v35))]) (by decide +kernel) rfl ?_
                      refine zwW_al IhL11 (a1 := 175) (a2 := 175) (kd := 20) (n := 300) (t := 0) (lo := -2147483648) (hi := 2147483647) (nx := 125) (by decide +kernel) (by first | decide | exact ⟨by decide, by decide⟩) (by first | omega | exact ⟨by omega, by omega⟩) ?_
                      intro v37 ev37 lv37 uv37
                      refine zwW_adw (nx := 126) (by decide +kernel) ?_
                      intro v38 ev38 lv38 uv38
                      refine zwW_as IhL11 (a1 := 206) (a2 := 361) (n := 6) (lo := -2147483648) (hi := 2147483647) (nx := 127) (by decide +kernel) (by first | omega | exact ⟨by omega, by omega⟩) (by first | decide | exact ⟨by decide, by decide⟩) (by first | omega | exact ⟨by omega, by omega⟩) ?_
                      intro h39 eh39 Ih39
                      have th39_37_0 : fld h39 37 0 = fld hL11 37 0 := by rw [eh39]; exact fld_wr (by omega)
                      have Rh39 : zMR ms114 h h39 := RhL11.w (a1 := 206) (a2 := 361) (j1 := 0) (j2 := 6) (by decide +kernel) (by first | omega | exact ⟨by omega, by omega⟩) (by first | decide | exact ⟨by decide, by decide⟩) eh39
                      refine zwW_inc (i := 1) (c := 1) (x := lL11) (nx := 130) (by decide +kernel) rfl (by first | omega | exact ⟨by omega, by omega⟩) (ls' := [(2, 37), (0, (lL11 + 1))]) rfl ?_
                      refine zwW_p [(24, 99, 0)] (q := 99) (ls' := [(2, 37), (0, (lL11 + 1))]) (st' := []) (by decide +kernel) rfl ?_
                      exact IHL11 ((1000 - (lL11 + 1))).toNat (by omega) (lL11 + 1) h39 rfl (by omega) (by omega) Ih39 Rh39
                exact L11 _ 0 hL8 rfl (by omega) (by omega) IhL8 RhL8
              · refine zwW_p [(1, 0, 2)] (q := 72) (ls' := [(2, 37), (0, vL8)]) (st' := [(2, 37)]) (by decide +kernel) rfl ?_
                refine zwW_gc IhL8 (kd := 13) (bn := 91) (n := 97) (c := 205) (nx := 75) (by decide +kernel) ?_
                refine zwW_p [(1, 0, 2)] (q := 76) (ls' := [(2, 37), (0, vL8)]) (st' := [(2, 37), (2, 205)]) (by decide +kernel) rfl ?_
                refine zwW_gs IhL8 (kd := 13) (bn := 0) (n := 97) (t := 0) (lo := 0) (hi := 156) (nx := 79) (by decide +kernel) ?_
                intro v40 ev40 lv40 uv40
                refine zwW_ro IhL8 (a := 205) (n := 156) (kd := 26) (base := 206) (step := 1) (nx := 80) (by decide +kernel) rfl (by first | omega | exact ⟨by omega, by omega⟩) ?_
                rw [show ((206 : Nat) : Int) + ((1 : Nat) : Int) * v40 = (206 + v40) by omega]
                refine zwW_p [(0, 0, 0), (14, 0, 0)] (q := 82) (ls' := [(2, 37), (0, vL8)]) (st' := [(0, 0), (2, (206 + v40)), (0, 0), (2, (206 + v40))]) (by decide +kernel) rfl ?_
                refine zwW_al IhL8 (a1 := 206) (a2 := 361) (kd := 20) (n := 6) (t := 0) (lo := -2147483648) (hi := 2147483647) (nx := 83) (by decide +kernel) (by first | omega | exact ⟨by omega, by omega⟩) (by first | decide | exact ⟨by decide, by decide⟩) ?_
                intro v41 ev41 lv41 uv41
                refine zwW_p [(1, 0, 2)] (q := 84) (ls' := [(2, 37), (0, vL8)]) (st' := [(2, 37), (0, v41), (0, 0), (2, (206 + v40))]) (by decide +kernel) rfl ?_
                refine zwW_gc IhL8 (kd := 13) (bn := 7) (n := 97) (c := 66) (nx := 87) (by decide +kernel) ?_
                refine zwW_p [(1, 1, 0)] (q := 88) (ls' := [(2, 37), (0, vL8)]) (st' := [(0, vL8), (2, 66), (0, v41), (0, 0), (2, (206 + v40))]) (by decide +kernel) rfl ?_
                refine zwW_al IhL8 (a1 := 66) (a2 := 66) (kd := 20) (n := 8) (t := 0) (lo := -2147483648) (hi := 2147483647) (nx := 89) (by decide +kernel) (by first | decide | exact ⟨by decide, by decide⟩) (by first | omega | exact ⟨by omega, by omega⟩) ?_
                intro v42 ev42 lv42 uv42
                refine zwW_adw (nx := 90) (by decide +kernel) ?_
                intro v43 ev43 lv43 uv43
                refine zwW_as IhL8 (a1 := 206) (a2 := 361) (n := 6) (lo := -2147483648) (hi := 2147483647) (nx := 91) (by decide +kernel) (by first | omega | exact ⟨by omega, by omega⟩) (by first | decide | exact ⟨by decide, by decide⟩) (by first | omega | exact ⟨by omega, by omega⟩) ?_
                intro h44 eh44 Ih44
                have th44_37_0 : fld h44 37 0 = fld hL8 37 0 := by rw [eh44]; exact fld_wr (by omega)
                have Rh44 : zMR ms114 h h44 := RhL8.w (a1 := 206) (a2 := 361) (j1 := 0) (j2 := 6) (by decide +kernel) (by first | omega | exact ⟨by omega, by omega⟩) (by first | decide | exact ⟨by decide, by decide⟩) eh44
                refine zwW_inc (i := 1) (c := 1) (x := vL8) (nx := 94) (by decide +kernel) rfl (by first | omega | exact ⟨by omega, by omega⟩) (ls' := [(2, 37), (0, (vL8 + 1))]) rfl ?_
                refine zwW_p [(24, 63, 0)] (q := 63) (ls' := [(2, 37), (0, (vL8 + 1))]) (st' := []) (by decide +kernel) rfl ?_
                exact IHL8 ((1000 - (vL8 + 1))).toNat (by omega) (vL8 + 1) h44 rfl (by omega) (by omega) Ih44 Rh44
          exact L8 _ 0 h7 rfl (by omega) (by omega) Ih7 Rh7
        · refine zwW_p [(1, 0, 2)] (q := 54) (ls' := [(2, 37), (0, qL2)]) (st' := [(2, 37)]) (by decide +kernel) rfl ?_
          refine zwW_cmv IhL2 (op := 60) (k' := 196) (n := 0) (kd := 13) (m := 97) (nx := 57) (r := 37) (tl := []) (st' := []) (by decide +kernel) rfl (by decide +kernel) rfl (m196 hL2 IhL2 (hW.mr I RhL2 (by decide +kernel))) ?_
          rintro h45 ⟨Ih45, Qh45⟩
          have Rh45 : zMR ms114 h h45 := RhL2.tr Qh45 (by decide +kernel)
          have th45_37_0 : fld h45 37 0 = fld hL2 37 0 := Qh45.f (a1 := 37) (a2 := 37) (j1 := 0) (j2 := 1) (by decide +kernel) (by first | decide | exact ⟨by decide, by decide⟩) (by first | decide | exact ⟨by decide, by decide⟩)
          refine zwW_p [(1, 0, 2)] (q := 58) (ls' := [(2, 37), (0, qL2)]) (st' := [(2, 37)]) (by decide +kernel) rfl ?_
          refine zwW_cmv Ih45 (op := 60) (k' := 197) (n := 0) (kd := 13) (m := 97) (nx := 61) (r := 37) (tl := []) (st' := []) (by decide +kernel) rfl (by decide +kernel) rfl (m197 h45 Ih45) ?_
          rintro h46 ⟨Ih46, Qh46⟩
          have Rh46 : zMR ms114 h h46 := Rh45.tr Qh46 (by decide +kernel)
          have th46_37_0 : fld h46 37 0 = fld h45 37 0 := Qh46.f (a1 := 37) (a2 := 37) (j1 := 0) (j2 := 1) (by decide +kernel) (by first | decide | exact ⟨by decide, by decide⟩) (by first | decide | exact ⟨by decide, by decide⟩)
          refine zwW_p [(0, 0, 0), (2, 1, 0)] (q := 63) (ls' := [(2, 37), (0, 0)]) (st' := []) (by decide +kernel) rfl ?_
          have L47 : ∀ (n : Nat) (vL47 : Int) (hL47 : Hp), n = ((1000 - vL47)).toNat → (0 ≤ vL47 ∧ vL47 ≤ 8) → (fld hL47 37 0 = fld h 37 0) → zI hL47 → zMR ms114 h hL47 → zwW sc (7) 114 63 [(2, 37), (0, vL47)] [] hL47 (zwRv (fun g => zI g ∧ zMR ms114 h g ∧ (fld g 37 0 = fld h 37 0 + 1))) := by
            intro n
            induction n using Nat.strongRecOn with
            | ind n IHL47 =>
              intro vL47 hL47 hnL47 iL47_0 iL47_1 IhL47 RhL47
              refine zwW_p [(1, 1, 0), (1, 0, 2)] (q := 65) (ls' := [(2, 37), (0, vL47)]) (st' := [(2, 37), (0, vL47)]) (by decide +kernel) rfl ?_
              refine zwW_gs IhL47 (kd := 13) (bn := 1) (n := 97) (t := 0) (lo := 0) (hi := 8) (nx := 68) (by decide +kernel) ?_
              intro v48 ev48 lv48 uv48
              refine zwic_ge (q := 97) (nx := 71) (by decide +kernel) (fun c49 => ?_) (fun c49 => ?_)
              · refine zwW_p [(0, 0, 0), (2, 1, 0)] (q := 99) (ls' := [(2, 37), (0, 0)]) (st' := []) (by decide +kernel) rfl ?_
                have L50 : ∀ (n : Nat) (lL50 : Int) (hL50 : Hp), n = ((1000 - lL50)).toNat → (0 ≤ lL50 ∧ lL50 ≤ 300) → (fld hL50 37 0 = fld h 37 0) → zI hL50 → zMR ms114 h hL50 → zwW sc (7) 114 99 [(2, 37), (0, lL50)] [] hL50 (zwRv (fun g => zI g ∧ zMR ms114 h g ∧ (fld g 37 0 = fld h 37 0 + 1))) := by
                  intro n
                  induction n using Nat.strongRecOn with
                  | ind n IHL50 =>
                    intro lL50 hL50 hnL50 iL50_0 iL50_1 IhL50 RhL50
                    refine zwW_p [(1, 1, 0), (1, 0, 2)] (q := 101) (ls' := [(2, 37), (0, lL50)]) (st' := [(2, 37), (0, lL50)]) (by decide +kernel) rfl ?_
                    refine zwW_gs IhL50 (kd := 13) (bn := 64) (n := 97) (t := 0) (lo := 0) (hi := 300) (nx := 104) (by decide +kernel) ?_
                    intro v51 ev51 lv51 uv51
                    refine zwic_ge (q := 133) (nx := 107) (by decide +kernel) (fun c52 => ?_) (fun c52 => ?_)
                    · refine zwW_p [(1, 0, 2)] (q := 134) (ls' := [(2, 37), (0, lL50)]) (st' := [(2, 37)]) (by decide +kernel) rfl ?_
                      refine zwW_gc IhL50 (kd := 13) (bn := 91) (n := 97) (c := 205) (nx := 137) (by decide +kernel) ?_
                      refine zwW_p [(1, 0, 2)] (q := 138) (ls' := [(2, 37), (0, lL50)]) (st' := [(2, 37), (2, 205)]) (by decide +kernel) rfl ?_
                      refine zwW_gs IhL50 (kd := 13) (bn := 0) (n := 97) (t := 0) (lo := 0) (hi := 156) (nx := 141) (by decide +kernel) ?_
                      intro v53 ev53 lv53 uv53
                      refine zwW_ro IhL50 (a := 205) (n := 156) (kd := 26) (base := 206) (step := 1) (nx := 142) (by decide +kernel) rfl (by first | omega | exact ⟨by omega, by omega⟩) ?_
                      rw [show ((206 : Nat) : Int) + ((1 : Nat) : Int) * v53 = (206 + v53) by omega]
                      refine zwW_p [(0, 3, 0), (1, 0, 2)] (q := 144) (ls' := [(2, 37), (0, lL50)]) (st' := [(2, 37), (0, 3), (2, (206 + v53))]) (by decide +kernel) rfl ?_
                      refine zwW_gs IhL50 (kd := 13) (bn := 69) (n := 97) (t := 0) (lo := -2147483648) (hi := 2147483647) (nx := 147) (by decide +kernel) ?_
                      intro v54 ev54 lv54 uv54
                      refine zwW_as IhL50 (a1 := 206) (a2 := 361) (n := 6) (lo := -2147483648) (hi := 2147483647) (nx := 148) (by decide +kernel) (by first | omega | exact ⟨by omega, by omega⟩) (by first | decide | exact ⟨by decide, by decide⟩) (by first | omega | exact ⟨by omega, by omega⟩) ?_
                      intro h55 eh55 Ih55
                      have th55_37_0 : fld h55 37 0 = fld hL50 37 0 := by rw [eh55]; exact fld_wr (by omega)
                      have Rh55 : zMR ms114 h h55 := RhL50.w (a1 := 206) (a2 := 361) (j1 := 0) (j2 := 6) (by decide +kernel) (by first | omega | exact ⟨by omega, by omega⟩) (by first | decide | exact ⟨by decide, by decide⟩) eh55
                      refine zwW_p [(1, 0, 2)] (q := 149) (ls' := [(2, 37), (0, lL50)]) (st' := [(2, 37)]) (by decide +kernel) rfl ?_
                      refine zwW_gc Ih55 (kd := 13) (bn := 91) (n := 97) (c := 205) (nx := 152) (by decide +kernel) ?_
                      refine zwW_p [(1, 0, 2)] (q := 153) (ls' := [(2, 37), (0, lL50)]) (st' := [(2, 37), (2, 205)]) (by decide +kernel) rfl ?_
                      refine zwW_gs Ih55 (kd := 13) (bn := 0) (n := 97) (t := 0) (lo := 0) (hi := 156) (nx := 156) (by decide +kernel) ?_
                      intro v56 ev56 lv56 uv56
                      refine zwW_ro Ih55 (a := 205) (n := 156) (kd := 26) (base := 206) (step := 1) (nx := 157) (by decide +kernel) rfl (by first | omega | exact ⟨by omega, by omega⟩) ?_
                      rw [show ((206 : Nat) : Int) + ((1 : Nat) : Int) * v56 = (206 + v56) by omega]
                      refine zwW_p [(0, 4, 0), (1, 0, 2)] (q := 159) (ls' := [(2, 37), (0, lL50)]) (st' := [(2, 37), (0, 4), (2, (206 + v56))]) (by decide +kernel) rfl ?_
                      refine zwW_gs Ih55 (kd := 13) (bn := 70) (n := 97) (t := 0) (lo := -2147483648) (hi := 2147483647) (nx := 162) (by decide +kernel) ?_
                      intro v57 ev57 lv57 uv57
                      refine zwW_as Ih55 (a1 := 206) (a2 := 361) (n := 6) (lo := -2147483648) (hi := 2147483647) (nx := 163) (by decide +kernel) (by first | omega | exact ⟨by omega, by omega⟩) (by first | decide | exact ⟨by decide, by decide⟩) (by first | omega | exact ⟨by omega, by omega⟩) ?_
                      intro h58 eh58 Ih58
                      have th58_37_0 : fld h58 37 0 = fld h55 37 0 := by rw [eh58]; exact fld_wr (by omega)
                      have Rh58 : zMR ms114 h h58 := Rh55.w (a1 := 206) (a2 := 361) (j1 := 0) (j2 := 6) (by decide +kernel) (by first | omega | exact ⟨by omega, by omega⟩) (by first | decide | exact ⟨by decide, by decide⟩) eh58
                      refine zwW_p [(1, 0, 2)] (q := 164) (ls' := [(2, 37), (0, lL50)]) (st' := [(2, 37)]) (by decide +kernel) rfl ?_
                      refine zwW_gc Ih58 (kd := 13) (bn := 91) (n := 97) (c := 205) (nx := 167) (by decide +kernel) ?_
                      refine zwW_p [(1, 0, 2)] (q := 168) (ls' := [(2, 37), (0, lL50)]) (st' := [(2, 37), (2, 205)]) (by decide +kernel) rfl ?_
                      refine zwW_gs Ih58 (kd := 13) (bn := 0) (n := 97) (t := 0) (lo := 0) (hi := 156) (nx := 171) (by decide +kernel) ?_
                      intro v59 ev59 lv59 uv59
                      refine zwW_ro Ih58 (a := 205) (n := 156) (kd := 26) (base := 206) (step := 1) (nx := 172) (by decide +kernel) rfl (by first | omega | exact ⟨by omega, by omega⟩) ?_
                      rw [show ((206 : Nat) : Int) + ((1 : Nat) : Int) * v59 = (206 + v59) by omega]
                      refine zwW_p [(0, 5, 0), (1, 0, 2)] (q := 174) (ls' := [(2, 37), (0, lL50)]) (st' := [(2, 37), (0, 5), (2, (206 + v59))]) (by decide +kernel) rfl ?_
                      refine zwW_gs Ih58 (kd := 13) (bn := 71) (n := 97) (t := 0) (lo := -2147483648) (hi := 2147483647) (nx := 177) (by decide +kernel) ?_
                      intro v60 ev60 lv60 uv60
                      refine zwW_as Ih58 (a1 := 206) (a2 := 361) (n := 6) (lo := -2147483648) (hi := 2147483647) (nx := 178) (by decide +kernel) (by first | omega | exact ⟨by omega, by omega⟩) (by first | decide | exact ⟨by decide, by decide⟩) (by first | omega | exact ⟨by omega, by omega⟩) ?_
                      intro h61 eh61 Ih61
                      have th61_37_0 : fld h61 37 0 = fld h58 37 0 := by rw [eh61]; exact fld_wr (by omega)
                      have Rh61 : zMR ms114 h h61 := Rh58.w (a1 := 206) (a2 := 361) (j1 := 0) (j2 := 6) (by decide +kernel) (by first | omega | exact ⟨by omega, by omega⟩) (by first | decide | exact ⟨by decide, by decide⟩) eh61
                      refine zwW_p [(1, 0, 2), (12, 0, 0)] (q := 180) (ls' := [(2, 37), (0, lL50)]) (st' := [(2, 37), (2, 37)]) (by decide +kernel) rfl ?_
                      refine zwW_gs Ih61 (kd := 13) (bn := 0) (n := 97) (t := 0) (lo := 0) (hi := 156) (nx := 183) (by decide +kernel) ?_
                      intro v62 ev62 lv62 uv62
                      refine zwW_p [(0, 1, 0)] (q := 184) (ls' := [(2, 37), (0, lL50)]) (st' := [(0, 1), (0, v62), (2, 37)]) (by decide +kernel) rfl ?_
                      refine zwW_add (nx := 185) (by decide +kernel) (by first | omega | exact ⟨by omega, by omega⟩) ?_
                      refine zwW_ps Ih61 (kd := 13) (bn := 0) (n := 97) (lo := 0) (hi := 156) (nx := 188) (by decide +kernel) (by first | omega | exact ⟨by omega, by omega⟩) ?_
                      intro h63 eh63 Ih63
                      have th63_37_0 : fld h63 37 0 = (v62 + 1) := by rw [eh63]; exact fld_wr_eq (Ih61.s (a1 := 37) (a2 := 37) (k := 13) (n := 97) (by decide +kernel) (by decide) (by decide)) (by decide)
                      have Rh63 : zMR ms114 h h63 := Rh61.w (a1 := 37) (a2 := 37) (j1 := 0) (j2 := 1) (by decide +kernel) (by first | decide | exact ⟨by decide, by decide⟩) (by first | decide | exact ⟨by decide, by decide⟩) eh63
                      refine zwW_p [(0, 0, 0), (2, 1, 0)] (q := 190) (ls' := [(2, 37), (0, 0)]) (st' := []) (by decide +kernel) rfl ?_
                      have L64 : ∀ (n : Nat) (vL64 : Int) (hL64 : Hp), n = ((1000 - vL64)).toNat → (0 ≤ vL64 ∧ vL64 ≤ 8) → (fld hL64 37 0 = fld h 37 0 + 1) → zI hL64 → zMR ms114 h hL64 → zwW sc (7) 114 190 [(2, 37), (0, vL64)] [] hL64 (zwRv (fun g => zI g ∧ zMR ms114 h g ∧ (fld g 37 0 = fld h 37 0 + 1))) := by
                        intro n
                        induction n using Nat.strongRecOn with
                        | ind n IHL64 =>
                          intro vL64 hL64 hnL64 iL64_0 iL64_1 IhL64 RhL64
                          refine zwW_p [(1, 1, 0), (1, 0, 2)] (q := 192) (ls' := [(2, 37), (0, vL64)]) (st' := [(2, 37), (0, vL64)]) (by decide +kernel) rfl ?_
                          refine zwW_gs IhL64 (kd := 13) (bn := 1) (n := 97) (t := 0) (lo := 0) (hi := 8) (nx := 195) (by decide +kernel) ?_
                          intro v65 ev65 lv65 uv65
                          refine zwic_ge (q := 221) (nx := 198) (by decide +kernel) (fun c66 => ?_) (fun c66 => ?_)
                          · refine zwW_p [(0, 0, 0), (2, 1, 0)] (q := 223) (ls' := [(2, 37), (0, 0)]) (st' := []) (by decide +kernel) rfl ?_
                            have L67 : ∀ (n : Nat) (qL67 : Int) (hL67 : Hp), n = ((1000 - qL67)).toNat → (0 ≤ qL67 ∧ qL67 ≤ 20) → (fld hL67 37 0 = fld h 37 0 + 1) → zI hL67 → zMR ms114 h hL67 → zwW sc (7) 114 223 [(2, 37), (0, qL67)] [] hL67 (zwRv (fun g => zI g ∧ zMR ms114 h g ∧ (fld g 37 0 = fld h 37 0 + 1))) := by
                              intro n
                              induction n using Nat.strongRecOn with
                              | ind n IHL67 =>
                                intro qL67 hL67 hnL67 iL67_0 iL67_1 IhL67 RhL67
                                refine zwW_p [(1, 1, 0), (1, 0, 2)] (q := 225) (ls' := [(2, 37), (0, qL67)]) (st' := [(2, 37), (0, qL67)]) (by decide +kernel) rfl ?_
                                refine zwW_gs IhL67 (kd := 13) (bn := 2) (n := 97) (t := 0) (lo := 0) (hi := 20) (nx := 228) (by decide +kernel) ?_
                                intro v68 ev68 lv68 uv68
                                refine zwic_ge (q := 244) (nx := 231) (by decide +kernel) (fun c69 => ?_) (fun c69 => ?_)
                                · refine zwW_retv (nx := 245) (a := 0) (b := 0) (by decide +kernel) ?_
                                  exact ⟨IhL67, RhL67, by omega⟩
                                · refine zwW_p [(1, 0, 2)] (q := 232) (ls' := [(2, 37), (0, qL67)]) (st' := [(2, 37)]) (by decide +kernel) rfl ?_
                                  refine zwW_gc IhL67 (kd := 13) (bn := 33) (n := 97) (c := 92) (nx := 235) (by decide +kernel) ?_
                                  refine zwW_p [(1, 1, 0), (0, 0, 0)] (q := 237) (ls' := [(2, 37), (0, qL67)]) (st' := [(0, 0), (0, qL67), (2, 92)]) (by decide +kernel) rfl ?_
                                  refine zwW_as IhL67 (a1 := 92) (a2 := 92) (n := 20) (lo := -2147483648) (hi := 2147483647) (nx := 238) (by decide +kernel) (by first | decide | exact ⟨by decide, by decide⟩) (by first | omega | exact ⟨by omega, by omega⟩) (by first | decide | exact ⟨by decide, by decide⟩) ?_
                                  intro h70 eh70 Ih70
                                  have th70_37_0 : fld h70 37 0 = fld hL67 37 0 := by rw [eh70]; exact fld_wr (by omega)
                                  have Rh70 : zMR ms114 h h70 := RhL67.w (a1 := 92) (a2 := 92) (j1 := 0) (j2 := 20) (by decide +kernel) (by first | decide | exact ⟨by decide, by decide⟩) (by first | omega | exact ⟨by omega, by omega⟩) eh70
                                  refine zwW_inc (i := 1) (c := 1) (x := qL67) (nx := 241) (by decide +kernel) rfl (by first | omega | exact ⟨by omega, by omega⟩) (ls' := [(2, 37), (0, (qL67 + 1))]) rfl ?_
                                  refine zwW_p [(24, 223, 0)] (q := 223) (ls' := [(2, 37), (0, (qL67 + 1))]) (st' := []) (by decide +kernel) rfl ?_
                                  exact IHL67 ((1000 - (qL67 + 1))).toNat (by omega) (qL67 + 1) h70 rfl (by omega) (by omega) Ih70 Rh70
                            exact L67 _ 0 hL64 rfl (by omega) (by omega) IhL64 RhL64
                          · refine zwW_p [(1, 0, 2)] (q := 199) (ls' := [(2, 37), (0, vL64)]) (st' := [(2, 37)]) (by decide +kernel) rfl ?_
                            refine zwW_gc IhL64 (kd := 13) (bn := 5) (n := 97) (c := 56) (nx := 202) (by decide +kernel) ?_
                            refine zwW_p [(1, 1, 0)] (q := 203) (ls' := [(2, 37), (0, vL64)]) (st' := [(0, vL64), (2, 56)]) (by decide +kernel) rfl ?_
                            refine zwW_ro IhL64 (a := 56) (n := 8) (kd := 26) (base := 57) (step := 1) (nx := 204) (by decide +kernel) rfl (by first | omega | exact ⟨by omega, by omega⟩) ?_
                            rw [show ((57 : Nat) : Int) + ((1 : Nat) : Int) * vL64 = (57 + vL64) by omega]
                            refine zwW_p [(1, 0, 2)] (q := 205) (ls' := [(2, 37), (0, vL64)]) (st' := [(2, 37), (2, (57 + vL64))]) (by decide +kernel) rfl ?_
                            refine zwW_gs IhL64 (kd := 13) (bn := 0) (n := 97) (t := 0) (lo := 0) (hi := 156) (nx := 208) (by decide +kernel) ?_
                            intro v71 ev71 lv71 uv71
                            refine zwW_p [(1, 0, 2)] (q := 209) (ls' := [(2, 37), (0, vL64)]) (st' := [(2, 37), (0, v71), (2, (57 + vL64))]) (by decide +kernel) rfl ?_
                            refine zwW_gc IhL64 (kd := 13) (bn := 12) (n := 97) (c := 71) (nx := 212) (by decide +kernel) ?_
                            refine zwW_p [(1, 1, 0)] (q := 213) (ls' := [(2, 37), (0, vL64)]) (st' := [(0, vL64), (2, 71), (0, v71), (2, (57 + vL64))]) (by decide +kernel) rfl ?_
                            refine zwW_al IhL64 (a1 := 71) (a2 := 71) (kd := 20) (n := 8) (t := 0) (lo := -2147483648) (hi := 2147483647) (nx := 214) (by decide +kernel) (by first | decide | exact ⟨by decide, by decide⟩) (by first | omega | exact ⟨by omega, by omega⟩) ?_
                            intro v72 ev72 lv72 uv72
                            refine zwW_as IhL64 (a1 := 57) (a2 := 64) (n := 157) (lo := -2147483648) (hi := 2147483647) (nx := 215) (by decide +kernel) (by first | omega | exact ⟨by omega, by omega⟩) (by first | omega | exact ⟨by omega, by omega⟩) (by first | omega | exact ⟨by omega, by omega⟩) ?_
                            intro h73 eh73 Ih73
                            have th73_37_0 : fld h73 37 0 = fld hL64 37 0 := by rw [eh73]; exact fld_wr (by omega)
                            have Rh73 : zMR ms114 h h73 := RhL64.w (a1 := 57) (a2 := 64) (j1 := 0) (j2 := 157) (by decide +kernel) (by first | omega | exact ⟨by omega, by omega⟩) (by first | omega | exact ⟨by omega, by omega⟩) eh73
                            refine zwW_inc (i := 1) (c := 1) (x := vL64) (nx := 218) (by decide +kernel) rfl (by first | omega | exact ⟨by omega, by omega⟩) (ls' := [(2, 37), (0, (vL64 + 1))]) rfl ?_
                            refine zwW_p [(24, 190, 0)] (q := 190) (ls' := [(2, 37), (0, (vL64 + 1))]) (st' := []) (by decide +kernel) rfl ?_
                            exact IHL64 ((1000 - (vL64 + 1))).toNat (by omega) (vL64 + 1) h73 rfl (by omega) (by omega) Ih73 Rh73
                      exact L64 _ 0 h63 rfl (by omega) (by omega) Ih63 Rh63
                    · refine zwW_p [(1, 0, 2)] (q := 108) (ls' := [(2, 37), (0, lL50)]) (st' := [(2, 37)]) (by decide +kernel) rfl ?_
                      refine zwW_gc IhL50 (kd := 13) (bn := 91) (n := 97) (c := 205) (nx := 111) (by decide +kernel) ?_
                      refine zwW_p [(1, 0, 2)] (q := 112) (ls' := [(2, 37), (0, lL50)]) (st' := [(2, 37), (2, 205)]) (by decide +kernel) rfl ?_
                      refine zwW_gs IhL50 (kd := 13) (bn := 0) (n := 97) (t := 0) (lo := 0) (hi := 156) (nx := 115) (by decide +kernel) ?_
                      intro v74 ev74 lv74 uv74
                      refine zwW_ro IhL50 (a := 205) (n := 156) (kd := 26) (base := 206) (step := 1) (nx := 116) (by decide +kernel) rfl (by first | omega | exact ⟨by omega, by omega⟩) ?_
                      rw [show ((206 : Nat) : Int) + ((1 : Nat) : Int) * v74 = (206 + v74) by omega]
                      refine zwW_p [(0, 2, 0), (14, 0, 0)] (q := 118) (ls' := [(2, 37), (0, lL50)]) (st' := [(0, 2), (2, (206 + v74)), (0, 2), (2, (206 + v74))]) (by decide +kernel) rfl ?_
                      refine zwW_al IhL50 (a1 := 206) (a2 := 361) (kd := 20) (n := 6) (t := 0) (lo := -2147483648) (hi := 2147483647) (nx := 119) (by decide +kernel) (by first | omega | exact ⟨by omega, by omega⟩) (by first | decide | exact ⟨by decide, by decide⟩) ?_
                      intro v75 ev75 lv75 uv75
                      refine zwW_p [(1, 0, 2)] (q := 120) (ls' := [(2, 37), (0, lL50)]) (st' := [(2, 37), (0, v75), (0, 2), (2, (206 + v74))]) (by decide +kernel) rfl ?_
                      refine zwW_gc IhL50 (kd := 13) (bn := 63) (n := 97) (c := 175) (nx := 123) (by decide +kernel) ?_
                      refine zwW_p [(1, 1, 0)] (q := 124) (ls' := [(2, 37), (0, lL50)]) (st' := [(0, lL50), (2, 175), (0, v75), (0, 2), (2, (206 + v74))]) (by decide +kernel) rfl ?_
                      refine zwW_al IhL50 (a1 := 175) (a2 := 175) (kd := 20) (n := 300) (t := 0) (lo := -2147483648) (hi := 2147483647) (nx := 125) (by decide +kernel) (by first | decide | exact ⟨by decide, by decide⟩) (by first | omega | exact ⟨by omega, by omega⟩) ?_
                      intro v76 ev76 lv76 uv76
                      refine zwW_adw (nx := 126) (by decide +kernel) ?_
                      intro v77 ev77 lv77 uv77
                      refine zwW_as IhL50 (a1 := 206) (a2 := 361) (n := 6) (lo := -2147483648) (hi := 2147483647) (nx := 127) (by decide +kernel) (by first | omega | exact ⟨by omega, by omega⟩) (by first | decide | exact ⟨by decide, by decide⟩) (by first | omega | exact ⟨by omega, by omega⟩) ?_
                      intro h78 eh78 Ih78
                      have th78_37_0 : fld h78 37 0 = fld hL50 37 0 := by rw [eh78]; exact fld_wr (by omega)
                      have Rh78 : zMR ms114 h h78 := RhL50.w (a1 := 206) (a2 := 361) (j1 := 0) (j2 := 6) (by decide +kernel) (by first | omega | exact ⟨by omega, by omega⟩) (by first | decide | exact ⟨by decide, by decide⟩) eh78
                      refine zwW_inc (i := 1) (c := 1) (x := lL50) (nx := 130) (by decide +kernel) rfl (by first | omega | exact ⟨by omega, by omega⟩) (ls' := [(2, 37), (0, (lL50 + 1))]) rfl ?_
                      refine zwW_p [(24, 99, 0)] (q := 99) (ls' := [(2, 37), (0, (lL50 + 1))]) (st' := []) (by decide +kernel) rfl ?_
                      exact IHL50 ((1000 - (lL50 + 1))).toNat (by omega) (lL50 + 1) h78 rfl (by omega) (by omega) Ih78 Rh78
                exact L50 _ 0 hL47 rfl (by omega) (by omega) IhL47 RhL47
              · refine zwW_p [(1, 0, 2)] (q := 72) (ls' := [(2, 37), (0, vL47)]) (st' := [(2, 37)]) (by decide +kernel) rfl ?_
                refine zwW_gc IhL47 (kd := 13) (bn := 91) (n := 97) (c := 205) (nx := 75) (by decide +kernel) ?_
                refine zwW_p [(1, 0, 2)] (q := 76) (ls' := [(2, 37), (0, vL47)]) (st' := [(2, 37), (2, 205)]) (by decide +kernel) rfl ?_
                refine zwW_gs IhL47 (kd := 13) (bn := 0) (n := 97) (t := 0) (lo := 0) (hi := 156) (nx := 79) (by decide +kernel) ?_
                intro v79 ev79 lv79 uv79
                refine zwW_ro IhL47 (a := 205) (n := 156) (kd := 26) (base := 206) (step := 1) (nx := 80) (by decide +kernel) rfl (by first | omega | exact ⟨by omega, by omega⟩) ?_
                rw [show ((206 : Nat) : Int) + ((1 : Nat) : Int) * v79 = (206 + v79) by omega]
                refine zwW_p [(0, 0, 0), (14, 0, 0)] (q := 82) (ls' := [(2, 37), (0, vL47)]) (st' := [(0, 0), (2, (206 + v79)), (0, 0), (2, (206 + v79))]) (by decide +kernel) rfl ?_
                refine zwW_al IhL47 (a1 := 206) (a2 := 361) (kd := 20) (n := 6) (t := 0) (lo := -2147483648) (hi := 2147483647) (nx := 83) (by decide +kernel) (by first | omega | exact ⟨by omega, by omega⟩) (by first | decide | exact ⟨by decide, by decide⟩) ?_
                intro v80 ev80 lv80 uv80
                refine zwW_p [(1, 0, 2)] (q := 84) (ls' := [(2, 37), (0, vL47)]) (st' := [(2, 37), (0, v80), (0, 0), (2, (206 + v79))]) (by decide +kernel) rfl ?_
                refine zwW_gc IhL47 (kd := 13) (bn := 7) (n := 97) (c := 66) (nx := 87) (by decide +kernel) ?_
                refine zwW_p [(1, 1, 0)] (q := 88) (ls' := [(2, 37), (0, vL47)]) (st' := [(0, vL47), (2, 66), (0, v80), (0, 0), (2, (206 + v79))]) (by decide +kernel) rfl ?_
                refine zwW_al IhL47 (a1 := 66) (a2 := 66) (kd := 20) (n := 8) (t := 0) (lo := -2147483648) (hi := 2147483647) (nx := 89) (by decide +kernel) (by first | decide | exact ⟨by decide, by decide⟩) (by first | omega | exact ⟨by omega, by omega⟩) ?_
                intro v81 ev81 lv81 uv81
                refine zwW_adw (nx := 90) (by decide +kernel) ?_
                intro v82 ev82 lv82 uv82
                refine zwW_as IhL47 (a1 := 206) (a2 := 361) (n := 6) (lo := -2147483648) (hi := 2147483647) (nx := 91) (by decide +kernel) (by first | omega | exact ⟨by omega, by omega⟩) (by first | decide | exact ⟨by decide, by decide⟩) (by first | omega | exact ⟨by omega, by omega⟩) ?_
                intro h83 eh83 Ih83
                have th83_37_0 : fld h83 37 0 = fld hL47 37 0 := by rw [eh83]; exact fld_wr (by omega)
                have Rh83 : zMR ms114 h h83 := RhL47.w (a1 := 206) (a2 := 361) (j1 := 0) (j2 := 6) (by decide +kernel) (by first | omega | exact ⟨by omega, by omega⟩) (by first | decide | exact ⟨by decide, by decide⟩) eh83
                refine zwW_inc (i := 1) (c := 1) (x := vL47) (nx := 94) (by decide +kernel) rfl (by first | omega | exact ⟨by omega, by omega⟩) (ls' := [(2, 37), (0, (vL47 + 1))]) rfl ?_
                refine zwW_p [(24, 63, 0)] (q := 63) (ls' := [(2, 37), (0, (vL47 + 1))]) (st' := []) (by decide +kernel) rfl ?_
                exact IHL47 ((1000 - (vL47 + 1))).toNat (by omega) (vL47 + 1) h83 rfl (by omega) (by omega) Ih83 Rh83
          exact L47 _ 0 h46 rfl (by omega) (by omega) Ih46 Rh46
      · refine zwW_p [(1, 0, 2)] (q := 15) (ls' := [(2, 37), (0, qL2)]) (st' := [(2, 37)]) (by decide +kernel) rfl ?_
        refine zwW_gs IhL2 (kd := 13) (bn := 0) (n := 97) (t := 0) (lo := 0) (hi := 156) (nx := 18) (by decide +kernel) ?_
        intro v84 ev84 lv84 uv84
        refine zwW_p [(1, 0, 2)] (q := 19) (ls' := [(2, 37), (0, qL2)]) (st' := [(2, 37), (0, v84)]) (by decide +kernel) rfl ?_
        refine zwW_gc IhL2 (kd := 13) (bn := 24) (n := 97) (c := 83) (nx := 22) (by decide +kernel) ?_
        refine zwW_p [(1, 1, 0)] (q := 23) (ls' := [(2, 37), (0, qL2)]) (st' := [(0, qL2), (2, 83), (0, v84)]) (by decide +kernel) rfl ?_
        refine zwW_al IhL2 (a1 := 83) (a2 := 83) (kd := 20) (n := 20) (t := 0) (lo := 0) (hi := 9) (nx := 24) (by decide +kernel) (by first | decide | exact ⟨by decide, by decide⟩) (by first | omega | exact ⟨by omega, by omega⟩) ?_
        intro v85 ev85 lv85 uv85
        refine zwW_add (nx := 25) (by decide +kernel) (by first | omega | exact ⟨by omega, by omega⟩) ?_
        refine zwW_p [(0, 4, 0)] (q := 26) (ls' := [(2, 37), (0, qL2)]) (st' := [(0, 4), (0, (v84 + v85))]) (by decide +kernel) rfl ?_
        refine zwW_rem (nx := 27) (by decide +kernel) (by omega) (by omega) ?_
        refine zwif_ne (q := 35) (nx := 30) (by decide +kernel) (fun c86 => ?_) (fun c86 => ?_)
        · refine zwW_inc (i := 1) (c := 1) (x := qL2) (nx := 38) (by decide +kernel) rfl (by first | omega | exact ⟨by omega, by omega⟩) (ls' := [(2, 37), (0, (qL2 + 1))]) rfl ?_
          refine zwW_p [(24, 6, 0)] (q := 6) (ls' := [(2, 37), (0, (qL2 + 1))]) (st' := []) (by decide +kernel) rfl ?_
          exact IHL2 ((1000 - (qL2 + 1))).toNat (by omega) (qL2 + 1) hL2 rfl (by omega) (by omega) IhL2 RhL2
        · refine zwW_p [(1, 0, 2), (1, 1, 0)] (q := 32) (ls' := [(2, 37), (0, qL2)]) (st' := [(0, qL2), (2, 37)]) (by decide +kernel) rfl ?_
          refine zwW_cmv IhL2 (op := 60) (k' := 195) (n := 1) (kd := 13) (m := 97) (nx := 35) (r := 37) (tl := [(0, qL2)]) (st' := []) (by decide +kernel) rfl (by decide +kernel) rfl (m195 hL2 IhL2 qL2 (by omega) (by omega) (hW.mr I RhL2 (by decide +kernel))) ?_
          rintro h87 ⟨Ih87, Qh87⟩
          have Rh87 : zMR ms114 h h87 := RhL2.tr Qh87 (by decide +kernel)
          have th87_37_0 : fld h87 37 0 = fld hL2 37 0 := Qh87.f (a1 := 37) (a2 := 37) (j1 := 0) (j2 := 1) (by decide +kernel) (by first | decide | exact ⟨by decide, by decide⟩) (by first | decide | exact ⟨by decide, by decide⟩)
          refine zwW_inc (i := 1) (c := 1) (x := qL2) (nx := 38) (by decide +kernel) rfl (by first | omega | exact ⟨by omega, by omega⟩) (ls' := [(2, 37), (0, (qL2 + 1))]) rfl ?_
          refine zwW_p [(24, 6, 0)] (q := 6) (ls' := [(2, 37), (0, (qL2 + 1))]) (st' := []) (by decide +kernel) rfl ?_
          exact IHL2 ((1000 - (qL2 + 1))).toNat (by omega) (qL2 + 1) h87 rfl (by omega) (by omega) Ih87 Rh87
  exact L2 _ 0 h1 rfl (by omega) (by omega) Ih1 Rh1
def ms20 : Zms := [(37, 37, 0, 1), (37, 37, 38, 39), (37, 37, 64, 65), (37, 37, 71, 72), (57, 64, 0, 157), (66, 66, 0, 8), (67, 67, 0, 8), (68, 68, 0, 8), (69, 69, 0, 8), (71, 71, 0, 8), (72, 72, 0, 8), (73, 73, 0, 8), (76, 76, 0, 8), (77, 77, 0, 8), (78, 78, 0, 8), (84, 84, 0, 20), (86, 86, 0, 20), (87, 87, 0, 20), (88, 88, 0, 20), (92, 92, 0, 20), (93, 93, 0, 20), (95, 95, 0, 20), (168, 168, 0, 13), (169, 169, 0, 420), (170, 170, 0, 300), (171, 171, 0, 300), (172, 172, 0, 300), (173, 173, 0, 300), (174, 174, 0, 300), (175, 175, 0, 300), (176, 176, 0, 20), (177, 177, 0, 8), (178, 178, 0, 20), (179, 179, 0, 20), (206, 361, 0, 6), (362, 362, 0, 8)]
-- WheelLandModel.go(I)I
theorem m20 {sc : List Int} (h : Hp) (I : zI h) (a : Int) (hA : zAM h) (hW : zCW h) : zwC sc 9 20 [(2, 37), (0, a)] h (zwRt 0 (fun x g => zI g ∧ zMR ms20 h g ∧ (-2147483648 ≤ x ∧ x ≤ 2147483647) ∧ ((0 ≤ a ∧ a ≤ 26 ∧ x = min 156 (fld h 37 0 + a) ∧ fld g 37 0 = x) ∨ (x = -1 ∧ fld g 37 0 = fld h 37 0 ∧ (a < 0 ∨ 26 < a))))) := by
  refine zwC_of (D := 8) 3 (by decide +kernel) rfl (ls := [(2, 37), (0, a), (9, 0)]) rfl ?_
  have R : zMR ms20 h h := zMR.rf _ _
  have B0 := I.b (a1 := 37) (a2 := 37) (j1 := 2) (j2 := 3) (lo := 0) (hi := 20) (by decide +kernel) (r := 37) (j := 2) (by decide) (by decide) (by decide) (by decide)
  have B1 := I.b (a1 := 37) (a2 := 37) (j1 := 0) (j2 := 1) (lo := 0) (hi := 156) (by decide +kernel) (r := 37) (j := 0) (by decide) (by decide) (by decide) (by decide)
  refine zwW_p [(1, 1, 0), (7, 0, 0), (0, 0, 1), (0, 26, 1)] (q := 6) (ls' := [(2, 37), (0, a), (9, 0)]) (st' := [(1, 26), (1, 0), (1, a)]) (by decide +kernel) rfl ?_
  refine zwW_cs (k' := 101) (n := 3) (nx := 9) (as := [(1, a), (1, 0), (1, 26)]) (st' := []) (by decide +kernel) rfl (m101 h a 0 26) rfl ?_
  rintro x _ ⟨rfl, ⟨rfl, c1⟩ | ⟨rfl, c1⟩⟩
  · refine zwif_ne (q := 14) (nx := 12) (by decide +kernel) (fun c2 => ?_) (fun c2 => ?_)
    · refine zwW_p [(0, 0, 0), (2, 2, 0)] (q := 16) (ls' := [(2, 37), (0, a), (0, 0)]) (st' := []) (by decide +kernel) rfl ?_
      have L3 : ∀ (n : Nat) (kL3 : Int) (hL3 : Hp), n = ((1000 - kL3)).toNat → (0 ≤ kL3 ∧ kL3 ≤ a) → (fld hL3 37 0 = fld h 37 0 + kL3) → zI hL3 → zMR ms20 h hL3 → zwW sc (8) 20 16 [(2, 37), (0, a), (0, kL3)] [] hL3 (zwRt 0 (fun x g => zI g ∧ zMR ms20 h g ∧ (-2147483648 ≤ x ∧ x ≤ 2147483647) ∧ ((0 ≤ a ∧ a ≤ 26 ∧ x = min 156 (fld h 37 0 + a) ∧ fld g 37 0 = x) ∨ (x = -1 ∧ fld g 37 0 = fld h 37 0 ∧ (a < 0 ∨ 26 < a))))) := by
        intro n
        induction n using Nat.strongRecOn with
        | ind n IHL3 =>
          intro kL3 hL3 hnL3 iL3_0 iL3_1 IhL3 RhL3
          refine zwW_p [(1, 2, 0), (1, 1, 0)] (q := 18) (ls' := [(2, 37), (0, a), (0, kL3)]) (st' := [(0, a), (0, kL3)]) (by decide +kernel) rfl ?_
          refine zwic_ge (q := 41) (nx := 21) (by decide +kernel) (fun c4 => ?_) (fun c4 => ?_)
          · refine zwW_p [(1, 0, 2)] (q := 42) (ls' := [(2, 37), (0, a), (0, kL3)]) (st' := [(2, 37)]) (by decide +kernel) rfl ?_
            refine zwW_gs IhL3 (kd := 13) (bn := 0) (n := 97) (t := 0) (lo := 0) (hi := 156) (nx := 45) (by decide +kernel) ?_
            intro v5 ev5 lv5 uv5
            refine zwW_ret (nx := 46) (a := 0) (b := 0) (by decide +kernel) rfl (Or.inl rfl) ?_
            exact ⟨IhL3, RhL3, by omega, by omega⟩
          · refine zwW_p [(1, 0, 2)] (q := 22) (ls' := [(2, 37), (0, a), (0, kL3)]) (st' := [(2, 37)]) (by decide +kernel) rfl ?_
            refine zwW_gs IhL3 (kd := 13) (bn := 0) (n := 97) (t := 0) (lo := 0) (hi := 156) (nx := 25) (by decide +kernel) ?_
            intro v6 ev6 lv6 uv6
            refine zwW_p [(0, 156, 0)] (q := 28) (ls' := [(2, 37), (0, a), (0, kL3)]) (st' := [(0, 156), (0, v6)]) (by decide +kernel) rfl ?_
            refine zwic_ge (q := 41) (nx := 31) (by decide +kernel) (fun c7 => ?_) (fun c7 => ?_)
            · refine zwW_p [(1, 0, 2)] (q := 42) (ls' := [(2, 37), (0, a), (0, kL3)]) (st' := [(2, 37)]) (by decide +kernel) rfl ?_
              refine zwW_gs IhL3 (kd := 13) (bn := 0) (n := 97) (t := 0) (lo := 0) (hi := 156) (nx := 45) (by decide +kernel) ?_
              intro v8 ev8 lv8 uv8
              refine zwW_ret (nx := 46) (a := 0) (b := 0) (by decide +kernel) rfl (Or.inl rfl) ?_
              exact ⟨IhL3, RhL3, by omega, by omega⟩
            · refine zwW_p [(1, 0, 2)] (q := 32) (ls' := [(2, 37), (0, a), (0, kL3)]) (st' := [(2, 37)]) (by decide +kernel) rfl ?_
              refine zwW_cmv IhL3 (op := 60) (k' := 114) (n := 0) (kd := 13) (m := 97) (nx := 35) (r := 37) (tl := []) (st' := []) (by decide +kernel) rfl (by decide +kernel) rfl (m114 hL3 IhL3 (by omega) (hA.mr RhL3 (by decide +kernel) (by omega)) (hW.mr I RhL3 (by decide +kernel))) ?_
              rintro h10 ⟨Ih10, Qh10, f9⟩
              have Rh10 : zMR ms20 h h10 := RhL3.tr Qh10 (by decide +kernel)
              refine zwW_inc (i := 2) (c := 1) (x := kL3) (nx := 38) (by decide +kernel) rfl (by first | omega | exact ⟨by omega, by omega⟩) (ls' := [(2, 37), (0, a), (0, (kL3 + 1))]) rfl ?_
              refine zwW_p [(24, 16, 0)] (q := 16) (ls' := [(2, 37), (0, a), (0, (kL3 + 1))]) (st' := []) (by decide +kernel) rfl ?_
              exact IHL3 ((1000 - (kL3 + 1))).toNat (by omega) (kL3 + 1) h10 rfl (by omega) (by omega) Ih10 Rh10
      exact L3 _ 0 h rfl (by omega) (by omega) I R
    · exfalso; omega
  · refine zwif_ne (q := 14) (nx := 12) (by decide +kernel) (fun c11 => ?_) (fun c11 => ?_)
    · exfalso; omega
    · refine zwW_p [(0, -1, 0)] (q := 13) (ls' := [(2, 37), (0, a), (9, 0)]) (st' := [(0, -1)]) (by decide +kernel) rfl ?_
      refine zwW_ret (nx := 14) (a := 0) (b := 0) (by decide +kernel) rfl (Or.inl rfl) ?_
      exact ⟨I, R, by omega, by omega⟩
-- WheelLandModel.lot(II)I
theorem m22 {sc : List Int} (h : Hp) (I : zI h) (a b : Int) : zwC sc 3 22 [(2, 37), (0, a), (0, b)] h (zwRt 0 (fun x g => h = g ∧ (-2147483648 ≤ x ∧ x ≤ 2147483647))) := by
  refine zwC_of (D := 2) 3 (by decide +kernel) rfl (ls := [(2, 37), (0, a), (0, b)]) rfl ?_
  refine zwW_p [(1, 0, 2), (1, 1, 0)] (q := 2) (ls' := [(2, 37), (0, a), (0, b)]) (st' := [(0, a), (2, 37)]) (by decide +kernel) rfl ?_
  refine zwW_cm I (op := 60) (k' := 116) (n := 1) (kd := 13) (m := 97) (nx := 5) (r := 37) (tl := [(0, a)]) (st' := []) (by decide +kernel) rfl (by decide +kernel) rfl (m116 h I a) ?_
  rintro x _ ⟨rfl, ⟨rfl, c1⟩ | ⟨rfl, c1⟩⟩
  · refine zwif_ne (q := 10) (nx := 8) (by decide +kernel) (fun c2 => ?_) (fun c2 => ?_)
    · refine zwW_p [(1, 2, 0)] (q := 11) (ls' := [(2, 37), (0, a), (0, b)]) (st' := [(0, b)]) (by decide +kernel) rfl ?_
      refine zwW_sw (d := 90) (os := [0, 48, 1, 55, 2, 62, 3, 69, 4, 76, 5, 83]) (by decide +kernel) ?_
      refine ⟨fun c3 => ?_, fun c3 => ?_⟩
      · show zwW _ _ _ 48 _ _ _ _
        refine zwW_p [(1, 0, 2)] (q := 49) (ls' := [(2, 37), (0, a), (0, b)]) (st' := [(2, 37)]) (by decide +kernel) rfl ?_
        refine zwW_gc I (kd := 13) (bn := 58) (n := 97) (c := 170) (nx := 52) (by decide +kernel) ?_
        refine zwW_p [(1, 1, 0)] (q := 53) (ls' := [(2, 37), (0, a), (0, b)]) (st' := [(0, a), (2, 170)]) (by decide +kernel) rfl ?_
        refine zwW_al I (a1 := 170) (a2 := 170) (kd := 20) (n := 300) (t := 0) (lo := 0) (hi := 19) (nx := 54) (by decide +kernel) (by first | decide | exact ⟨by decide, by decide⟩) (by first | omega | exact ⟨by omega, by omega⟩) ?_
        intro v4 ev4 lv4 uv4
        refine zwW_ret (nx := 55) (a := 0) (b := 0) (by decide +kernel) rfl (Or.inl rfl) ?_
        exact ⟨rfl, by omega⟩
      refine ⟨fun c5 => ?_, fun c5 => ?_⟩
      · show zwW _ _ _ 55 _ _ _ _
        refine zwW_p [(1, 0, 2)] (q := 56) (ls' := [(2, 37), (0, a), (0, b)]) (st' := [(2, 37)]) (by decide +kernel) rfl ?_
        refine zwW_gc I (kd := 13) (bn := 59) (n := 97) (c := 171) (nx := 59) (by decide +kernel) ?_
        refine zwW_p [(1, 1, 0)] (q := 60) (ls' := [(2, 37), (0, a), (0, b)]) (st' := [(0, a), (2, 171)]) (by decide +kernel) rfl ?_
        refine zwW_al I (a1 := 171) (a2 := 171) (kd := 20) (n := 300) (t := 0) (lo := -2147483648) (hi := 2147483647) (nx := 61) (by decide +kernel) (by first | decide | exact ⟨by decide, by decide⟩) (by first | omega | exact ⟨by omega, by omega⟩) ?_
        intro v6 ev6 lv6 uv6
        refine zwW_ret (nx := 62) (a := 0) (b := 0) (by decide +kernel) rfl (Or.inl rfl) ?_
        exact ⟨rfl, by omega⟩
      refine ⟨fun c7 => ?_, fun c7 => ?_⟩
      · show zwW _ _ _ 62 _ _ _ _
        refine zwW_p [(1, 0, 2)] (q := 63) (ls' := [(2, 37), (0, a), (0, b)]) (st' := [(2, 37)]) (by decide +kernel) rfl ?_
        refine zwW_gc I (kd := 13) (bn := 60) (n := 97) (c := 172) (nx := 66) (by decide +kernel) ?_
        refine zwW_p [(1, 1, 0)] (q := 67) (ls' := [(2, 37), (0, a), (0, b)]) (st' := [(0, a), (2, 172)]) (by decide +kernel) rfl ?_
        refine zwW_al I (a1 := 172) (a2 := 172) (kd := 20) (n := 300) (t := 0) (lo := -2147483648) (hi := 2147483647) (nx := 68) (by decide +kernel) (by first | decide | exact ⟨by decide, by decide⟩) (by first | omega | exact ⟨by omega, by omega⟩) ?_
        intro v8 ev8 lv8 uv8
        refine zwW_ret (nx := 69) (a := 0) (b := 0) (by decide +kernel) rfl (Or.inl rfl) ?_
        exact ⟨rfl, by omega⟩
      refine ⟨fun c9 => ?_, fun c9 => ?_⟩
      · show zwW _ _ _ 69 _ _ _ _
        refine zwW_p [(1, 0, 2)] (q := 70) (ls' := [(2, 37), (0, a), (0, b)]) (st' := [(2, 37)]) (by decide +kernel) rfl ?_
        refine zwW_gc I (kd := 13) (bn := 61) (n := 97) (c := 173) (nx := 73) (by decide +kernel) ?_
        refine zwW_p [(1, 1, 0)] (q := 74) (ls' := [(2, 37), (0, a), (0, b)]) (st' := [(0, a), (2, 173)]) (by decide +kernel) rfl ?_
        refine zwW_al I (a1 := 173) (a2 := 173) (kd := 20) (n := 300) (t := 0) (lo := -2147483648) (hi := 2147483647) (nx := 75) (by decide +kernel) (by first | decide | exact ⟨by decide, by decide⟩) (by first | omega | exact ⟨by omega, by omega⟩) ?_
        intro v10 ev10 lv10 uv10
        refine zwW_ret (nx := 76) (a := 0) (b := 0) (by decide +kernel) rfl (Or.inl rfl) ?_
        exact ⟨rfl, by omega⟩
      refine ⟨fun c11 => ?_, fun c11 => ?_⟩
      · show zwW _ _ _ 76 _ _ _ _
        refine zwW_p [(1, 0, 2)] (q := 77) (ls' := [(2, 37), (0, a), (0, b)]) (st' := [(2, 37)]) (by decide +kernel) rfl ?_
        refine zwW_gc I (kd := 13) (bn := 62) (n := 97) (c := 174) (nx := 80) (by decide +kernel) ?_
        refine zwW_p [(1, 1, 0)] (q := 81) (ls' := [(2, 37), (0, a), (0, b)]) (st' := [(0, a), (2, 174)]) (by decide +kernel) rfl ?_
        refine zwW_al I (a1 := 174) (a2 := 174) (kd := 20) (n := 300) (t := 0) (lo := -2147483648) (hi := 2147483647) (nx := 82) (by decide +kernel) (by first | decide | exact ⟨by decide, by decide⟩) (by first | omega | exact ⟨by omega, by omega⟩) ?_
        intro v12 ev12 lv12 uv12
        refine zwW_ret (nx := 83) (a := 0) (b := 0) (by decide +kernel) rfl (Or.inl rfl) ?_
        exact ⟨rfl, by omega⟩
      refine ⟨fun c13 => ?_, fun c13 => ?_⟩
      · show zwW _ _ _ 83 _ _ _ _
        refine zwW_p [(1, 0, 2)] (q := 84) (ls' := [(2, 37), (0, a), (0, b)]) (st' := [(2, 37)]) (by decide +kernel) rfl ?_
        refine zwW_gc I (kd := 13) (bn := 63) (n := 97) (c := 175) (nx := 87) (by decide +kernel) ?_
        refine zwW_p [(1, 1, 0)] (q := 88) (ls' := [(2, 37), (0, a), (0, b)]) (st' := [(0, a), (2, 175)]) (by decide +kernel) rfl ?_
        refine zwW_al I (a1 := 175) (a2 := 175) (kd := 20) (n := 300) (t := 0) (lo := -2147483648) (hi := 2147483647) (nx := 89) (by decide +kernel) (by first | decide | exact ⟨by decide, by decide⟩) (by first | omega | exact ⟨by omega, by omega⟩) ?_
        intro v14 ev14 lv14 uv14
        refine zwW_ret (nx := 90) (a := 0) (b := 0) (by decide +kernel) rfl (Or.inl rfl) ?_
        exact ⟨rfl, by omega⟩
      show zwW _ _ _ 90 _ _ _ _
      refine zwW_p [(0, -1, 0)] (q := 91) (ls' := [(2, 37), (0, a), (0, b)]) (st' := [(0, -1)]) (by decide +kernel) rfl ?_
      refine zwW_ret (nx := 92) (a := 0) (b := 0) (by decide +kernel) rfl (Or.inl rfl) ?_
      exact ⟨rfl, by omega⟩
    · exfalso; omega
  · refine zwif_ne (q := 10) (nx := 8) (by decide +kernel) (fun c15 => ?_) (fun c15 => ?_)
    · exfalso; omega
    · refine zwW_p [(0, -1, 0)] (q := 9) (ls' := [(2, 37), (0, a), (0, b)]) (st' := [(0, -1)]) (by decide +kernel) rfl ?_
      refine zwW_ret (nx := 10) (a := 0) (b := 0) (by decide +kernel) rfl (Or.inl rfl) ?_
      exact ⟨rfl, by omega⟩
-- WheelLandModel.owing(I)I
theorem m127 {sc : List Int} (h : Hp) (I : zI h) (a : Int) (p1 : 0 ≤ a) (p2 : a ≤ 19) : zwC sc 1 127 [(2, 37), (0, a)] h (zwRt 0 (fun x g => h = g ∧ (-2147483648 ≤ x ∧ x ≤ 2147483647))) := by
  refine zwC_of (D := 0) 4 (by decide +kernel) rfl (ls := [(2, 37), (0, a), (9, 0), (9, 0)]) rfl ?_
  refine zwW_p [(1, 0, 2)] (q := 1) (ls' := [(2, 37), (0, a), (9, 0), (9, 0)]) (st' := [(2, 37)]) (by decide +kernel) rfl ?_
  refine zwW_gc I (kd := 13) (bn := 34) (n := 97) (c := 93) (nx := 4) (by decide +kernel) ?_
  refine zwW_p [(1, 1, 0)] (q := 5) (ls' := [(2, 37), (0, a), (9, 0), (9, 0)]) (st' := [(0, a), (2, 93)]) (by decide +kernel) rfl ?_
  refine zwW_al I (a1 := 93) (a2 := 93) (kd := 23) (n := 20) (t := 1) (lo := -9223372036854775808) (hi := 9223372036854775807) (nx := 6) (by decide +kernel) (by first | decide | exact ⟨by decide, by decide⟩) (by first | omega | exact ⟨by omega, by omega⟩) ?_
  intro v1 ev1 lv1 uv1
  refine zwW_p [(1, 0, 2)] (q := 7) (ls' := [(2, 37), (0, a), (9, 0), (9, 0)]) (st' := [(2, 37), (1, v1)]) (by decide +kernel) rfl ?_
  refine zwW_gc I (kd := 13) (bn := 35) (n := 97) (c := 94) (nx := 10) (by decide +kernel) ?_
  refine zwW_p [(1, 1, 0)] (q := 11) (ls' := [(2, 37), (0, a), (9, 0), (9, 0)]) (st' := [(0, a), (2, 94), (1, v1)]) (by decide +kernel) rfl ?_
  refine zwW_al I (a1 := 94) (a2 := 94) (kd := 20) (n := 20) (t := 0) (lo := -2147483648) (hi := 2147483647) (nx := 12) (by decide +kernel) (by first | decide | exact ⟨by decide, by decide⟩) (by first | omega | exact ⟨by omega, by omega⟩) ?_
  intro v2 ev2 lv2 uv2
  refine zwW_p [(7, 0, 0)] (q := 13) (ls' := [(2, 37), (0, a), (9, 0), (9, 0)]) (st' := [(1, v2), (1, v1)]) (by decide +kernel) rfl ?_
  refine zwW_lsw (nx := 14) (by decide +kernel) ?_
  intro v3 ev3 lv3 uv3
  refine zwW_p [(2, 2, 1), (1, 2, 1)] (q := 16) (ls' := [(2, 37), (0, a), (1, v3), (9, 0)]) (st' := [(1, v3)]) (by decide +kernel) rfl ?_
  refine zwW_l2x (nx := 17) (by decide +kernel) ?_
  intro v4 ev4 lv4 uv4
  refine zwW_ret (nx := 18) (a := 0) (b := 0) (by decide +kernel) rfl (Or.inl rfl) ?_
  exact ⟨rfl, by omega⟩
def ms36 : Zms := [(37, 37, 69, 70), (94, 94, 0, 20), (96, 96, 0, 20), (175, 175, 0, 300)]
-- WheelLandModel.pay(III)I
theorem m36 {sc : List Int} (h : Hp) (I : zI h) (a b c : Int) : zwC sc 3 36 [(2, 37), (0, a), (0, b), (0, c)] h (zwRt 0 (fun x g => zI g ∧ zMR ms36 h g ∧ (-2147483648 ≤ x ∧ x ≤ 2147483647))) := by
  refine zwC_of (D := 2) 4 (by decide +kernel) rfl (ls := [(2, 37), (0, a), (0, b), (0, c)]) rfl ?_
  have R : zMR ms36 h h := zMR.rf _ _
  refine zwW_p [(1, 0, 2), (1, 1, 0)] (q := 2) (ls' := [(2, 37), (0, a), (0, b), (0, c)]) (st' := [(0, a), (2, 37)]) (by decide +kernel) rfl ?_
  refine zwW_cm I (op := 60) (k' := 111) (n := 1) (kd := 13) (m := 97) (nx := 5) (r := 37) (tl := [(0, a)]) (st' := []) (by decide +kernel) rfl (by decide +kernel) rfl (m111 h I a) ?_
  rintro x _ ⟨rfl, ⟨rfl, c1⟩ | ⟨rfl, c1⟩⟩
  · refine zwif_eq (q := 32) (nx := 8) (by decide +kernel) (fun c2 => ?_) (fun c2 => ?_)
    · exfalso; omega
    · refine zwW_p [(1, 0, 2), (1, 2, 0)] (q := 10) (ls' := [(2, 37), (0, a), (0, b), (0, c)]) (st' := [(0, b), (2, 37)]) (by decide +kernel) rfl ?_
      refine zwW_cm I (op := 60) (k' := 116) (n := 1) (kd := 13) (m := 97) (nx := 13) (r := 37) (tl := [(0, b)]) (st' := []) (by decide +kernel) rfl (by decide +kernel) rfl (m116 h I b) ?_
      rintro x _ ⟨rfl, ⟨rfl, c3⟩ | ⟨rfl, c3⟩⟩
      · refine zwif_eq (q := 32) (nx := 16) (by decide +kernel) (fun c4 => ?_) (fun c4 => ?_)
        · exfalso; omega
        · refine zwW_p [(1, 3, 0), (7, 0, 0), (0, 1, 1), (1, 0, 2)] (q := 20) (ls' := [(2, 37), (0, a), (0, b), (0, c)]) (st' := [(2, 37), (1, 1), (1, c)]) (by decide +kernel) rfl ?_
          refine zwW_gc I (kd := 13) (bn := 63) (n := 97) (c := 175) (nx := 23) (by decide +kernel) ?_
          refine zwW_p [(1, 2, 0)] (q := 24) (ls' := [(2, 37), (0, a), (0, b), (0, c)]) (st' := [(0, b), (2, 175), (1, 1), (1, c)]) (by decide +kernel) rfl ?_
          refine zwW_al I (a1 := 175) (a2 := 175) (kd := 20) (n := 300) (t := 0) (lo := -2147483648) (hi := 2147483647) (nx := 25) (by decide +kernel) (by first | decide | exact ⟨by decide, by decide⟩) (by first | omega | exact ⟨by omega, by omega⟩) ?_
          intro v5 ev5 lv5 uv5
          refine zwW_p [(7, 0, 0)] (q := 26) (ls' := [(2, 37), (0, a), (0, b), (0, c)]) (st' := [(1, v5), (1, 1), (1, c)]) (by decide +kernel) rfl ?_
          refine zwW_cs (k' := 101) (n := 3) (nx := 29) (as := [(1, c), (1, 1), (1, v5)]) (st' := []) (by decide +kernel) rfl (m101 h c 1 v5) rfl ?_
          rintro x _ ⟨rfl, ⟨rfl, c6⟩ | ⟨rfl, c6⟩⟩
          · refine zwif_ne (q := 36) (nx := 32) (by decide +kernel) (fun c7 => ?_) (fun c7 => ?_)
            · refine zwW_p [(1, 0, 2)] (q := 37) (ls' := [(2, 37), (0, a), (0, b), (0, c)]) (st' := [(2, 37)]) (by decide +kernel) rfl ?_
              refine zwW_gc I (kd := 13) (bn := 63) (n := 97) (c := 175) (nx := 40) (by decide +kernel) ?_
              refine zwW_p [(1, 2, 0), (14, 0, 0)] (q := 42) (ls' := [(2, 37), (0, a), (0, b), (0, c)]) (st' := [(0, b), (2, 175), (0, b), (2, 175)]) (by decide +kernel) rfl ?_
              refine zwW_al I (a1 := 175) (a2 := 175) (kd := 20) (n := 300) (t := 0) (lo := -2147483648) (hi := 2147483647) (nx := 43) (by decide +kernel) (by first | decide | exact ⟨by decide, by decide⟩) (by first | omega | exact ⟨by omega, by omega⟩) ?_
              intro v8 ev8 lv8 uv8
              refine zwW_p [(1, 3, 0)] (q := 44) (ls' := [(2, 37), (0, a), (0, b), (0, c)]) (st' := [(0, c), (0, v8), (0, b), (2, 175)]) (by decide +kernel) rfl ?_
              refine zwW_sbw (nx := 45) (by decide +kernel) ?_
              intro v9 ev9 lv9 uv9
              refine zwW_as I (a1 := 175) (a2 := 175) (n := 300) (lo := -2147483648) (hi := 2147483647) (nx := 46) (by decide +kernel) (by first | decide | exact ⟨by decide, by decide⟩) (by first | omega | exact ⟨by omega, by omega⟩) (by first | omega | exact ⟨by omega, by omega⟩) ?_
              intro h10 eh10 Ih10
              have Rh10 : zMR ms36 h h10 := R.w (a1 := 175) (a2 := 175) (j1 := 0) (j2 := 300) (by decide +kernel) (by first | decide | exact ⟨by decide, by decide⟩) (by first | omega | exact ⟨by omega, by omega⟩) eh10
              refine zwW_p [(1, 0, 2)] (q := 47) (ls' := [(2, 37), (0, a), (0, b), (0, c)]) (st' := [(2, 37)]) (by decide +kernel) rfl ?_
              refine zwW_gc Ih10 (kd := 13) (bn := 35) (n := 97) (c := 94) (nx := 50) (by decide +kernel) ?_
              refine zwW_p [(1, 1, 0), (14, 0, 0)] (q := 52) (ls' := [(2, 37), (0, a), (0, b), (0, c)]) (st' := [(0, a), (2, 94), (0, a), (2, 94)]) (by decide +kernel) rfl ?_
              refine zwW_al Ih10 (a1 := 94) (a2 := 94) (kd := 20) (n := 20) (t := 0) (lo := -2147483648) (hi := 2147483647) (nx := 53) (by decide +kernel) (by first | decide | exact ⟨by decide, by decide⟩) (by first | omega | exact ⟨by omega, by omega⟩) ?_
              intro v11 ev11 lv11 uv11
              refine zwW_p [(1, 3, 0)] (q := 54) (ls' := [(2, 37), (0, a), (0, b), (0, c)]) (st' := [(0, c), (0, v11), (0, a), (2, 94)]) (by decide +kernel) rfl ?_
              refine zwW_adw (nx := 55) (by decide +kernel) ?_
              intro v12 ev12 lv12 uv12
              refine zwW_as Ih10 (a1 := 94) (a2 := 94) (n := 20) (lo := -2147483648) (hi := 2147483647) (nx := 56) (by decide +kernel) (by first | decide | exact ⟨by decide, by decide⟩) (by first | omega | exact ⟨by omega, by omega⟩) (by first | omega | exact ⟨by omega, by omega⟩) ?_
              intro h13 eh13 Ih13
              have Rh13 : zMR ms36 h h13 := Rh10.w (a1 := 94) (a2 := 94) (j1 := 0) (j2 := 20) (by decide +kernel) (by first | decide | exact ⟨by decide, by decide⟩) (by first | omega | exact ⟨by omega, by omega⟩) eh13
              refine zwW_p [(1, 0, 2), (12, 0, 0)] (q := 58) (ls' := [(2, 37), (0, a), (0, b), (0, c)]) (st' := [(2, 37), (2, 37)]) (by decide +kernel) rfl ?_
              refine zwW_gs Ih13 (kd := 13) (bn := 69) (n := 97) (t := 0) (lo := -2147483648) (hi := 2147483647) (nx := 61) (by decide +kernel) ?_
              intro v14 ev14 lv14 uv14
              refine zwW_p [(1, 3, 0)] (q := 62) (ls' := [(2, 37), (0, a), (0, b), (0, c)]) (st' := [(0, c), (0, v14), (2, 37)]) (by decide +kernel) rfl ?_
              refine zwW_adw (nx := 63) (by decide +kernel) ?_
              intro v15 ev15 lv15 uv15
              refine zwW_ps Ih13 (kd := 13) (bn := 69) (n := 97) (lo := -2147483648) (hi := 2147483647) (nx := 66) (by decide +kernel) (by first | omega | exact ⟨by omega, by omega⟩) ?_
              intro h16 eh16 Ih16
              have Rh16 : zMR ms36 h h16 := Rh13.w (a1 := 37) (a2 := 37) (j1 := 69) (j2 := 70) (by decide +kernel) (by first | decide | exact ⟨by decide, by decide⟩) (by first | decide | exact ⟨by decide, by decide⟩) eh16
              refine zwW_p [(1, 0, 2)] (q := 67) (ls' := [(2, 37), (0, a), (0, b), (0, c)]) (st' := [(2, 37)]) (by decide +kernel) rfl ?_
              refine zwW_gc Ih16 (kd := 13) (bn := 58) (n := 97) (c := 170) (nx := 70) (by decide +kernel) ?_
              refine zwW_p [(1, 2, 0)] (q := 71) (ls' := [(2, 37), (0, a), (0, b), (0, c)]) (st' := [(0, b), (2, 170)]) (by decide +kernel) rfl ?_
              refine zwW_al Ih16 (a1 := 170) (a2 := 170) (kd := 20) (n := 300) (t := 0) (lo := 0) (hi := 19) (nx := 72) (by decide +kernel) (by first | decide | exact ⟨by decide, by decide⟩) (by first | omega | exact ⟨by omega, by omega⟩) ?_
              intro v17 ev17 lv17 uv17
              refine zwW_p [(1, 1, 0)] (q := 73) (ls' := [(2, 37), (0, a), (0, b), (0, c)]) (st' := [(0, a), (0, v17)]) (by decide +kernel) rfl ?_
              refine zwic_eq (q := 86) (nx := 76) (by decide +kernel) (fun c18 => ?_) (fun c18 => ?_)
              · refine zwW_p [(1, 0, 2), (1, 1, 0)] (q := 88) (ls' := [(2, 37), (0, a), (0, b), (0, c)]) (st' := [(0, a), (2, 37)]) (by decide +kernel) rfl ?_
                refine zwW_cm Ih16 (op := 60) (k' := 127) (n := 1) (kd := 13) (m := 97) (nx := 91) (r := 37) (tl := [(0, a)]) (st' := []) (by decide +kernel) rfl (by decide +kernel) rfl (m127 h16 Ih16 a (by omega) (by omega)) ?_
                rintro v19 _ ⟨rfl, f20⟩
                refine zwW_ret (nx := 92) (a := 0) (b := 0) (by decide +kernel) rfl (Or.inl rfl) ?_
                exact ⟨Ih16, Rh16, by omega⟩
              · refine zwW_p [(1, 0, 2)] (q := 77) (ls' := [(2, 37), (0, a), (0, b), (0, c)]) (st' := [(2, 37)]) (by decide +kernel) rfl ?_
                refine zwW_gc Ih16 (kd := 13) (bn := 37) (n := 97) (c := 96) (nx := 80) (by decide +kernel) ?_
                refine zwW_p [(1, 1, 0), (14, 0, 0)] (q := 82) (ls' := [(2, 37), (0, a), (0, b), (0, c)]) (st' := [(0, a), (2, 96), (0, a), (2, 96)]) (by decide +kernel) rfl ?_
                refine zwW_al Ih16 (a1 := 96) (a2 := 96) (kd := 20) (n := 20) (t := 0) (lo := -2147483648) (hi := 2147483647) (nx := 83) (by decide +kernel) (by first | decide | exact ⟨by decide, by decide⟩) (by first | omega | exact ⟨by omega, by omega⟩) ?_
                intro v21 ev21 lv21 uv21
                refine zwW_p [(1, 3, 0)] (q := 84) (ls' := [(2, 37), (0, a), (0, b), (0, c)]) (st' := [(0, c), (0, v21), (0, a), (2, 96)]) (by decide +kernel) rfl ?_
                refine zwW_adw (nx := 85) (by decide +kernel) ?_
                intro v22 ev22 lv22 uv22
                refine zwW_as Ih16 (a1 := 96) (a2 := 96) (n := 20) (lo := -2147483648) (hi := 2147483647) (nx := 86) (by decide +kernel) (by first | decide | exact ⟨by decide, by decide⟩) (by first | omega | exact ⟨by omega, by omega⟩) (by first | omega | exact ⟨by omega, by omega⟩) ?_
                intro h23 eh23 Ih23
                have Rh23 : zMR ms36 h h23 := Rh16.w (a1 := 96) (a2 := 96) (j1 := 0) (j2 := 20) (by decide +kernel) (by first | decide | exact ⟨by decide, by decide⟩) (by first | omega | exact ⟨by omega, by omega⟩) eh23
                refine zwW_p [(1, 0, 2), (1, 1, 0)] (q := 88) (ls' := [(2, 37), (0, a), (0, b), (0, c)]) (st' := [(0, a), (2, 37)]) (by decide +kernel) rfl ?_
                refine zwW_cm Ih23 (op := 60) (k' := 127) (n := 1) (kd := 13) (m := 97) (nx := 91) (r := 37) (tl := [(0, a)]) (st' := []) (by decide +kernel) rfl (by decide +kernel) rfl (m127 h23 Ih23 a (by omega) (by omega)) ?_
                rintro v24 _ ⟨rfl, f25⟩
                refine zwW_ret (nx := 92) (a := 0) (b := 0) (by decide +kernel) rfl (Or.inl rfl) ?_
                exact ⟨Ih23, Rh23, by omega⟩
            · exfalso; omega
          · refine zwif_ne (q := 36) (nx := 32) (by decide +kernel) (fun c26 => ?_) (fun c26 => ?_)
            · exfalso; omega
            · refine zwW_p [(0, -2147483648, 0)] (q := 35) (ls' := [(2, 37), (0, a), (0, b), (0, c)]) (st' := [(0, -2147483648)]) (by decide +kernel) rfl ?_
              refine zwW_ret (nx := 36) (a := 0) (b := 0) (by decide +kernel) rfl (Or.inl rfl) ?_
              exact ⟨I, R, by omega⟩
      · refine zwif_eq (q := 32) (nx := 16) (by decide +kernel) (fun c27 => ?_) (fun c27 => ?_)
        · refine zwW_p [(0, -2147483648, 0)] (q := 35) (ls' := [(2, 37), (0, a), (0, b), (0, c)]) (st' := [(0, -2147483648)]) (by decide +kernel) rfl ?_
          refine zwW_ret (nx := 36) (a := 0) (b := 0) (by decide +kernel) rfl (Or.inl rfl) ?_
          exact ⟨I, R, by omega⟩
        · exfalso; omega
  · refine zwif_eq (q := 32) (nx := 8) (by decide +kernel) (fun c28 => ?_) (fun c28 => ?_)
    · refine zwW_p [(0, -2147483648, 0)] (q := 35) (ls' := [(2, 37), (0, a), (0, b), (0, c)]) (st' := [(0, -2147483648)]) (by decide +kernel) rfl ?_
      refine zwW_ret (nx := 36) (a := 0) (b := 0) (by decide +kernel) rfl (Or.inl rfl) ?_
      exact ⟨I, R, by omega⟩
    · exfalso; omega
-- WheelLandModel.due(II)I
theorem m38 {sc : List Int} (h : Hp) (I : zI h) (a b : Int) : zwC sc 3 38 [(2, 37), (0, a), (0, b)] h (zwRt 0 (fun x g => h = g ∧ (-2147483648 ≤ x ∧ x ≤ 2147483647))) := by
  refine zwC_of (D := 2) 3 (by decide +kernel) rfl (ls := [(2, 37), (0, a), (0, b)]) rfl ?_
  refine zwW_p [(1, 0, 2), (1, 1, 0)] (q := 2) (ls' := [(2, 37), (0, a), (0, b)]) (st' := [(0, a), (2, 37)]) (by decide +kernel) rfl ?_
  refine zwW_cm I (op := 60) (k' := 111) (n := 1) (kd := 13) (m := 97) (nx := 5) (r := 37) (tl := [(0, a)]) (st' := []) (by decide +kernel) rfl (by decide +kernel) rfl (m111 h I a) ?_
  rintro x _ ⟨rfl, ⟨rfl, c1⟩ | ⟨rfl, c1⟩⟩
  · refine zwif_ne (q := 12) (nx := 8) (by decide +kernel) (fun c2 => ?_) (fun c2 => ?_)
    · refine zwW_p [(1, 2, 0)] (q := 13) (ls' := [(2, 37), (0, a), (0, b)]) (st' := [(0, b)]) (by decide +kernel) rfl ?_
      refine zwW_sw (d := 92) (os := [0, 48, 1, 54, 2, 61, 3, 68, 4, 85]) (by decide +kernel) ?_
      refine ⟨fun c3 => ?_, fun c3 => ?_⟩
      · show zwW _ _ _ 48 _ _ _ _
        refine zwW_p [(1, 0, 2), (1, 1, 0)] (q := 50) (ls' := [(2, 37), (0, a), (0, b)]) (st' := [(0, a), (2, 37)]) (by decide +kernel) rfl ?_
        refine zwW_cm I (op := 60) (k' := 127) (n := 1) (kd := 13) (m := 97) (nx := 53) (r := 37) (tl := [(0, a)]) (st' := []) (by decide +kernel) rfl (by decide +kernel) rfl (m127 h I a (by omega) (by omega)) ?_
        rintro v4 _ ⟨rfl, f5⟩
        refine zwW_ret (nx := 54) (a := 0) (b := 0) (by decide +kernel) rfl (Or.inl rfl) ?_
        exact ⟨rfl, by omega⟩
      refine ⟨fun c6 => ?_, fun c6 => ?_⟩
      · show zwW _ _ _ 54 _ _ _ _
        refine zwW_p [(1, 0, 2)] (q := 55) (ls' := [(2, 37), (0, a), (0, b)]) (st' := [(2, 37)]) (by decide +kernel) rfl ?_
        refine zwW_gc I (kd := 13) (bn := 35) (n := 97) (c := 94) (nx := 58) (by decide +kernel) ?_
        refine zwW_p [(1, 1, 0)] (q := 59) (ls' := [(2, 37), (0, a), (0, b)]) (st' := [(0, a), (2, 94)]) (by decide +kernel) rfl ?_
        refine zwW_al I (a1 := 94) (a2 := 94) (kd := 20) (n := 20) (t := 0) (lo := -2147483648) (hi := 2147483647) (nx := 60) (by decide +kernel) (by first | decide | exact ⟨by decide, by decide⟩) (by first | omega | exact ⟨by omega, by omega⟩) ?_
        intro v7 ev7 lv7 uv7
        refine zwW_ret (nx := 61) (a := 0) (b := 0) (by decide +kernel) rfl (Or.inl rfl) ?_
        exact ⟨rfl, by omega⟩
      refine ⟨fun c8 => ?_, fun c8 => ?_⟩
      · show zwW _ _ _ 61 _ _ _ _
        refine zwW_p [(1, 0, 2)] (q := 62) (ls' := [(2, 37), (0, a), (0, b)]) (st' := [(2, 37)]) (by decide +kernel) rfl ?_
        refine zwW_gc I (kd := 13) (bn := 36) (n := 97) (c := 95) (nx := 65) (by decide +kernel) ?_
        refine zwW_p [(1, 1, 0)] (q := 66) (ls' := [(2, 37), (0, a), (0, b)]) (st' := [(0, a), (2, 95)]) (by decide +kernel) rfl ?_
        refine zwW_al I (a1 := 95) (a2 := 95) (kd := 20) (n := 20) (t := 0) (lo := -2147483648) (hi := 2147483647) (nx := 67) (by decide +kernel) (by first | decide | exact ⟨by decide, by decide⟩) (by first | omega | exact ⟨by omega, by omega⟩) ?_
        intro v9 ev9 lv9 uv9
        refine zwW_ret (nx := 68) (a := 0) (b := 0) (by decide +kernel) rfl (Or.inl rfl) ?_
        exact ⟨rfl, by omega⟩
      refine ⟨fun c10 => ?_, fun c10 => ?_⟩
      · show zwW _ _ _ 68 _ _ _ _
        refine zwW_p [(1, 0, 2)] (q := 69) (ls' := [(2, 37), (0, a), (0, b)]) (st' := [(2, 37)]) (by decide +kernel) rfl ?_
        refine zwW_gc I (kd := 13) (bn := 35) (n := 97) (c := 94) (nx := 72) (by decide +kernel) ?_
        refine zwW_p [(1, 1, 0)] (q := 73) (ls' := [(2, 37), (0, a), (0, b)]) (st' := [(0, a), (2, 94)]) (by decide +kernel) rfl ?_
        refine zwW_al I (a1 := 94) (a2 := 94) (kd := 20) (n := 20) (t := 0) (lo := -2147483648) (hi := 2147483647) (nx := 74) (by decide +kernel) (by first | decide | exact ⟨by decide, by decide⟩) (by first | omega | exact ⟨by omega, by omega⟩) ?_
        intro v11 ev11 lv11 uv11
        refine zwW_p [(1, 0, 2)] (q := 75) (ls' := [(2, 37), (0, a), (0, b)]) (st' := [(2, 37), (0, v11)]) (by decide +kernel) rfl ?_
        refine zwW_gc I (kd := 13) (bn := 36) (n := 97) (c := 95) (nx := 78) (by decide +kernel) ?_
        refine zwW_p [(1, 1, 0)] (q := 79) (ls' := [(2, 37), (0, a), (0, b)]) (st' := [(0, a), (2, 95), (0, v11)]) (by decide +kernel) rfl ?_
        refine zwW_al I (a1 := 95) (a2 := 95) (kd := 20) (n := 20) (t := 0) (lo := -2147483648) (hi := 2147483647) (nx := 80) (by decide +kernel) (by first | decide | exact ⟨by decide, by decide⟩) (by first | omega | exact ⟨by omega, by omega⟩) ?_
        intro v12 ev12 lv12 uv12
        refine zwW_sbw (nx := 81) (by decide +kernel) ?_
        intro v13 ev13 lv13 uv13
        refine zwW_cs (k' := 129) (n := 1) (nx := 84) (as := [(0, v13)]) (st' := []) (by decide +kernel) rfl (m129 h v13 (by omega)) rfl ?_
        rintro v14 _ ⟨rfl, f15, f16, f17⟩
        refine zwW_ret (nx := 85) (a := 0) (b := 0) (by decide +kernel) rfl (Or.inl rfl) ?_
        exact ⟨rfl, by omega⟩
      refine ⟨fun c18 => ?_, fun c18 => ?_⟩
      · show zwW _ _ _ 85 _ _ _ _
        refine zwW_p [(1, 0, 2)] (q := 86) (ls' := [(2, 37), (0, a), (0, b)]) (st' := [(2, 37)]) (by decide +kernel) rfl ?_
        refine zwW_gc I (kd := 13) (bn := 37) (n := 97) (c := 96) (nx := 89) (by decide +kernel) ?_
        refine zwW_p [(1, 1, 0)] (q := 90) (ls' := [(2, 37), (0, a), (0, b)]) (st' := [(0, a), (2, 96)]) (by decide +kernel) rfl ?_
        refine zwW_al I (a1 := 96) (a2 := 96) (kd := 20) (n := 20) (t := 0) (lo := -2147483648) (hi := 2147483647) (nx := 91) (by decide +kernel) (by first | decide | exact ⟨by decide, by decide⟩) (by first | omega | exact ⟨by omega, by omega⟩) ?_
        intro v19 ev19 lv19 uv19
        refine zwW_ret (nx := 92) (a := 0) (b := 0) (by decide +kernel) rfl (Or.inl rfl) ?_
        exact ⟨rfl, by omega⟩
      show zwW _ _ _ 92 _ _ _ _
      refine zwW_p [(0, -2147483648, 0)] (q := 95) (ls' := [(2, 37), (0, a), (0, b)]) (st' := [(0, -2147483648)]) (by decide +kernel) rfl ?_
      refine zwW_ret (nx := 96) (a := 0) (b := 0) (by decide +kernel) rfl (Or.inl rfl) ?_
      exact ⟨rfl, by omega⟩
    · exfalso; omega
  · refine zwif_ne (q := 12) (nx := 8) (by decide +kernel) (fun c20 => ?_) (fun c20 => ?_)
    · exfalso; omega
    · refine zwW_p [(0, -2147483648, 0)] (q := 11) (ls' := [(2, 37), (0, a), (0, b)]) (st' := [(0, -2147483648)]) (by decide +kernel) rfl ?_
      refine zwW_ret (nx := 12) (a := 0) (b := 0) (by decide +kernel) rfl (Or.inl rfl) ?_
      exact ⟨rfl, by omega⟩
def ms136 : Zms := [(97, 97, 0, 8), (168, 168, 0, 13)]
-- WheelLandModel.asksOf(III)V
theorem m136 {sc : List Int} (h : Hp) (I : zI h) (a b c : Int) (q_c : -2147483648 ≤ c ∧ c ≤ 2147483647) (p1 : 0 ≤ a) (p2 : a ≤ 19) (p3 : 0 ≤ b) (p4 : b ≤ 299) : zwC sc 5 136 [(2, 37), (0, a), (0, b), (0, c)] h (zwRv (fun g => zI g ∧ zMR ms136 h g)) := by
  refine zwC_of (D := 4) 4 (by decide +kernel) rfl (ls := [(2, 37), (0, a), (0, b), (0, c)]) rfl ?_
  have R : zMR ms136 h h := zMR.rf _ _
  refine zwW_p [(1, 0, 2), (1, 0, 2)] (q := 2) (ls' := [(2, 37), (0, a), (0, b), (0, c)]) (st' := [(2, 37), (2, 37)]) (by decide +kernel) rfl ?_
  refine zwW_gc I (kd := 13) (bn := 58) (n := 97) (c := 170) (nx := 5) (by decide +kernel) ?_
  refine zwW_p [(1, 2, 0)] (q := 6) (ls' := [(2, 37), (0, a), (0, b), (0, c)]) (st' := [(0, b), (2, 170), (2, 37)]) (by decide +kernel) rfl ?_
  refine zwW_al I (a1 := 170) (a2 := 170) (kd := 20) (n := 300) (t := 0) (lo := 0) (hi := 19) (nx := 7) (by decide +kernel) (by first | decide | exact ⟨by decide, by decide⟩) (by first | omega | exact ⟨by omega, by omega⟩) ?_
  intro v1 ev1 lv1 uv1
  refine zwW_p [(1, 0, 2)] (q := 8) (ls' := [(2, 37), (0, a), (0, b), (0, c)]) (st' := [(2, 37), (0, v1), (2, 37)]) (by decide +kernel) rfl ?_
  refine zwW_gc I (kd := 13) (bn := 23) (n := 97) (c := 82) (nx := 11) (by decide +kernel) ?_
  refine zwW_p [(1, 1, 0)] (q := 12) (ls' := [(2, 37), (0, a), (0, b), (0, c)]) (st' := [(0, a), (2, 82), (0, v1), (2, 37)]) (by decide +kernel) rfl ?_
  refine zwW_al I (a1 := 82) (a2 := 82) (kd := 20) (n := 20) (t := 0) (lo := 0) (hi := 5) (nx := 13) (by decide +kernel) (by first | decide | exact ⟨by decide, by decide⟩) (by first | omega | exact ⟨by omega, by omega⟩) ?_
  intro v2 ev2 lv2 uv2
  refine zwW_p [(1, 0, 2)] (q := 14) (ls' := [(2, 37), (0, a), (0, b), (0, c)]) (st' := [(2, 37), (0, v2), (0, v1), (2, 37)]) (by decide +kernel) rfl ?_
  refine zwW_gc I (kd := 13) (bn := 60) (n := 97) (c := 172) (nx := 17) (by decide +kernel) ?_
  refine zwW_p [(1, 2, 0)] (q := 18) (ls' := [(2, 37), (0, a), (0, b), (0, c)]) (st' := [(0, b), (2, 172), (0, v2), (0, v1), (2, 37)]) (by decide +kernel) rfl ?_
  refine zwW_al I (a1 := 172) (a2 := 172) (kd := 20) (n := 300) (t := 0) (lo := -2147483648) (hi := 2147483647) (nx := 19) (by decide +kernel) (by first | decide | exact ⟨by decide, by decide⟩) (by first | omega | exact ⟨by omega, by omega⟩) ?_
  intro v3 ev3 lv3 uv3
  refine zwW_p [(1, 0, 2)] (q := 20) (ls' := [(2, 37), (0, a), (0, b), (0, c)]) (st' := [(2, 37), (0, v3), (0, v2), (0, v1), (2, 37)]) (by decide +kernel) rfl ?_
  refine zwW_gc I (kd := 13) (bn := 61) (n := 97) (c := 173) (nx := 23) (by decide +kernel) ?_
  refine zwW_p [(1, 2, 0)] (q := 24) (ls' := [(2, 37), (0, a), (0, b), (0, c)]) (st' := [(0, b), (2, 173), (0, v3), (0, v2), (0, v1), (2, 37)]) (by decide +kernel) rfl ?_
  refine zwW_al I (a1 := 173) (a2 := 173) (kd := 20) (n := 300) (t := 0) (lo := -2147483648) (hi := 2147483647) (nx := 25) (by decide +kernel) (by first | decide | exact ⟨by decide, by decide⟩) (by first | omega | exact ⟨by omega, by omega⟩) ?_
  intro v4 ev4 lv4 uv4
  refine zwW_p [(1, 3, 0), (1, 0, 2), (1, 0, 2)] (q := 28) (ls' := [(2, 37), (0, a), (0, b), (0, c)]) (st' := [(2, 37), (2, 37), (0, c), (0, v4), (0, v3), (0, v2), (0, v1), (2, 37)]) (by decide +kernel) rfl ?_
  refine zwW_gc I (kd := 13) (bn := 20) (n := 97) (c := 79) (nx := 31) (by decide +kernel) ?_
  refine zwW_p [(1, 0, 2)] (q := 32) (ls' := [(2, 37), (0, a), (0, b), (0, c)]) (st' := [(2, 37), (2, 79), (2, 37), (0, c), (0, v4), (0, v3), (0, v2), (0, v1), (2, 37)]) (by decide +kernel) rfl ?_
  refine zwW_gc I (kd := 13) (bn := 58) (n := 97) (c := 170) (nx := 35) (by decide +kernel) ?_
  refine zwW_p [(1, 2, 0)] (q := 36) (ls' := [(2, 37), (0, a), (0, b), (0, c)]) (st' := [(0, b), (2, 170), (2, 79), (2, 37), (0, c), (0, v4), (0, v3), (0, v2), (0, v1), (2, 37)]) (by decide +kernel) rfl ?_
  refine zwW_al I (a1 := 170) (a2 := 170) (kd := 20) (n := 300) (t := 0) (lo := 0) (hi := 19) (nx := 37) (by decide +kernel) (by first | decide | exact ⟨by decide, by decide⟩) (by first | omega | exact ⟨by omega, by omega⟩) ?_
  intro v5 ev5 lv5 uv5
  refine zwW_al I (a1 := 79) (a2 := 79) (kd := 20) (n := 20) (t := 0) (lo := 0) (hi := 7) (nx := 38) (by decide +kernel) (by first | decide | exact ⟨by decide, by decide⟩) (by first | omega | exact ⟨by omega, by omega⟩) ?_
  intro v6 ev6 lv6 uv6
  refine zwW_p [(1, 0, 2)] (q := 39) (ls' := [(2, 37), (0, a), (0, b), (0, c)]) (st' := [(2, 37), (0, v6), (2, 37), (0, c), (0, v4), (0, v3), (0, v2), (0, v1), (2, 37)]) (by decide +kernel) rfl ?_
  refine zwW_gc I (kd := 13) (bn := 20) (n := 97) (c := 79) (nx := 42) (by decide +kernel) ?_
  refine zwW_p [(1, 1, 0)] (q := 43) (ls' := [(2, 37), (0, a), (0, b), (0, c)]) (st' := [(0, a), (2, 79), (0, v6), (2, 37), (0, c), (0, v4), (0, v3), (0, v2), (0, v1), (2, 37)]) (by decide +kernel) rfl ?_
  refine zwW_al I (a1 := 79) (a2 := 79) (kd := 20) (n := 20) (t := 0) (lo := 0) (hi := 7) (nx := 44) (by decide +kernel) (by first | decide | exact ⟨by decide, by decide⟩) (by first | omega | exact ⟨by omega, by omega⟩) ?_
  intro v7 ev7 lv7 uv7
  refine zwW_cm I (op := 60) (k' := 106) (n := 2) (kd := 13) (m := 97) (nx := 47) (r := 37) (tl := [(0, v6), (0, v7)]) (st' := [(0, c), (0, v4), (0, v3), (0, v2), (0, v1), (2, 37)]) (by decide +kernel) rfl (by decide +kernel) rfl (m106 h I v6 v7 (by omega) (by omega)) ?_
  rintro v8 h12 ⟨Ih12, Qh12, f9, f10, f11⟩
  have Rh12 : zMR ms136 h h12 := R.tr Qh12 (by decide +kernel)
  refine zwW_cmv Ih12 (op := 60) (k' := 176) (n := 6) (kd := 13) (m := 97) (nx := 50) (r := 37) (tl := [(0, v1), (0, v2), (0, v3), (0, v4), (0, c), (0, v8)]) (st' := []) (by decide +kernel) rfl (by decide +kernel) rfl (m176 h12 Ih12 v1 v2 v3 v4 c v8 (by omega) (by omega) (by omega) (by omega) (by omega) (by omega) (by omega)) ?_
  rintro h13 ⟨Ih13, Qh13⟩
  have Rh13 : zMR ms136 h h13 := Rh12.tr Qh13 (by decide +kernel)
  refine zwW_retv (nx := 51) (a := 0) (b := 0) (by decide +kernel) ?_
  exact ⟨Ih13, Rh13⟩
def ms208 : Zms := [(97, 97, 0, 8), (168, 168, 0, 13), (169, 169, 0, 420)]
-- WheelLandModel.barOf(III)I
theorem m208 {sc : List Int} (h : Hp) (I : zI h) (a b c : Int) (q_c : -2147483648 ≤ c ∧ c ≤ 2147483647) (p1 : 0 ≤ a) (p2 : a ≤ 19) (p3 : 0 ≤ b) (p4 : b ≤ 299) (hW : zCW h) : zwC sc 6 208 [(2, 37), (0, a), (0, b), (0, c)] h (zwRt 0 (fun x g => zI g ∧ zMR ms208 h g ∧ (-2147483648 ≤ x ∧ x ≤ 2147483647) ∧ (0 ≤ x ∧ x ≤ 5) ∧ (x = 0 → 0 < fld h 91 a.toNat))) := by
  refine zwC_of (D := 5) 4 (by decide +kernel) rfl (ls := [(2, 37), (0, a), (0, b), (0, c)]) rfl ?_
  have R : zMR ms208 h h := zMR.rf _ _
  refine zwW_p [(1, 0, 2), (1, 1, 0)] (q := 2) (ls' := [(2, 37), (0, a), (0, b), (0, c)]) (st' := [(0, a), (2, 37)]) (by decide +kernel) rfl ?_
  refine zwW_cm I (op := 60) (k' := 112) (n := 1) (kd := 13) (m := 97) (nx := 5) (r := 37) (tl := [(0, a)]) (st' := []) (by decide +kernel) rfl (by decide +kernel) rfl (m112 h I a (by omega) (by omega)) ?_
  rintro x _ ⟨rfl, ⟨rfl, c1⟩ | ⟨rfl, c1⟩⟩
  · refine zwif_ne (q := 10) (nx := 8) (by decide +kernel) (fun c2 => ?_) (fun c2 => ?_)
    · refine zwW_p [(1, 0, 2)] (q := 11) (ls' := [(2, 37), (0, a), (0, b), (0, c)]) (st' := [(2, 37)]) (by decide +kernel) rfl ?_
      refine zwW_gc I (kd := 13) (bn := 60) (n := 97) (c := 172) (nx := 14) (by decide +kernel) ?_
      refine zwW_p [(1, 2, 0)] (q := 15) (ls' := [(2, 37), (0, a), (0, b), (0, c)]) (st' := [(0, b), (2, 172)]) (by decide +kernel) rfl ?_
      refine zwW_al I (a1 := 172) (a2 := 172) (kd := 20) (n := 300) (t := 0) (lo := -2147483648) (hi := 2147483647) (nx := 16) (by decide +kernel) (by first | decide | exact ⟨by decide, by decide⟩) (by first | omega | exact ⟨by omega, by omega⟩) ?_
      intro v3 ev3 lv3 uv3
      refine zwW_p [(7, 0, 0), (1, 0, 2)] (q := 18) (ls' := [(2, 37), (0, a), (0, b), (0, c)]) (st' := [(2, 37), (1, v3)]) (by decide +kernel) rfl ?_
      refine zwW_gc I (kd := 13) (bn := 30) (n := 97) (c := 89) (nx := 21) (by decide +kernel) ?_
      refine zwW_p [(1, 1, 0)] (q := 22) (ls' := [(2, 37), (0, a), (0, b), (0, c)]) (st' := [(0, a), (2, 89), (1, v3)]) (by decide +kernel) rfl ?_
      refine zwW_al I (a1 := 89) (a2 := 89) (kd := 20) (n := 20) (t := 0) (lo := -2147483648) (hi := 2147483647) (nx := 23) (by decide +kernel) (by first | decide | exact ⟨by decide, by decide⟩) (by first | omega | exact ⟨by omega, by omega⟩) ?_
      intro v4 ev4 lv4 uv4
      refine zwW_p [(7, 0, 0), (1, 0, 2)] (q := 25) (ls' := [(2, 37), (0, a), (0, b), (0, c)]) (st' := [(2, 37), (1, v4), (1, v3)]) (by decide +kernel) rfl ?_
      refine zwW_gc I (kd := 13) (bn := 31) (n := 97) (c := 90) (nx := 28) (by decide +kernel) ?_
      refine zwW_p [(1, 1, 0)] (q := 29) (ls' := [(2, 37), (0, a), (0, b), (0, c)]) (st' := [(0, a), (2, 90), (1, v4), (1, v3)]) (by decide +kernel) rfl ?_
      refine zwW_al I (a1 := 90) (a2 := 90) (kd := 20) (n := 20) (t := 0) (lo := -2147483648) (hi := 2147483647) (nx := 30) (by decide +kernel) (by first | decide | exact ⟨by decide, by decide⟩) (by first | omega | exact ⟨by omega, by omega⟩) ?_
      intro v5 ev5 lv5 uv5
      refine zwW_p [(7, 0, 0)] (q := 31) (ls' := [(2, 37), (0, a), (0, b), (0, c)]) (st' := [(1, v5), (1, v4), (1, v3)]) (by decide +kernel) rfl ?_
      refine zwW_cs (k' := 101) (n := 3) (nx := 34) (as := [(1, v3), (1, v4), (1, v5)]) (st' := []) (by decide +kernel) rfl (m101 h v3 v4 v5) rfl ?_
      rintro x _ ⟨rfl, ⟨rfl, c6⟩ | ⟨rfl, c6⟩⟩
      · refine zwif_ne (q := 39) (nx := 37) (by decide +kernel) (fun c7 => ?_) (fun c7 => ?_)
        · refine zwW_p [(1, 0, 2)] (q := 40) (ls' := [(2, 37), (0, a), (0, b), (0, c)]) (st' := [(2, 37)]) (by decide +kernel) rfl ?_
          refine zwW_gc I (kd := 13) (bn := 61) (n := 97) (c := 173) (nx := 43) (by decide +kernel) ?_
          refine zwW_p [(1, 2, 0)] (q := 44) (ls' := [(2, 37), (0, a), (0, b), (0, c)]) (st' := [(0, b), (2, 173)]) (by decide +kernel) rfl ?_
          refine zwW_al I (a1 := 173) (a2 := 173) (kd := 20) (n := 300) (t := 0) (lo := -2147483648) (hi := 2147483647) (nx := 45) (by decide +kernel) (by first | decide | exact ⟨by decide, by decide⟩) (by first | omega | exact ⟨by omega, by omega⟩) ?_
          intro v8 ev8 lv8 uv8
          refine zwW_p [(1, 0, 2)] (q := 46) (ls' := [(2, 37), (0, a), (0, b), (0, c)]) (st' := [(2, 37), (0, v8)]) (by decide +kernel) rfl ?_
          refine zwW_gc I (kd := 13) (bn := 60) (n := 97) (c := 172) (nx := 49) (by decide +kernel) ?_
          refine zwW_p [(1, 2, 0)] (q := 50) (ls' := [(2, 37), (0, a), (0, b), (0, c)]) (st' := [(0, b), (2, 172), (0, v8)]) (by decide +kernel) rfl ?_
          refine zwW_al I (a1 := 172) (a2 := 172) (kd := 20) (n := 300) (t := 0) (lo := -2147483648) (hi := 2147483647) (nx := 51) (by decide +kernel) (by first | decide | exact ⟨by decide, by decide⟩) (by first | omega | exact ⟨by omega, by omega⟩) ?_
          intro v9 ev9 lv9 uv9
          refine zwW_p [(0, 30, 0)] (q := 53) (ls' := [(2, 37), (0, a), (0, b), (0, c)]) (st' := [(0, 30), (0, v9), (0, v8)]) (by decide +kernel) rfl ?_
          refine zwW_adw (nx := 54) (by decide +kernel) ?_
          intro v10 ev10 lv10 uv10
          refine zwic_ge (q := 59) (nx := 57) (by decide +kernel) (fun c11 => ?_) (fun c11 => ?_)
          · refine zwW_p [(1, 0, 2), (1, 0, 2)] (q := 61) (ls' := [(2, 37), (0, a), (0, b), (0, c)]) (st' := [(2, 37), (2, 37)]) (by decide +kernel) rfl ?_
            refine zwW_gc I (kd := 13) (bn := 20) (n := 97) (c := 79) (nx := 64) (by decide +kernel) ?_
            refine zwW_p [(1, 0, 2)] (q := 65) (ls' := [(2, 37), (0, a), (0, b), (0, c)]) (st' := [(2, 37), (2, 79), (2, 37)]) (by decide +kernel) rfl ?_
            refine zwW_gc I (kd := 13) (bn := 58) (n := 97) (c := 170) (nx := 68) (by decide +kernel) ?_
            refine zwW_p [(1, 2, 0)] (q := 69) (ls' := [(2, 37), (0, a), (0, b), (0, c)]) (st' := [(0, b), (2, 170), (2, 79), (2, 37)]) (by decide +kernel) rfl ?_
            refine zwW_al I (a1 := 170) (a2 := 170) (kd := 20) (n := 300) (t := 0) (lo := 0) (hi := 19) (nx := 70) (by decide +kernel) (by first | decide | exact ⟨by decide, by decide⟩) (by first | omega | exact ⟨by omega, by omega⟩) ?_
            intro v12 ev12 lv12 uv12
            refine zwW_al I (a1 := 79) (a2 := 79) (kd := 20) (n := 20) (t := 0) (lo := 0) (hi := 7) (nx := 71) (by decide +kernel) (by first | decide | exact ⟨by decide, by decide⟩) (by first | omega | exact ⟨by omega, by omega⟩) ?_
            intro v13 ev13 lv13 uv13
            refine zwW_p [(1, 0, 2)] (q := 72) (ls' := [(2, 37), (0, a), (0, b), (0, c)]) (st' := [(2, 37), (0, v13), (2, 37)]) (by decide +kernel) rfl ?_
            refine zwW_gc I (kd := 13) (bn := 20) (n := 97) (c := 79) (nx := 75) (by decide +kernel) ?_
            refine zwW_p [(1, 1, 0)] (q := 76) (ls' := [(2, 37), (0, a), (0, b), (0, c)]) (st' := [(0, a), (2, 79), (0, v13), (2, 37)]) (by decide +kernel) rfl ?_
            refine zwW_al I (a1 := 79) (a2 := 79) (kd := 20) (n := 20) (t := 0) (lo := 0) (hi := 7) (nx := 77) (by decide +kernel) (by first | decide | exact ⟨by decide, by decide⟩) (by first | omega | exact ⟨by omega, by omega⟩) ?_
            intro v14 ev14 lv14 uv14
            refine zwW_cm I (op := 60) (k' := 106) (n := 2) (kd := 13) (m := 97) (nx := 80) (r := 37) (tl := [(0, v13), (0, v14)]) (st' := []) (by decide +kernel) rfl (by decide +kernel) rfl (m106 h I v13 v14 (by omega) (by omega)) ?_
            rintro v15 h19 ⟨Ih19, Qh19, f16, f17, f18⟩
            have Rh19 : zMR ms208 h h19 := R.tr Qh19 (by decide +kernel)
            refine zwW_p [(0, -1, 0)] (q := 81) (ls' := [(2, 37), (0, a), (0, b), (0, c)]) (st' := [(0, -1), (0, v15)]) (by decide +kernel) rfl ?_
            refine zwic_ne (q := 86) (nx := 84) (by decide +kernel) (fun c20 => ?_) (fun c20 => ?_)
            · refine zwW_p [(1, 0, 2), (1, 1, 0), (1, 2, 0), (1, 3, 0)] (q := 90) (ls' := [(2, 37), (0, a), (0, b), (0, c)]) (st' := [(0, c), (0, b), (0, a), (2, 37)]) (by decide +kernel) rfl ?_
              refine zwW_cmv Ih19 (op := 60) (k' := 136) (n := 3) (kd := 13) (m := 97) (nx := 93) (r := 37) (tl := [(0, a), (0, b), (0, c)]) (st' := []) (by decide +kernel) rfl (by decide +kernel) rfl (m136 h19 Ih19 a b c (by omega) (by omega) (by omega) (by omega) (by omega)) ?_
              rintro h21 ⟨Ih21, Qh21⟩
              have Rh21 : zMR ms208 h h21 := Rh19.tr Qh21 (by decide +kernel)
              refine zwW_p [(1, 0, 2), (0, 3, 0)] (q := 95) (ls' := [(2, 37), (0, a), (0, b), (0, c)]) (st' := [(0, 3), (2, 37)]) (by decide +kernel) rfl ?_
              refine zwW_cm Ih21 (op := 60) (k' := 137) (n := 1) (kd := 13) (m := 97) (nx := 98) (r := 37) (tl := [(0, 3)]) (st' := []) (by decide +kernel) rfl (by decide +kernel) rfl (m137 h21 Ih21 3 (by omega) (by omega) (hW.mr I Rh21 (by decide +kernel))) ?_
              rintro v22 h24 ⟨Ih24, Qh24, f23⟩
              have Rh24 : zMR ms208 h h24 := Rh21.tr Qh24 (by decide +kernel)
              refine zwW_p [(0, 1, 0)] (q := 99) (ls' := [(2, 37), (0, a), (0, b), (0, c)]) (st' := [(0, 1), (0, v22)]) (by decide +kernel) rfl ?_
              refine zwic_ne (q := 106) (nx := 102) (by decide +kernel) (fun c25 => ?_) (fun c25 => ?_)
              · refine zwW_p [(0, 5, 0)] (q := 107) (ls' := [(2, 37), (0, a), (0, b), (0, c)]) (st' := [(0, 5)]) (by decide +kernel) rfl ?_
                refine zwW_ret (nx := 108) (a := 0) (b := 0) (by decide +kernel) rfl (Or.inl rfl) ?_
                exact ⟨Ih24, Rh24, by omega, by omega, by omega⟩
              · refine zwW_p [(0, 0, 0), (24, 107, 0)] (q := 107) (ls' := [(2, 37), (0, a), (0, b), (0, c)]) (st' := [(0, 0)]) (by decide +kernel) rfl ?_
                refine zwW_ret (nx := 108) (a := 0) (b := 0) (by decide +kernel) rfl (Or.inl rfl) ?_
                exact ⟨Ih24, Rh24, by omega, by omega, by omega⟩
            · refine zwW_p [(0, 4, 0)] (q := 85) (ls' := [(2, 37), (0, a), (0, b), (0, c)]) (st' := [(0, 4)]) (by decide +kernel) rfl ?_
              refine zwW_ret (nx := 86) (a := 0) (b := 0) (by decide +kernel) rfl (Or.inl rfl) ?_
              exact ⟨Ih19, Rh19, by omega, by omega, by omega⟩
          · refine zwW_p [(0, 3, 0)] (q := 58) (ls' := [(2, 37), (0, a), (0, b), (0, c)]) (st' := [(0, 3)]) (by decide +kernel) rfl ?_
            refine zwW_ret (nx := 59) (a := 0) (b := 0) (by decide +kernel) rfl (Or.inl rfl) ?_
            exact ⟨I, R, by omega, by omega, by omega⟩
        · exfalso; omega
      · refine zwif_ne (q := 39) (nx := 37) (by decide +kernel) (fun c26 => ?_) (fun c26 => ?_)
        · exfalso; omega
        · refine zwW_p [(0, 2, 0)] (q := 38) (ls' := [(2, 37), (0, a), (0, b), (0, c)]) (st' := [(0, 2)]) (by decide +kernel) rfl ?_
          refine zwW_ret (nx := 39) (a := 0) (b := 0) (by decide +kernel) rfl (Or.inl rfl) ?_
          exact ⟨I, R, by omega, by omega, by omega⟩
    · exfalso; omega
  · refine zwif_ne (q := 10) (nx := 8) (by decide +kernel) (fun c27 => ?_) (fun c27 => ?_)
    · exfalso; omega
    · refine zwW_p [(0, 1, 0)] (q := 9) (ls' := [(2, 37), (0, a), (0, b), (0, c)]) (st' := [(0, 1)]) (by decide +kernel) rfl ?_
      refine zwW_ret (nx := 10) (a := 0) (b := 0) (by decide +kernel) rfl (Or.inl rfl) ?_
      exact ⟨I, R, by omega, by omega, by omega⟩
def ms133 : Zms := [(97, 97, 0, 8), (168, 168, 0, 13), (169, 169, 0, 420)]
-- WheelLandModel.barred(III)I
theorem m133 {sc : List Int} (h : Hp) (I : zI h) (a b c : Int) (q_c : -2147483648 ≤ c ∧ c ≤ 2147483647) (p1 : 0 ≤ a) (p2 : a ≤ 19) (p3 : 0 ≤ b) (p4 : b ≤ 299) (hW : zCW h) : zwC sc 7 133 [(2, 37), (0, a), (0, b), (0, c)] h (zwRt 0 (fun x g => zI g ∧ zMR ms133 h g ∧ (-2147483648 ≤ x ∧ x ≤ 2147483647) ∧ (0 ≤ x ∧ x ≤ 7) ∧ (x = 0 → 0 < fld h 91 a.toNat))) := by
  refine zwC_of (D := 6) 5 (by decide +kernel) rfl (ls := [(2, 37), (0, a), (0, b), (0, c), (9, 0)]) rfl ?_
  have R : zMR ms133 h h := zMR.rf _ _
  refine zwW_p [(1, 0, 2), (1, 1, 0), (1, 2, 0), (1, 3, 0)] (q := 4) (ls' := [(2, 37), (0, a), (0, b), (0, c), (9, 0)]) (st' := [(0, c), (0, b), (0, a), (2, 37)]) (by decide +kernel) rfl ?_
  refine zwW_cm I (op := 60) (k' := 208) (n := 3) (kd := 13) (m := 97) (nx := 7) (r := 37) (tl := [(0, a), (0, b), (0, c)]) (st' := []) (by decide +kernel) rfl (by decide +kernel) rfl (m208 h I a b c (by omega) (by omega) (by omega) (by omega) (by omega) (hW.mr I R (by decide +kernel))) ?_
  rintro v1 h5 ⟨Ih5, Qh5, f2, f3, f4⟩
  have Rh5 : zMR ms133 h h5 := R.tr Qh5 (by decide +kernel)
  refine zwW_p [(2, 4, 0), (1, 4, 0)] (q := 11) (ls' := [(2, 37), (0, a), (0, b), (0, c), (0, v1)]) (st' := [(0, v1)]) (by decide +kernel) rfl ?_
  refine zwif_eq (q := 19) (nx := 14) (by decide +kernel) (fun c6 => ?_) (fun c6 => ?_)
  · refine zwW_p [(1, 0, 2)] (q := 20) (ls' := [(2, 37), (0, a), (0, b), (0, c), (0, v1)]) (st' := [(2, 37)]) (by decide +kernel) rfl ?_
    refine zwW_gc Ih5 (kd := 13) (bn := 63) (n := 97) (c := 175) (nx := 23) (by decide +kernel) ?_
    refine zwW_p [(1, 2, 0)] (q := 24) (ls' := [(2, 37), (0, a), (0, b), (0, c), (0, v1)]) (st' := [(0, b), (2, 175)]) (by decide +kernel) rfl ?_
    refine zwW_al Ih5 (a1 := 175) (a2 := 175) (kd := 20) (n := 300) (t := 0) (lo := -2147483648) (hi := 2147483647) (nx := 25) (by decide +kernel) (by first | decide | exact ⟨by decide, by decide⟩) (by first | omega | exact ⟨by omega, by omega⟩) ?_
    intro v7 ev7 lv7 uv7
    refine zwW_p [(1, 3, 0)] (q := 26) (ls' := [(2, 37), (0, a), (0, b), (0, c), (0, v1)]) (st' := [(0, c), (0, v7)]) (by decide +kernel) rfl ?_
    refine zwic_ge (q := 34) (nx := 29) (by decide +kernel) (fun c8 => ?_) (fun c8 => ?_)
    · refine zwW_p [(1, 0, 2)] (q := 35) (ls' := [(2, 37), (0, a), (0, b), (0, c), (0, v1)]) (st' := [(2, 37)]) (by decide +kernel) rfl ?_
      refine zwW_gc Ih5 (kd := 13) (bn := 32) (n := 97) (c := 91) (nx := 38) (by decide +kernel) ?_
      refine zwW_p [(1, 1, 0)] (q := 39) (ls' := [(2, 37), (0, a), (0, b), (0, c), (0, v1)]) (st' := [(0, a), (2, 91)]) (by decide +kernel) rfl ?_
      refine zwW_al Ih5 (a1 := 91) (a2 := 91) (kd := 20) (n := 20) (t := 0) (lo := -2147483648) (hi := 2147483647) (nx := 40) (by decide +kernel) (by first | decide | exact ⟨by decide, by decide⟩) (by first | omega | exact ⟨by omega, by omega⟩) ?_
      intro v9 ev9 lv9 uv9
      refine zwW_p [(1, 0, 2)] (q := 41) (ls' := [(2, 37), (0, a), (0, b), (0, c), (0, v1)]) (st' := [(2, 37), (0, v9)]) (by decide +kernel) rfl ?_
      refine zwW_gc Ih5 (kd := 13) (bn := 33) (n := 97) (c := 92) (nx := 44) (by decide +kernel) ?_
      refine zwW_p [(1, 1, 0)] (q := 45) (ls' := [(2, 37), (0, a), (0, b), (0, c), (0, v1)]) (st' := [(0, a), (2, 92), (0, v9)]) (by decide +kernel) rfl ?_
      refine zwW_al Ih5 (a1 := 92) (a2 := 92) (kd := 20) (n := 20) (t := 0) (lo := -2147483648) (hi := 2147483647) (nx := 46) (by decide +kernel) (by first | decide | exact ⟨by decide, by decide⟩) (by first | omega | exact ⟨by omega, by omega⟩) ?_
      intro v10 ev10 lv10 uv10
      refine zwW_sbw (nx := 47) (by decide +kernel) ?_
      intro v11 ev11 lv11 uv11
      refine zwW_p [(1, 3, 0)] (q := 48) (ls' := [(2, 37), (0, a), (0, b), (0, c), (0, v1)]) (st' := [(0, c), (0, v11)]) (by decide +kernel) rfl ?_
      refine zwic_ge (q := 56) (nx := 51) (by decide +kernel) (fun c12 => ?_) (fun c12 => ?_)
      · refine zwW_p [(0, 0, 0)] (q := 57) (ls' := [(2, 37), (0, a), (0, b), (0, c), (0, v1)]) (st' := [(0, 0)]) (by decide +kernel) rfl ?_
        refine zwW_ret (nx := 58) (a := 0) (b := 0) (by decide +kernel) rfl (Or.inl rfl) ?_
        exact ⟨Ih5, Rh5, by omega, by omega, by omega⟩
      · refine zwW_p [(0, 7, 0), (24, 57, 0)] (q := 57) (ls' := [(2, 37), (0, a), (0, b), (0, c), (0, v1)]) (st' := [(0, 7)]) (by decide +kernel) rfl ?_
        refine zwW_ret (nx := 58) (a := 0) (b := 0) (by decide +kernel) rfl (Or.inl rfl) ?_
        exact ⟨Ih5, Rh5, by omega, by omega, by omega⟩
    · refine zwW_p [(0, 6, 0), (24, 57, 0)] (q := 57) (ls' := [(2, 37), (0, a), (0, b), (0, c), (0, v1)]) (st' := [(0, 6)]) (by decide +kernel) rfl ?_
      refine zwW_ret (nx := 58) (a := 0) (b := 0) (by decide +kernel) rfl (Or.inl rfl) ?_
      exact ⟨Ih5, Rh5, by omega, by omega, by omega⟩
  · refine zwW_p [(1, 4, 0), (24, 57, 0)] (q := 57) (ls' := [(2, 37), (0, a), (0, b), (0, c), (0, v1)]) (st' := [(0, v1)]) (by decide +kernel) rfl ?_
    refine zwW_ret (nx := 58) (a := 0) (b := 0) (by decide +kernel) rfl (Or.inl rfl) ?_
    exact ⟨Ih5, Rh5, by omega, by omega, by omega⟩
-- WheelLandModel.canAsk(III)Z
theorem m132 {sc : List Int} (h : Hp) (I : zI h) (a b c : Int) (q_c : -2147483648 ≤ c ∧ c ≤ 2147483647) : zwC sc 3 132 [(2, 37), (0, a), (0, b), (0, c)] h (zwRt 0 (fun x g => h = g ∧ ((x = 1 ∧ (0 ≤ a ∧ a ≤ 19 ∧ a < fld h 37 2 ∧ 0 ≤ b ∧ b ≤ 299 ∧ b < fld h 37 64 ∧ 2 ≤ c ∧ c ≤ 100)) ∨ (x = 0 ∧ (True))))) := by
  refine zwC_of (D := 2) 4 (by decide +kernel) rfl (ls := [(2, 37), (0, a), (0, b), (0, c)]) rfl ?_
  refine zwW_p [(1, 0, 2), (1, 1, 0)] (q := 2) (ls' := [(2, 37), (0, a), (0, b), (0, c)]) (st' := [(0, a), (2, 37)]) (by decide +kernel) rfl ?_
  refine zwW_cm I (op := 60) (k' := 111) (n := 1) (kd := 13) (m := 97) (nx := 5) (r := 37) (tl := [(0, a)]) (st' := []) (by decide +kernel) rfl (by decide +kernel) rfl (m111 h I a) ?_
  rintro x _ ⟨rfl, ⟨rfl, c1⟩ | ⟨rfl, c1⟩⟩
  · refine zwif_eq (q := 40) (nx := 8) (by decide +kernel) (fun c2 => ?_) (fun c2 => ?_)
    · exfalso; omega
    · refine zwW_p [(1, 0, 2), (1, 2, 0)] (q := 10) (ls' := [(2, 37), (0, a), (0, b), (0, c)]) (st' := [(0, b), (2, 37)]) (by decide +kernel) rfl ?_
      refine zwW_cm I (op := 60) (k' := 116) (n := 1) (kd := 13) (m := 97) (nx := 13) (r := 37) (tl := [(0, b)]) (st' := []) (by decide +kernel) rfl (by decide +kernel) rfl (m116 h I b) ?_
      rintro x _ ⟨rfl, ⟨rfl, c3⟩ | ⟨rfl, c3⟩⟩
      · refine zwif_eq (q := 40) (nx := 16) (by decide +kernel) (fun c4 => ?_) (fun c4 => ?_)
        · exfalso; omega
        · refine zwW_p [(1, 3, 0), (0, 2, 0)] (q := 18) (ls' := [(2, 37), (0, a), (0, b), (0, c)]) (st' := [(0, 2), (0, c)]) (by decide +kernel) rfl ?_
          refine zwW_tmod (nx := 19) (by decide +kernel) (by omega) ?_
          refine zwif_ne (q := 40) (nx := 22) (by decide +kernel) (fun c5 => ?_) (fun c5 => ?_)
          · refine zwW_p [(0, 0, 0)] (q := 41) (ls' := [(2, 37), (0, a), (0, b), (0, c)]) (st' := [(0, 0)]) (by decide +kernel) rfl ?_
            refine zwW_ret (nx := 42) (a := 1) (b := 0) (by decide +kernel) rfl (Or.inr (Or.inl ⟨rfl, Or.inl rfl⟩)) ?_
            exact ⟨rfl, Or.inr ⟨rfl, by trivial⟩⟩
          · refine zwW_p [(1, 3, 0), (7, 0, 0), (0, 2, 1), (0, 100, 1)] (q := 30) (ls' := [(2, 37), (0, a), (0, b), (0, c)]) (st' := [(1, 100), (1, 2), (1, c)]) (by decide +kernel) rfl ?_
            refine zwW_cs (k' := 101) (n := 3) (nx := 33) (as := [(1, c), (1, 2), (1, 100)]) (st' := []) (by decide +kernel) rfl (m101 h c 2 100) rfl ?_
            rintro x _ ⟨rfl, ⟨rfl, c6⟩ | ⟨rfl, c6⟩⟩
            · refine zwif_eq (q := 40) (nx := 36) (by decide +kernel) (fun c7 => ?_) (fun c7 => ?_)
              · exfalso; omega
              · refine zwW_p [(0, 1, 0), (24, 41, 0)] (q := 41) (ls' := [(2, 37), (0, a), (0, b), (0, c)]) (st' := [(0, 1)]) (by decide +kernel) rfl ?_
                refine zwW_ret (nx := 42) (a := 1) (b := 0) (by decide +kernel) rfl (Or.inr (Or.inl ⟨rfl, Or.inr rfl⟩)) ?_
                exact ⟨rfl, Or.inl ⟨rfl, by omega⟩⟩
            · refine zwif_eq (q := 40) (nx := 36) (by decide +kernel) (fun c8 => ?_) (fun c8 => ?_)
              · refine zwW_p [(0, 0, 0)] (q := 41) (ls' := [(2, 37), (0, a), (0, b), (0, c)]) (st' := [(0, 0)]) (by decide +kernel) rfl ?_
                refine zwW_ret (nx := 42) (a := 1) (b := 0) (by decide +kernel) rfl (Or.inr (Or.inl ⟨rfl, Or.inl rfl⟩)) ?_
                exact ⟨rfl, Or.inr ⟨rfl, by trivial⟩⟩
              · exfalso; omega
      · refine zwif_eq (q := 40) (nx := 16) (by decide +kernel) (fun c9 => ?_) (fun c9 => ?_)
        · refine zwW_p [(0, 0, 0)] (q := 41) (ls' := [(2, 37), (0, a), (0, b), (0, c)]) (st' := [(0, 0)]) (by decide +kernel) rfl ?_
          refine zwW_ret (nx := 42) (a := 1) (b := 0) (by decide +kernel) rfl (Or.inr (Or.inl ⟨rfl, Or.inl rfl⟩)) ?_
          exact ⟨rfl, Or.inr ⟨rfl, by trivial⟩⟩
        · exfalso; omega
  · refine zwif_eq (q := 40) (nx := 8) (by decide +kernel) (fun c10 => ?_) (fun c10 => ?_)
    · refine zwW_p [(0, 0, 0)] (q := 41) (ls' := [(2, 37), (0, a), (0, b), (0, c)]) (st' := [(0, 0)]) (by decide +kernel) rfl ?_
      refine zwW_ret (nx := 42) (a := 1) (b := 0) (by decide +kernel) rfl (Or.inr (Or.inl ⟨rfl, Or.inl rfl⟩)) ?_
      exact ⟨rfl, Or.inr ⟨rfl, by trivial⟩⟩
    · exfalso; omega
def ms40 : Zms := [(97, 97, 0, 8), (168, 168, 0, 13), (169, 169, 0, 420)]
-- WheelLandModel.bar(III)I
theorem m40 {sc : List Int} (h : Hp) (I : zI h) (a b c : Int) (q_c : -2147483648 ≤ c ∧ c ≤ 2147483647) (hW : zCW h) : zwC sc 8 40 [(2, 37), (0, a), (0, b), (0, c)] h (zwRt 0 (fun x g => zI g ∧ zMR ms40 h g ∧ (-2147483648 ≤ x ∧ x ≤ 2147483647))) := by
  refine zwC_of (D := 7) 4 (by decide +kernel) rfl (ls := [(2, 37), (0, a), (0, b), (0, c)]) rfl ?_
  have R : zMR ms40 h h := zMR.rf _ _
  refine zwW_p [(1, 0, 2), (1, 1, 0), (1, 2, 0), (1, 3, 0)] (q := 4) (ls' := [(2, 37), (0, a), (0, b), (0, c)]) (st' := [(0, c), (0, b), (0, a), (2, 37)]) (by decide +kernel) rfl ?_
  refine zwW_cm I (op := 60) (k' := 132) (n := 3) (kd := 13) (m := 97) (nx := 7) (r := 37) (tl := [(0, a), (0, b), (0, c)]) (st' := []) (by decide +kernel) rfl (by decide +kernel) rfl (m132 h I a b c (by omega)) ?_
  rintro x _ ⟨rfl, ⟨rfl, c1⟩ | ⟨rfl, c1⟩⟩
  · refine zwif_eq (q := 20) (nx := 10) (by decide +kernel) (fun c2 => ?_) (fun c2 => ?_)
    · exfalso; omega
    · refine zwW_p [(1, 0, 2), (1, 1, 0), (1, 2, 0), (1, 3, 0)] (q := 14) (ls' := [(2, 37), (0, a), (0, b), (0, c)]) (st' := [(0, c), (0, b), (0, a), (2, 37)]) (by decide +kernel) rfl ?_
      refine zwW_cm I (op := 60) (k' := 133) (n := 3) (kd := 13) (m := 97) (nx := 17) (r := 37) (tl := [(0, a), (0, b), (0, c)]) (st' := []) (by decide +kernel) rfl (by decide +kernel) rfl (m133 h I a b c (by omega) (by omega) (by omega) (by omega) (by omega) (hW.mr I R (by decide +kernel))) ?_
      rintro v3 h7 ⟨Ih7, Qh7, f4, f5, f6⟩
      have Rh7 : zMR ms40 h h7 := R.tr Qh7 (by decide +kernel)
      refine zwW_p [(24, 21, 0)] (q := 21) (ls' := [(2, 37), (0, a), (0, b), (0, c)]) (st' := [(0, v3)]) (by decide +kernel) rfl ?_
      refine zwW_ret (nx := 22) (a := 0) (b := 0) (by decide +kernel) rfl (Or.inl rfl) ?_
      exact ⟨Ih7, Rh7, by omega⟩
  · refine zwif_eq (q := 20) (nx := 10) (by decide +kernel) (fun c8 => ?_) (fun c8 => ?_)
    · refine zwW_p [(0, -1, 0)] (q := 21) (ls' := [(2, 37), (0, a), (0, b), (0, c)]) (st' := [(0, -1)]) (by decide +kernel) rfl ?_
      refine zwW_ret (nx := 22) (a := 0) (b := 0) (by decide +kernel) rfl (Or.inl rfl) ?_
      exact ⟨I, R, by omega⟩
    · exfalso; omega
def ms42 : Zms := [(37, 37, 70, 71), (37, 37, 78, 79), (84, 84, 0, 20), (92, 92, 0, 20), (97, 97, 0, 8), (168, 168, 0, 13), (169, 169, 0, 420), (175, 175, 0, 300), (180, 180, 0, 200), (181, 181, 0, 200), (182, 182, 0, 200), (183, 183, 0, 200), (184, 184, 0, 200), (185, 185, 0, 200)]
-- WheelLandModel.weave(III)I
theorem m42 {sc : List Int} (h : Hp) (I : zI h) (a b c : Int) (q_c : -2147483648 ≤ c ∧ c ≤ 2147483647) (hW : zCW h) : zwC sc 8 42 [(2, 37), (0, a), (0, b), (0, c)] h (zwRt 0 (fun x g => zI g ∧ zMR ms42 h g ∧ (-2147483648 ≤ x ∧ x ≤ 2147483647))) := by
  refine zwC_of (D := 7) 5 (by decide +kernel) rfl (ls := [(2, 37), (0, a), (0, b), (0, c), (9, 0)]) rfl ?_
  have R : zMR ms42 h h := zMR.rf _ _
  refine zwW_p [(1, 0, 2), (1, 1, 0), (1, 2, 0), (1, 3, 0)] (q := 4) (ls' := [(2, 37), (0, a), (0, b), (0, c), (9, 0)]) (st' := [(0, c), (0, b), (0, a), (2, 37)]) (by decide +kernel) rfl ?_
  refine zwW_cm I (op := 60) (k' := 132) (n := 3) (kd := 13) (m := 97) (nx := 7) (r := 37) (tl := [(0, a), (0, b), (0, c)]) (st' := []) (by decide +kernel) rfl (by decide +kernel) rfl (m132 h I a b c (by omega)) ?_
  rintro x _ ⟨rfl, ⟨rfl, c1⟩ | ⟨rfl, c1⟩⟩
  · refine zwif_eq (q := 40) (nx := 10) (by decide +kernel) (fun c2 => ?_) (fun c2 => ?_)
    · exfalso; omega
    · refine zwW_p [(1, 0, 2)] (q := 11) (ls' := [(2, 37), (0, a), (0, b), (0, c), (9, 0)]) (st' := [(2, 37)]) (by decide +kernel) rfl ?_
      refine zwW_gs I (kd := 13) (bn := 78) (n := 97) (t := 0) (lo := 0) (hi := 200) (nx := 14) (by decide +kernel) ?_
      intro v3 ev3 lv3 uv3
      refine zwW_p [(0, 200, 0)] (q := 17) (ls' := [(2, 37), (0, a), (0, b), (0, c), (9, 0)]) (st' := [(0, 200), (0, v3)]) (by decide +kernel) rfl ?_
      refine zwic_eq (q := 40) (nx := 20) (by decide +kernel) (fun c4 => ?_) (fun c4 => ?_)
      · refine zwW_p [(0, -1, 0)] (q := 41) (ls' := [(2, 37), (0, a), (0, b), (0, c), (9, 0)]) (st' := [(0, -1)]) (by decide +kernel) rfl ?_
        refine zwW_ret (nx := 42) (a := 0) (b := 0) (by decide +kernel) rfl (Or.inl rfl) ?_
        exact ⟨I, R, by omega⟩
      · refine zwW_p [(1, 0, 2)] (q := 21) (ls' := [(2, 37), (0, a), (0, b), (0, c), (9, 0)]) (st' := [(2, 37)]) (by decide +kernel) rfl ?_
        refine zwW_gs I (kd := 13) (bn := 0) (n := 97) (t := 0) (lo := 0) (hi := 156) (nx := 24) (by decide +kernel) ?_
        intro v5 ev5 lv5 uv5
        refine zwW_p [(0, 156, 0)] (q := 27) (ls' := [(2, 37), (0, a), (0, b), (0, c), (9, 0)]) (st' := [(0, 156), (0, v5)]) (by decide +kernel) rfl ?_
        refine zwic_eq (q := 40) (nx := 30) (by decide +kernel) (fun c6 => ?_) (fun c6 => ?_)
        · refine zwW_p [(0, -1, 0)] (q := 41) (ls' := [(2, 37), (0, a), (0, b), (0, c), (9, 0)]) (st' := [(0, -1)]) (by decide +kernel) rfl ?_
          refine zwW_ret (nx := 42) (a := 0) (b := 0) (by decide +kernel) rfl (Or.inl rfl) ?_
          exact ⟨I, R, by omega⟩
        · refine zwW_p [(1, 0, 2), (1, 1, 0), (1, 2, 0), (1, 3, 0)] (q := 34) (ls' := [(2, 37), (0, a), (0, b), (0, c), (9, 0)]) (st' := [(0, c), (0, b), (0, a), (2, 37)]) (by decide +kernel) rfl ?_
          refine zwW_cm I (op := 60) (k' := 133) (n := 3) (kd := 13) (m := 97) (nx := 37) (r := 37) (tl := [(0, a), (0, b), (0, c)]) (st' := []) (by decide +kernel) rfl (by decide +kernel) rfl (m133 h I a b c (by omega) (by omega) (by omega) (by omega) (by omega) (hW.mr I R (by decide +kernel))) ?_
          rintro v7 h11 ⟨Ih11, Qh11, f8, f9, f10⟩
          have Rh11 : zMR ms42 h h11 := R.tr Qh11 (by decide +kernel)
          have th11_37_78 : fld h11 37 78 = fld h 37 78 := Qh11.f (a1 := 37) (a2 := 37) (j1 := 78) (j2 := 79) (by decide +kernel) (by first | decide | exact ⟨by decide, by decide⟩) (by first | decide | exact ⟨by decide, by decide⟩)
          refine zwif_eq (q := 42) (nx := 40) (by decide +kernel) (fun c12 => ?_) (fun c12 => ?_)
          · refine zwW_p [(1, 0, 2), (1, 1, 0), (1, 2, 0), (1, 3, 0)] (q := 46) (ls' := [(2, 37), (0, a), (0, b), (0, c), (9, 0)]) (st' := [(0, c), (0, b), (0, a), (2, 37)]) (by decide +kernel) rfl ?_
            refine zwW_cmv Ih11 (op := 60) (k' := 136) (n := 3) (kd := 13) (m := 97) (nx := 49) (r := 37) (tl := [(0, a), (0, b), (0, c)]) (st' := []) (by decide +kernel) rfl (by decide +kernel) rfl (m136 h11 Ih11 a b c (by omega) (by omega) (by omega) (by omega) (by omega)) ?_
            rintro h13 ⟨Ih13, Qh13⟩
            have Rh13 : zMR ms42 h h13 := Rh11.tr Qh13 (by decide +kernel)
            have th13_37_78 : fld h13 37 78 = fld h11 37 78 := Qh13.f (a1 := 37) (a2 := 37) (j1 := 78) (j2 := 79) (by decide +kernel) (by first | decide | exact ⟨by decide, by decide⟩) (by first | decide | exact ⟨by decide, by decide⟩)
            refine zwW_p [(1, 0, 2), (0, 1, 0)] (q := 51) (ls' := [(2, 37), (0, a), (0, b), (0, c), (9, 0)]) (st' := [(0, 1), (2, 37)]) (by decide +kernel) rfl ?_
            refine zwW_cm Ih13 (op := 60) (k' := 137) (n := 1) (kd := 13) (m := 97) (nx := 54) (r := 37) (tl := [(0, 1)]) (st' := []) (by decide +kernel) rfl (by decide +kernel) rfl (m137 h13 Ih13 1 (by omega) (by omega) (hW.mr I Rh13 (by decide +kernel))) ?_
            rintro v14 h16 ⟨Ih16, Qh16, f15⟩
            have Rh16 : zMR ms42 h h16 := Rh13.tr Qh16 (by decide +kernel)
            have th16_37_78 : fld h16 37 78 = fld h13 37 78 := Qh16.f (a1 := 37) (a2 := 37) (j1 := 78) (j2 := 79) (by decide +kernel) (by first | decide | exact ⟨by decide, by decide⟩) (by first | decide | exact ⟨by decide, by decide⟩)
            refine zwW_cs (k' := 129) (n := 1) (nx := 57) (as := [(0, v14)]) (st' := []) (by decide +kernel) rfl (m129 h16 v14 (by omega)) rfl ?_
            rintro v17 _ ⟨rfl, f18, f19, f20⟩
            refine zwW_p [(2, 4, 0), (1, 0, 2), (1, 1, 0), (1, 2, 0), (1, 3, 0)] (q := 63) (ls' := [(2, 37), (0, a), (0, b), (0, c), (0, v17)]) (st' := [(0, c), (0, b), (0, a), (2, 37)]) (by decide +kernel) rfl ?_
            refine zwW_cmv Ih16 (op := 60) (k' := 136) (n := 3) (kd := 13) (m := 97) (nx := 66) (r := 37) (tl := [(0, a), (0, b), (0, c)]) (st' := []) (by decide +kernel) rfl (by decide +kernel) rfl (m136 h16 Ih16 a b c (by omega) (by omega) (by omega) (by omega) (by omega)) ?_
            rintro h21 ⟨Ih21, Qh21⟩
            have Rh21 : zMR ms42 h h21 := Rh16.tr Qh21 (by decide +kernel)
            have th21_37_78 : fld h21 37 78 = fld h16 37 78 := Qh21.f (a1 := 37) (a2 := 37) (j1 := 78) (j2 := 79) (by decide +kernel) (by first | decide | exact ⟨by decide, by decide⟩) (by first | decide | exact ⟨by decide, by decide⟩)
            refine zwW_p [(1, 0, 2)] (q := 67) (ls' := [(2, 37), (0, a), (0, b), (0, c), (0, v17)]) (st' := [(2, 37)]) (by decide +kernel) rfl ?_
            refine zwW_gc Ih21 (kd := 13) (bn := 77) (n := 97) (c := 185) (nx := 70) (by decide +kernel) ?_
            refine zwW_p [(1, 0, 2)] (q := 71) (ls' := [(2, 37), (0, a), (0, b), (0, c), (0, v17)]) (st' := [(2, 37), (2, 185)]) (by decide +kernel) rfl ?_
            refine zwW_gs Ih21 (kd := 13) (bn := 78) (n := 97) (t := 0) (lo := 0) (hi := 200) (nx := 74) (by decide +kernel) ?_
            intro v22 ev22 lv22 uv22
            refine zwW_p [(1, 0, 2), (0, 4, 0)] (q := 76) (ls' := [(2, 37), (0, a), (0, b), (0, c), (0, v17)]) (st' := [(0, 4), (2, 37), (0, v22), (2, 185)]) (by decide +kernel) rfl ?_
            refine zwW_cm Ih21 (op := 60) (k' := 137) (n := 1) (kd := 13) (m := 97) (nx := 79) (r := 37) (tl := [(0, 4)]) (st' := [(0, v22), (2, 185)]) (by decide +kernel) rfl (by decide +kernel) rfl (m137 h21 Ih21 4 (by omega) (by omega) (hW.mr I Rh21 (by decide +kernel))) ?_
            rintro v23 h25 ⟨Ih25, Qh25, f24⟩
            have Rh25 : zMR ms42 h h25 := Rh21.tr Qh25 (by decide +kernel)
            have th25_37_78 : fld h25 37 78 = fld h21 37 78 := Qh25.f (a1 := 37) (a2 := 37) (j1 := 78) (j2 := 79) (by decide +kernel) (by first | decide | exact ⟨by decide, by decide⟩) (by first | decide | exact ⟨by decide, by decide⟩)
            refine zwW_p [(0, 1, 0)] (q := 80) (ls' := [(2, 37), (0, a), (0, b), (0, c), (0, v17)]) (st' := [(0, 1), (0, v23), (0, v22), (2, 185)]) (by decide +kernel) rfl ?_
            refine zwic_ne (q := 87) (nx := 83) (by decide +kernel) (fun c26 => ?_) (fun c26 => ?_)
            · refine zwW_p [(0, 0, 0)] (q := 88) (ls' := [(2, 37), (0, a), (0, b), (0, c), (0, v17)]) (st' := [(0, 0), (0, v22), (2, 185)]) (by decide +kernel) rfl ?_
              refine zwW_asz Ih25 (a1 := 185) (a2 := 185) (n := 200) (nx := 89) (by decide +kernel) (by first | decide | exact ⟨by decide, by decide⟩) (by first | omega | exact ⟨by omega, by omega⟩) (by omega) ?_
              intro h27 eh27 Ih27
              have th27_37_78 : fld h27 37 78 = fld h25 37 78 := by rw [eh27]; exact fld_wr (by omega)
              have Rh27 : zMR ms42 h h27 := Rh25.w (a1 := 185) (a2 := 185) (j1 := 0) (j2 := 200) (by decide +kernel) (by first | decide | exact ⟨by decide, by decide⟩) (by first | omega | exact ⟨by omega, by omega⟩) eh27
              refine zwW_p [(1, 0, 2)] (q := 90) (ls' := [(2, 37), (0, a), (0, b), (0, c), (0, v17)]) (st' := [(2, 37)]) (by decide +kernel) rfl ?_
              refine zwW_gc Ih27 (kd := 13) (bn := 25) (n := 97) (c := 84) (nx := 93) (by decide +kernel) ?_
              refine zwW_p [(1, 0, 2)] (q := 94) (ls' := [(2, 37), (0, a), (0, b), (0, c), (0, v17)]) (st' := [(2, 37), (2, 84)]) (by decide +kernel) rfl ?_
              refine zwW_gc Ih27 (kd := 13) (bn := 58) (n := 97) (c := 170) (nx := 97) (by decide +kernel) ?_
              refine zwW_p [(1, 2, 0)] (q := 98) (ls' := [(2, 37), (0, a), (0, b), (0, c), (0, v17)]) (st' := [(0, b), (2, 170), (2, 84)]) (by decide +kernel) rfl ?_
              refine zwW_al Ih27 (a1 := 170) (a2 := 170) (kd := 20) (n := 300) (t := 0) (lo := 0) (hi := 19) (nx := 99) (by decide +kernel) (by first | decide | exact ⟨by decide, by decide⟩) (by first | omega | exact ⟨by omega, by omega⟩) ?_
              intro v28 ev28 lv28 uv28
              refine zwW_p [(14, 0, 0)] (q := 100) (ls' := [(2, 37), (0, a), (0, b), (0, c), (0, v17)]) (st' := [(0, v28), (2, 84), (0, v28), (2, 84)]) (by decide +kernel) rfl ?_
              refine zwW_al Ih27 (a1 := 84) (a2 := 84) (kd := 20) (n := 20) (t := 0) (lo := -2147483648) (hi := 2147483647) (nx := 101) (by decide +kernel) (by first | decide | exact ⟨by decide, by decide⟩) (by first | omega | exact ⟨by omega, by omega⟩) ?_
              intro v29 ev29 lv29 uv29
              refine zwW_p [(1, 4, 0)] (q := 103) (ls' := [(2, 37), (0, a), (0, b), (0, c), (0, v17)]) (st' := [(0, v17), (0, v29), (0, v28), (2, 84)]) (by decide +kernel) rfl ?_
              refine zwW_sbw (nx := 104) (by decide +kernel) ?_
              intro v30 ev30 lv30 uv30
              refine zwW_as Ih27 (a1 := 84) (a2 := 84) (n := 20) (lo := -2147483648) (hi := 2147483647) (nx := 105) (by decide +kernel) (by first | decide | exact ⟨by decide, by decide⟩) (by first | omega | exact ⟨by omega, by omega⟩) (by first | omega | exact ⟨by omega, by omega⟩) ?_
              intro h31 eh31 Ih31
              have th31_37_78 : fld h31 37 78 = fld h27 37 78 := by rw [eh31]; exact fld_wr (by omega)
              have Rh31 : zMR ms42 h h31 := Rh27.w (a1 := 84) (a2 := 84) (j1 := 0) (j2 := 20) (by decide +kernel) (by first | decide | exact ⟨by decide, by decide⟩) (by first | omega | exact ⟨by omega, by omega⟩) eh31
              refine zwW_p [(1, 0, 2)] (q := 106) (ls' := [(2, 37), (0, a), (0, b), (0, c), (0, v17)]) (st' := [(2, 37)]) (by decide +kernel) rfl ?_
              refine zwW_gc Ih31 (kd := 13) (bn := 25) (n := 97) (c := 84) (nx := 109) (by decide +kernel) ?_
              refine zwW_p [(1, 1, 0), (14, 0, 0)] (q := 111) (ls' := [(2, 37), (0, a), (0, b), (0, c), (0, v17)]) (st' := [(0, a), (2, 84), (0, a), (2, 84)]) (by decide +kernel) rfl ?_
              refine zwW_al Ih31 (a1 := 84) (a2 := 84) (kd := 20) (n := 20) (t := 0) (lo := -2147483648) (hi := 2147483647) (nx := 112) (by decide +kernel) (by first | decide | exact ⟨by decide, by decide⟩) (by first | omega | exact ⟨by omega, by omega⟩) ?_
              intro v32 ev32 lv32 uv32
              refine zwW_p [(1, 4, 0)] (q := 114) (ls' := [(2, 37), (0, a), (0, b), (0, c), (0, v17)]) (st' := [(0, v17), (0, v32), (0, a), (2, 84)]) (by decide +kernel) rfl ?_
              refine zwW_adw (nx := 115) (by decide +kernel) ?_
              intro v33 ev33 lv33 uv33
              refine zwW_as Ih31 (a1 := 84) (a2 := 84) (n := 20) (lo := -2147483648) (hi := 2147483647) (nx := 116) (by decide +kernel) (by first | decide | exact ⟨by decide, by decide⟩) (by first | omega | exact ⟨by omega, by omega⟩) (by first | omega | exact ⟨by omega, by omega⟩) ?_
              intro h34 eh34 Ih34
              have th34_37_78 : fld h34 37 78 = fld h31 37 78 := by rw [eh34]; exact fld_wr (by omega)
              have Rh34 : zMR ms42 h h34 := Rh31.w (a1 := 84) (a2 := 84) (j1 := 0) (j2 := 20) (by decide +kernel) (by first | decide | exact ⟨by decide, by decide⟩) (by first | omega | exact ⟨by omega, by omega⟩) eh34
              refine zwW_p [(1, 0, 2)] (q := 117) (ls' := [(2, 37), (0, a), (0, b), (0, c), (0, v17)]) (st' := [(2, 37)]) (by decide +kernel) rfl ?_
              refine zwW_gc Ih34 (kd := 13) (bn := 63) (n := 97) (c := 175) (nx := 120) (by decide +kernel) ?_
              refine zwW_p [(1, 2, 0), (14, 0, 0)] (q := 122) (ls' := [(2, 37), (0, a), (0, b), (0, c), (0, v17)]) (st' := [(0, b), (2, 175), (0, b), (2, 175)]) (by decide +kernel) rfl ?_
              refine zwW_al Ih34 (a1 := 175) (a2 := 175) (kd := 20) (n := 300) (t := 0) (lo := -2147483648) (hi := 2147483647) (nx := 123) (by decide +kernel) (by first | decide | exact ⟨by decide, by decide⟩) (by first | omega | exact ⟨by omega, by omega⟩) ?_
              intro v35 ev35 lv35 uv35
              refine zwW_p [(1, 3, 0)] (q := 124) (ls' := [(2, 37), (0, a), (0, b), (0, c), (0, v17)]) (st' := [(0, c), (0, v35), (0, b), (2, 175)]) (by decide +kernel) rfl ?_
              refine zwW_sbw (nx := 125) (by decide +kernel) ?_
              intro v36 ev36 lv36 uv36
              refine zwW_as Ih34 (a1 := 175) (a2 := 175) (n := 300) (lo := -2147483648) (hi := 2147483647) (nx := 126) (by decide +kernel) (by first | decide | exact ⟨by decide, by decide⟩) (by first | omega | exact ⟨by omega, by omega⟩) (by first | omega | exact ⟨by omega, by omega⟩) ?_
              intro h37 eh37 Ih37
              have th37_37_78 : fld h37 37 78 = fld h34 37 78 := by rw [eh37]; exact fld_wr (by omega)
              have Rh37 : zMR ms42 h h37 := Rh34.w (a1 := 175) (a2 := 175) (j1 := 0) (j2 := 300) (by decide +kernel) (by first | decide | exact ⟨by decide, by decide⟩) (by first | omega | exact ⟨by omega, by omega⟩) eh37
              refine zwW_p [(1, 0, 2)] (q := 127) (ls' := [(2, 37), (0, a), (0, b), (0, c), (0, v17)]) (st' := [(2, 37)]) (by decide +kernel) rfl ?_
              refine zwW_gc Ih37 (kd := 13) (bn := 33) (n := 97) (c := 92) (nx := 130) (by decide +kernel) ?_
              refine zwW_p [(1, 1, 0), (14, 0, 0)] (q := 132) (ls' := [(2, 37), (0, a), (0, b), (0, c), (0, v17)]) (st' := [(0, a), (2, 92), (0, a), (2, 92)]) (by decide +kernel) rfl ?_
              refine zwW_al Ih37 (a1 := 92) (a2 := 92) (kd := 20) (n := 20) (t := 0) (lo := -2147483648) (hi := 2147483647) (nx := 133) (by decide +kernel) (by first | decide | exact ⟨by decide, by decide⟩) (by first | omega | exact ⟨by omega, by omega⟩) ?_
              intro v38 ev38 lv38 uv38
              refine zwW_p [(1, 3, 0)] (q := 134) (ls' := [(2, 37), (0, a), (0, b), (0, c), (0, v17)]) (st' := [(0, c), (0, v38), (0, a), (2, 92)]) (by decide +kernel) rfl ?_
              refine zwW_adw (nx := 135) (by decide +kernel) ?_
              intro v39 ev39 lv39 uv39
              refine zwW_as Ih37 (a1 := 92) (a2 := 92) (n := 20) (lo := -2147483648) (hi := 2147483647) (nx := 136) (by decide +kernel) (by first | decide | exact ⟨by decide, by decide⟩) (by first | omega | exact ⟨by omega, by omega⟩) (by first | omega | exact ⟨by omega, by omega⟩) ?_
              intro h40 eh40 Ih40
              have th40_37_78 : fld h40 37 78 = fld h37 37 78 := by rw [eh40]; exact fld_wr (by omega)
              have Rh40 : zMR ms42 h h40 := Rh37.w (a1 := 92) (a2 := 92) (j1 := 0) (j2 := 20) (by decide +kernel) (by first | decide | exact ⟨by decide, by decide⟩) (by first | omega | exact ⟨by omega, by omega⟩) eh40
              refine zwW_p [(1, 0, 2), (12, 0, 0)] (q := 138) (ls' := [(2, 37), (0, a), (0, b), (0, c), (0, v17)]) (st' := [(2, 37), (2, 37)]) (by decide +kernel) rfl ?_
              refine zwW_gs Ih40 (kd := 13) (bn := 70) (n := 97) (t := 0) (lo := -2147483648) (hi := 2147483647) (nx := 141) (by decide +kernel) ?_
              intro v41 ev41 lv41 uv41
              refine zwW_p [(1, 3, 0)] (q := 142) (ls' := [(2, 37), (0, a), (0, b), (0, c), (0, v17)]) (st' := [(0, c), (0, v41), (2, 37)]) (by decide +kernel) rfl ?_
              refine zwW_adw (nx := 143) (by decide +kernel) ?_
              intro v42 ev42 lv42 uv42
              refine zwW_ps Ih40 (kd := 13) (bn := 70) (n := 97) (lo := -2147483648) (hi := 2147483647) (nx := 146) (by decide +kernel) (by first | omega | exact ⟨by omega, by omega⟩) ?_
              intro h43 eh43 Ih43
              have th43_37_78 : fld h43 37 78 = fld h40 37 78 := by rw [eh43]; exact fld_wr (by decide)
              have Rh43 : zMR ms42 h h43 := Rh40.w (a1 := 37) (a2 := 37) (j1 := 70) (j2 := 71) (by decide +kernel) (by first | decide | exact ⟨by decide, by decide⟩) (by first | decide | exact ⟨by decide, by decide⟩) eh43
              refine zwW_p [(1, 0, 2)] (q := 147) (ls' := [(2, 37), (0, a), (0, b), (0, c), (0, v17)]) (st' := [(2, 37)]) (by decide +kernel) rfl ?_
              refine zwW_gc Ih43 (kd := 13) (bn := 72) (n := 97) (c := 180) (nx := 150) (by decide +kernel) ?_
              refine zwW_p [(1, 0, 2)] (q := 151) (ls' := [(2, 37), (0, a), (0, b), (0, c), (0, v17)]) (st' := [(2, 37), (2, 180)]) (by decide +kernel) rfl ?_
              refine zwW_gs Ih43 (kd := 13) (bn := 78) (n := 97) (t := 0) (lo := 0) (hi := 200) (nx := 154) (by decide +kernel) ?_
              intro v44 ev44 lv44 uv44
              refine zwW_p [(1, 2, 0)] (q := 155) (ls' := [(2, 37), (0, a), (0, b), (0, c), (0, v17)]) (st' := [(0, b), (0, v44), (2, 180)]) (by decide +kernel) rfl ?_
              refine zwW_as Ih43 (a1 := 180) (a2 := 180) (n := 200) (lo := 0) (hi := 299) (nx := 156) (by decide +kernel) (by first | decide | exact ⟨by decide, by decide⟩) (by first | omega | exact ⟨by omega, by omega⟩) (by first | omega | exact ⟨by omega, by omega⟩) ?_
              intro h45 eh45 Ih45
              have th45_37_78 : fld h45 37 78 = fld h43 37 78 := by rw [eh45]; exact fld_wr (by omega)
              have Rh45 : zMR ms42 h h45 := Rh43.w (a1 := 180) (a2 := 180) (j1 := 0) (j2 := 200) (by decide +kernel) (by first | decide | exact ⟨by decide, by decide⟩) (by first | omega | exact ⟨by omega, by omega⟩) eh45
              refine zwW_p [(1, 0, 2)] (q := 157) (ls' := [(2, 37), (0, a), (0, b), (0, c), (0, v17)]) (st' := [(2, 37)]) (by decide +kernel) rfl ?_
              refine zwW_gc Ih45 (kd := 13) (bn := 73) (n := 97) (c := 181) (nx := 160) (by decide +kernel) ?_
              refine zwW_p [(1, 0, 2)] (q := 161) (ls' := [(2, 37), (0, a), (0, b), (0, c), (0, v17)]) (st' := [(2, 37), (2, 181)]) (by decide +kernel) rfl ?_
              refine zwW_gs Ih45 (kd := 13) (bn := 78) (n := 97) (t := 0) (lo := 0) (hi := 200) (nx := 164) (by decide +kernel) ?_
              intro v46 ev46 lv46 uv46
              refine zwW_p [(1, 1, 0)] (q := 165) (ls' := [(2, 37), (0, a), (0, b), (0, c), (0, v17)]) (st' := [(0, a), (0, v46), (2, 181)]) (by decide +kernel) rfl ?_
              refine zwW_as Ih45 (a1 := 181) (a2 := 181) (n := 200) (lo := 0) (hi := 19) (nx := 166) (by decide +kernel) (by first | decide | exact ⟨by decide, by decide⟩) (by first | omega | exact ⟨by omega, by omega⟩) (by first | omega | exact ⟨by omega, by omega⟩) ?_
              intro h47 eh47 Ih47
              have th47_37_78 : fld h47 37 78 = fld h45 37 78 := by rw [eh47]; exact fld_wr (by omega)
              have Rh47 : zMR ms42 h h47 := Rh45.w (a1 := 181) (a2 := 181) (j1 := 0) (j2 := 200) (by decide +kernel) (by first | decide | exact ⟨by decide, by decide⟩) (by first | omega | exact ⟨by omega, by omega⟩) eh47
              refine zwW_p [(1, 0, 2)] (q := 167) (ls' := [(2, 37), (0, a), (0, b), (0, c), (0, v17)]) (st' := [(2, 37)]) (by decide +kernel) rfl ?_
              refine zwW_gc Ih47 (kd := 13) (bn := 74) (n := 97) (c := 182) (nx := 170) (by decide +kernel) ?_
              refine zwW_p [(1, 0, 2)] (q := 171) (ls' := [(2, 37), (0, a), (0, b), (0, c), (0, v17)]) (st' := [(2, 37), (2, 182)]) (by decide +kernel) rfl ?_
              refine zwW_gs Ih47 (kd := 13) (bn := 78) (n := 97) (t := 0) (lo := 0) (hi := 200) (nx := 174) (by decide +kernel) ?_
              intro v48 ev48 lv48 uv48
              refine zwW_p [(1, 0, 2)] (q := 175) (ls' := [(2, 37), (0, a), (0, b), (0, c), (0, v17)]) (st' := [(2, 37), (0, v48), (2, 182)]) (by decide +kernel) rfl ?_
              refine zwW_gs Ih47 (kd := 13) (bn := 0) (n := 97) (t := 0) (lo := 0) (hi := 156) (nx := 178) (by decide +kernel) ?_
              intro v49 ev49 lv49 uv49
              refine zwW_as Ih47 (a1 := 182) (a2 := 182) (n := 200) (lo := -2147483648) (hi := 2147483647) (nx := 179) (by decide +kernel) (by first | decide | exact ⟨by decide, by decide⟩) (by first | omega | exact ⟨by omega, by omega⟩) (by first | omega | exact ⟨by omega, by omega⟩) ?_
              intro h50 eh50 Ih50
              have th50_37_78 : fld h50 37 78 = fld h47 37 78 := by rw [eh50]; exact fld_wr (by omega)
              have Rh50 : zMR ms42 h h50 := Rh47.w (a1 := 182) (a2 := 182) (j1 := 0) (j2 := 200) (by decide +kernel) (by first | decide | exact ⟨by decide, by decide⟩) (by first | omega | exact ⟨by omega, by omega⟩) eh50
              refine zwW_p [(1, 0, 2)] (q := 180) (ls' := [(2, 37), (0, a), (0, b), (0, c), (0, v17)]) (st' := [(2, 37)]) (by decide +kernel) rfl ?_
              refine zwW_gc Ih50 (kd := 13) (bn := 75) (n := 97) (c := 183) (nx := 183) (by decide +kernel) ?_
              refine zwW_p [(1, 0, 2)] (q := 184) (ls' := [(2, 37), (0, a), (0, b), (0, c), (0, v17)]) (st' := [(2, 37), (2, 183)]) (by decide +kernel) rfl ?_
              refine zwW_gs Ih50 (kd := 13) (bn := 78) (n := 97) (t := 0) (lo := 0) (hi := 200) (nx := 187) (by decide +kernel) ?_
              intro v51 ev51 lv51 uv51
              refine zwW_p [(1, 3, 0), (0, 2, 0)] (q := 189) (ls' := [(2, 37), (0, a), (0, b), (0, c), (0, v17)]) (st' := [(0, 2), (0, c), (0, v51), (2, 183)]) (by decide +kernel) rfl ?_
              refine zwW_div (nx := 190) (by decide +kernel) (by omega) (by omega) (by omega) ?_
              refine zwW_as Ih50 (a1 := 183) (a2 := 183) (n := 200) (lo := -2147483648) (hi := 2147483647) (nx := 191) (by decide +kernel) (by first | decide | exact ⟨by decide, by decide⟩) (by first | omega | exact ⟨by omega, by omega⟩) (by first | omega | exact ⟨by omega, by omega⟩) ?_
              intro h52 eh52 Ih52
              have th52_37_78 : fld h52 37 78 = fld h50 37 78 := by rw [eh52]; exact fld_wr (by omega)
              have Rh52 : zMR ms42 h h52 := Rh50.w (a1 := 183) (a2 := 183) (j1 := 0) (j2 := 200) (by decide +kernel) (by first | decide | exact ⟨by decide, by decide⟩) (by first | omega | exact ⟨by omega, by omega⟩) eh52
              refine zwW_p [(1, 0, 2)] (q := 192) (ls' := [(2, 37), (0, a), (0, b), (0, c), (0, v17)]) (st' := [(2, 37)]) (by decide +kernel) rfl ?_
              refine zwW_gc Ih52 (kd := 13) (bn := 76) (n := 97) (c := 184) (nx := 195) (by decide +kernel) ?_
              refine zwW_p [(1, 0, 2)] (q := 196) (ls' := [(2, 37), (0, a), (0, b), (0, c), (0, v17)]) (st' := [(2, 37), (2, 184)]) (by decide +kernel) rfl ?_
              refine zwW_gs Ih52 (kd := 13) (bn := 78) (n := 97) (t := 0) (lo := 0) (hi := 200) (nx := 199) (by decide +kernel) ?_
              intro v53 ev53 lv53 uv53
              refine zwW_p [(0, -1, 0)] (q := 200) (ls' := [(2, 37), (0, a), (0, b), (0, c), (0, v17)]) (st' := [(0, -1), (0, v53), (2, 184)]) (by decide +kernel) rfl ?_
              refine zwW_as Ih52 (a1 := 184) (a2 := 184) (n := 200) (lo := -1) (hi := 7) (nx := 201) (by decide +kernel) (by first | decide | exact ⟨by decide, by decide⟩) (by first | omega | exact ⟨by omega, by omega⟩) (by first | decide | exact ⟨by decide, by decide⟩) ?_
              intro h54 eh54 Ih54
              have th54_37_78 : fld h54 37 78 = fld h52 37 78 := by rw [eh54]; exact fld_wr (by omega)
              have Rh54 : zMR ms42 h h54 := Rh52.w (a1 := 184) (a2 := 184) (j1 := 0) (j2 := 200) (by decide +kernel) (by first | decide | exact ⟨by decide, by decide⟩) (by first | omega | exact ⟨by omega, by omega⟩) eh54
              refine zwW_p [(1, 0, 2), (12, 0, 0)] (q := 203) (ls' := [(2, 37), (0, a), (0, b), (0, c), (0, v17)]) (st' := [(2, 37), (2, 37)]) (by decide +kernel) rfl ?_
              refine zwW_gs Ih54 (kd := 13) (bn := 78) (n := 97) (t := 0) (lo := 0) (hi := 200) (nx := 206) (by decide +kernel) ?_
              intro v55 ev55 lv55 uv55
              refine zwW_p [(0, 1, 0)] (q := 207) (ls' := [(2, 37), (0, a), (0, b), (0, c), (0, v17)]) (st' := [(0, 1), (0, v55), (2, 37)]) (by decide +kernel) rfl ?_
              refine zwW_add (nx := 208) (by decide +kernel) (by first | omega | exact ⟨by omega, by omega⟩) ?_
              refine zwW_ps Ih54 (kd := 13) (bn := 78) (n := 97) (lo := 0) (hi := 200) (nx := 211) (by decide +kernel) (by first | omega | exact ⟨by omega, by omega⟩) ?_
              intro h56 eh56 Ih56
              have th56_37_78 : fld h56 37 78 = (v55 + 1) := by rw [eh56]; exact fld_wr_eq (Ih54.s (a1 := 37) (a2 := 37) (k := 13) (n := 97) (by decide +kernel) (by decide) (by decide)) (by decide)
              have Rh56 : zMR ms42 h h56 := Rh54.w (a1 := 37) (a2 := 37) (j1 := 78) (j2 := 79) (by decide +kernel) (by first | decide | exact ⟨by decide, by decide⟩) (by first | decide | exact ⟨by decide, by decide⟩) eh56
              refine zwW_p [(1, 0, 2)] (q := 212) (ls' := [(2, 37), (0, a), (0, b), (0, c), (0, v17)]) (st' := [(2, 37)]) (by decide +kernel) rfl ?_
              refine zwW_gs Ih56 (kd := 13) (bn := 78) (n := 97) (t := 0) (lo := 0) (hi := 200) (nx := 215) (by decide +kernel) ?_
              intro v57 ev57 lv57 uv57
              refine zwW_p [(0, 1, 0)] (q := 216) (ls' := [(2, 37), (0, a), (0, b), (0, c), (0, v17)]) (st' := [(0, 1), (0, v57)]) (by decide +kernel) rfl ?_
              refine zwW_sub (nx := 217) (by decide +kernel) (by first | omega | exact ⟨by omega, by omega⟩) ?_
              refine zwW_ret (nx := 218) (a := 0) (b := 0) (by decide +kernel) rfl (Or.inl rfl) ?_
              exact ⟨Ih56, Rh56, by omega⟩
            · refine zwW_p [(0, 1, 0), (24, 88, 0)] (q := 88) (ls' := [(2, 37), (0, a), (0, b), (0, c), (0, v17)]) (st' := [(0, 1), (0, v22), (2, 185)]) (by decide +kernel) rfl ?_
              refine zwW_asz Ih25 (a1 := 185) (a2 := 185) (n := 200) (nx := 89) (by decide +kernel) (by first | decide | exact ⟨by decide, by decide⟩) (by first | omega | exact ⟨by omega, by omega⟩) (by omega) ?_
              intro h58 eh58 Ih58
              have th58_37_78 : fld h58 37 78 = fld h25 37 78 := by rw [eh58]; exact fld_wr (by omega)
              have Rh58 : zMR ms42 h h58 := Rh25.w (a1 := 185) (a2 := 185) (j1 := 0) (j2 := 200) (by decide +kernel) (by first | decide | exact ⟨by decide, by decide⟩) (by first | omega | exact ⟨by omega, by omega⟩) eh58
              refine zwW_p [(1, 0, 2)] (q := 90) (ls' := [(2, 37), (0, a), (0, b), (0, c), (0, v17)]) (st' := [(2, 37)]) (by decide +kernel) rfl ?_
              refine zwW_gc Ih58 (kd := 13) (bn := 25) (n := 97) (c := 84) (nx := 93) (by decide +kernel) ?_
              refine zwW_p [(1, 0, 2)] (q := 94) (ls' := [(2, 37), (0, a), (0, b), (0, c), (0, v17)]) (st' := [(2, 37), (2, 84)]) (by decide +kernel) rfl ?_
              refine zwW_gc Ih58 (kd := 13) (bn := 58) (n := 97) (c := 170) (nx := 97) (by decide +kernel) ?_
              refine zwW_p [(1, 2, 0)] (q := 98) (ls' := [(2, 37), (0, a), (0, b), (0, c), (0, v17)]) (st' := [(0, b), (2, 170), (2, 84)]) (by decide +kernel) rfl ?_
              refine zwW_al Ih58 (a1 := 170) (a2 := 170) (kd := 20) (n := 300) (t := 0) (lo := 0) (hi := 19) (nx := 99) (by decide +kernel) (by first | decide | exact ⟨by decide, by decide⟩) (by first | omega | exact ⟨by omega, by omega⟩) ?_
              intro v59 ev59 lv59 uv59
              refine zwW_p [(14, 0, 0)] (q := 100) (ls' := [(2, 37), (0, a), (0, b), (0, c), (0, v17)]) (st' := [(0, v59), (2, 84), (0, v59), (2, 84)]) (by decide +kernel) rfl ?_
              refine zwW_al Ih58 (a1 := 84) (a2 := 84) (kd := 20) (n := 20) (t := 0) (lo := -2147483648) (hi := 2147483647) (nx := 101) (by decide +kernel) (by first | decide | exact ⟨by decide, by decide⟩) (by first | omega | exact ⟨by omega, by omega⟩) ?_
              intro v60 ev60 lv60 uv60
              refine zwW_p [(1, 4, 0)] (q := 103) (ls' := [(2, 37), (0, a), (0, b), (0, c), (0, v17)]) (st' := [(0, v17), (0, v60), (0, v59), (2, 84)]) (by decide +kernel) rfl ?_
              refine zwW_sbw (nx := 104) (by decide +kernel) ?_
              intro v61 ev61 lv61 uv61
              refine zwW_as Ih58 (a1 := 84) (a2 := 84) (n := 20) (lo := -2147483648) (hi := 2147483647) (nx := 105) (by decide +kernel) (by first | decide | exact ⟨by decide, by decide⟩) (by first | omega | exact ⟨by omega, by omega⟩) (by first | omega | exact ⟨by omega, by omega⟩) ?_
              intro h62 eh62 Ih62
              have th62_37_78 : fld h62 37 78 = fld h58 37 78 := by rw [eh62]; exact fld_wr (by omega)
              have Rh62 : zMR ms42 h h62 := Rh58.w (a1 := 84) (a2 := 84) (j1 := 0) (j2 := 20) (by decide +kernel) (by first | decide | exact ⟨by decide, by decide⟩) (by first | omega | exact ⟨by omega, by omega⟩) eh62
              refine zwW_p [(1, 0, 2)] (q := 106) (ls' := [(2, 37), (0, a), (0, b), (0, c), (0, v17)]) (st' := [(2, 37)]) (by decide +kernel) rfl ?_
              refine zwW_gc Ih62 (kd := 13) (bn := 25) (n := 97) (c := 84) (nx := 109) (by decide +kernel) ?_
              refine zwW_p [(1, 1, 0), (14, 0, 0)] (q := 111) (ls' := [(2, 37), (0, a), (0, b), (0, c), (0, v17)]) (st' := [(0, a), (2, 84), (0, a), (2, 84)]) (by decide +kernel) rfl ?_
              refine zwW_al Ih62 (a1 := 84) (a2 := 84) (kd := 20) (n := 20) (t := 0) (lo := -2147483648) (hi := 2147483647) (nx := 112) (by decide +kernel) (by first | decide | exact ⟨by decide, by decide⟩) (by first | omega | exact ⟨by omega, by omega⟩) ?_
              intro v63 ev63 lv63 uv63
              refine zwW_p [(1, 4, 0)] (q := 114) (ls' := [(2, 37), (0, a), (0, b), (0, c), (0, v17)]) (st' := [(0, v17), (0, v63), (0, a), (2, 84)]) (by decide +kernel) rfl ?_
              refine zwW_adw (nx := 115) (by decide +kernel) ?_
              intro v64 ev64 lv64 uv64
              refine zwW_as Ih62 (a1 := 84) (a2 := 84) (n := 20) (lo := -2147483648) (hi := 2147483647) (nx := 116) (by decide +kernel) (by first | decide | exact ⟨by decide, by decide⟩) (by first | omega | exact ⟨by omega, by omega⟩) (by first | omega | exact ⟨by omega, by omega⟩) ?_
              intro h65 eh65 Ih65
              have th65_37_78 : fld h65 37 78 = fld h62 37 78 := by rw [eh65]; exact fld_wr (by omega)
              have Rh65 : zMR ms42 h h65 := Rh62.w (a1 := 84) (a2 := 84) (j1 := 0) (j2 := 20) (by decide +kernel) (by first | decide | exact ⟨by decide, by decide⟩) (by first | omega | exact ⟨by omega, by omega⟩) eh65
              refine zwW_p [(1, 0, 2)] (q := 117) (ls' := [(2, 37), (0, a), (0, b), (0, c), (0, v17)]) (st' := [(2, 37)]) (by decide +kernel) rfl ?_
              refine zwW_gc Ih65 (kd := 13) (bn := 63) (n := 97) (c := 175) (nx := 120) (by decide +kernel) ?_
              refine zwW_p [(1, 2, 0), (14, 0, 0)] (q := 122) (ls' := [(2, 37), (0, a), (0, b), (0, c), (0, v17)]) (st' := [(0, b), (2, 175), (0, b), (2, 175)]) (by decide +kernel) rfl ?_
              refine zwW_al Ih65 (a1 := 175) (a2 := 175) (kd := 20) (n := 300) (t := 0) (lo := -2147483648) (hi := 2147483647) (nx := 123) (by decide +kernel) (by first | decide | exact ⟨by decide, by decide⟩) (by first | omega | exact ⟨by omega, by omega⟩) ?_
              intro v66 ev66 lv66 uv66
              refine zwW_p [(1, 3, 0)] (q := 124) (ls' := [(2, 37), (0, a), (0, b), (0, c), (0, v17)]) (st' := [(0, c), (0, v66), (0, b), (2, 175)]) (by decide +kernel) rfl ?_
              refine zwW_sbw (nx := 125) (by decide +kernel) ?_
              intro v67 ev67 lv67 uv67
              refine zwW_as Ih65 (a1 := 175) (a2 := 175) (n := 300) (lo := -2147483648) (hi := 2147483647) (nx := 126) (by decide +kernel) (by first | decide | exact ⟨by decide, by decide⟩) (by first | omega | exact ⟨by omega, by omega⟩) (by first | omega | exact ⟨by omega, by omega⟩) ?_
              intro h68 eh68 Ih68
              have th68_37_78 : fld h68 37 78 = fld h65 37 78 := by rw [eh68]; exact fld_wr (by omega)
              have Rh68 : zMR ms42 h h68 := Rh65.w (a1 := 175) (a2 := 175) (j1 := 0) (j2 := 300) (by decide +kernel) (by first | decide | exact ⟨by decide, by decide⟩) (by first | omega | exact ⟨by omega, by omega⟩) eh68
              refine zwW_p [(1, 0, 2)] (q := 127) (ls' := [(2, 37), (0, a), (0, b), (0, c), (0, v17)]) (st' := [(2, 37)]) (by decide +kernel) rfl ?_
              refine zwW_gc Ih68 (kd := 13) (bn := 33) (n := 97) (c := 92) (nx := 130) (by decide +kernel) ?_
              refine zwW_p [(1, 1, 0), (14, 0, 0)] (q := 132) (ls' := [(2, 37), (0, a), (0, b), (0, c), (0, v17)]) (st' := [(0, a), (2, 92), (0, a), (2, 92)]) (by decide +kernel) rfl ?_
              refine zwW_al Ih68 (a1 := 92) (a2 := 92) (kd := 20) (n := 20) (t := 0) (lo := -2147483648) (hi := 2147483647) (nx := 133) (by decide +kernel) (by first | decide | exact ⟨by decide, by decide⟩) (by first | omega | exact ⟨by omega, by omega⟩) ?_
              intro v69 ev69 lv69 uv69
              refine zwW_p [(1, 3, 0)] (q := 134) (ls' := [(2, 37), (0, a), (0, b), (0, c), (0, v17)]) (st' := [(0, c), (0, v69), (0, a), (2, 92)]) (by decide +kernel) rfl ?_
              refine zwW_adw (nx := 135) (by decide +kernel) ?_
              intro v70 ev70 lv70 uv70
              refine zwW_as Ih68 (a1 := 92) (a2 := 92) (n := 20) (lo := -2147483648) (hi := 2147483647) (nx := 136) (by decide +kernel) (by first | decide | exact ⟨by decide, by decide⟩) (by first | omega | exact ⟨by omega, by omega⟩) (by first | omega | exact ⟨by omega, by omega⟩) ?_
              intro h71 eh71 Ih71
              have th71_37_78 : fld h71 37 78 = fld h68 37 78 := by rw [eh71]; exact fld_wr (by omega)
              have Rh71 : zMR ms42 h h71 := Rh68.w (a1 := 92) (a2 := 92) (j1 := 0) (j2 := 20) (by decide +kernel) (by first | decide | exact ⟨by decide, by decide⟩) (by first | omega | exact ⟨by omega, by omega⟩) eh71
              refine zwW_p [(1, 0, 2), (12, 0, 0)] (q := 138) (ls' := [(2, 37), (0, a), (0, b), (0, c), (0, v17)]) (st' := [(2, 37), (2, 37)]) (by decide +kernel) rfl ?_
              refine zwW_gs Ih71 (kd := 13) (bn := 70) (n := 97) (t := 0) (lo := -2147483648) (hi := 2147483647) (nx := 141) (by decide +kernel) ?_
              intro v72 ev72 lv72 uv72
              refine zwW_p [(1, 3, 0)] (q := 142) (ls' := [(2, 37), (0, a), (0, b), (0, c), (0, v17)]) (st' := [(0, c), (0, v72), (2, 37)]) (by decide +kernel) rfl ?_
              refine zwW_adw (nx := 143) (by decide +kernel) ?_
              intro v73 ev73 lv73 uv73
              refine zwW_ps Ih71 (kd := 13) (bn := 70) (n := 97) (lo := -2147483648) (hi := 2147483647) (nx := 146) (by decide +kernel) (by first | omega | exact ⟨by omega, by omega⟩) ?_
              intro h74 eh74 Ih74
              have th74_37_78 : fld h74 37 78 = fld h71 37 78 := by rw [eh74]; exact fld_wr (by decide)
              have Rh74 : zMR ms42 h h74 := Rh71.w (a1 := 37) (a2 := 37) (j1 := 70) (j2 := 71) (by decide +kernel) (by first | decide | exact ⟨by decide, by decide⟩) (by first | decide | exact ⟨by decide, by decide⟩) eh74
              refine zwW_p [(1, 0, 2)] (q := 147) (ls' := [(2, 37), (0, a), (0, b), (0, c), (0, v17)]) (st' := [(2, 37)]) (by decide +kernel) rfl ?_
              refine zwW_gc Ih74 (kd := 13) (bn := 72) (n := 97) (c := 180) (nx := 150) (by decide +kernel) ?_
              refine zwW_p [(1, 0, 2)] (q := 151) (ls' := [(2, 37), (0, a), (0, b), (0, c), (0, v17)]) (st' := [(2, 37), (2, 180)]) (by decide +kernel) rfl ?_
              refine zwW_gs Ih74 (kd := 13) (bn := 78) (n := 97) (t := 0) (lo := 0) (hi := 200) (nx := 154) (by decide +kernel) ?_
              intro v75 ev75 lv75 uv75
              refine zwW_p [(1, 2, 0)] (q := 155) (ls' := [(2, 37), (0, a), (0, b), (0, c), (0, v17)]) (st' := [(0, b), (0, v75), (2, 180)]) (by decide +kernel) rfl ?_
              refine zwW_as Ih74 (a1 := 180) (a2 := 180) (n := 200) (lo := 0) (hi := 299) (nx := 156) (by decide +kernel) (by first | decide | exact ⟨by decide, by decide⟩) (by first | omega | exact ⟨by omega, by omega⟩) (by first | omega | exact ⟨by omega, by omega⟩) ?_
              intro h76 eh76 Ih76
              have th76_37_78 : fld h76 37 78 = fld h74 37 78 := by rw [eh76]; exact fld_wr (by omega)
              have Rh76 : zMR ms42 h h76 := Rh74.w (a1 := 180) (a2 := 180) (j1 := 0) (j2 := 200) (by decide +kernel) (by first | decide | exact ⟨by decide, by decide⟩) (by first | omega | exact ⟨by omega, by omega⟩) eh76
              refine zwW_p [(1, 0, 2)] (q := 157) (ls' := [(2, 37), (0, a), (0, b), (0, c), (0, v17)]) (st' := [(2, 37)]) (by decide +kernel) rfl ?_
              refine zwW_gc Ih76 (kd := 13) (bn := 73) (n := 97) (c := 181) (nx := 160) (by decide +kernel) ?_
              refine zwW_p [(1, 0, 2)] (q := 161) (ls' := [(2, 37), (0, a), (0, b), (0, c), (0, v17)]) (st' := [(2, 37), (2, 181)]) (by decide +kernel) rfl ?_
              refine zwW_gs Ih76 (kd := 13) (bn := 78) (n := 97) (t := 0) (lo := 0) (hi := 200) (nx := 164) (by decide +kernel) ?_
              intro v77 ev77 lv77 uv77
              refine zwW_p [(1, 1, 0)] (q := 165) (ls' := [(2, 37), (0, a), (0, b), (0, c), (0, v17)]) (st' := [(0, a), (0, v77), (2, 181)]) (by decide +kernel) rfl ?_
              refine zwW_as Ih76 (a1 := 181) (a2 := 181) (n := 200) (lo := 0) (hi := 19) (nx := 166) (by decide +kernel) (by first | decide | exact ⟨by decide, by decide⟩) (by first | omega | exact ⟨by omega, by omega⟩) (by first | omega | exact ⟨by omega, by omega⟩) ?_
              intro h78 eh78 Ih78
              have th78_37_78 : fld h78 37 78 = fld h76 37 78 := by rw [eh78]; exact fld_wr (by omega)
              have Rh78 : zMR ms42 h h78 := Rh76.w (a1 := 181) (a2 := 181) (j1 := 0) (j2 := 200) (by decide +kernel) (by first | decide | exact ⟨by decide, by decide⟩) (by first | omega | exact ⟨by omega, by omega⟩) eh78
              refine zwW_p [(1, 0, 2)] (q := 167) (ls' := [(2, 37), (0, a), (0, b), (0, c), (0, v17)]) (st' := [(2, 37)]) (by decide +kernel) rfl ?_
              refine zwW_gc Ih78 (kd := 13) (bn := 74) (n := 97) (c := 182) (nx := 170) (by decide +kernel) ?_
              refine zwW_p [(1, 0, 2)] (q := 171) (ls' := [(2, 37), (0, a), (0, b), (0, c), (0, v17)]) (st' := [(2, 37), (2, 182)]) (by decide +kernel) rfl ?_
              refine zwW_gs Ih78 (kd := 13) (bn := 78) (n := 97) (t := 0) (lo := 0) (hi := 200) (nx := 174) (by decide +kernel) ?_
              intro v79 ev79 lv79 uv79
              refine zwW_p [(1, 0, 2)] (q := 175) (ls' := [(2, 37), (0, a), (0, b), (0, c), (0, v17)]) (st' := [(2, 37), (0, v79), (2, 182)]) (by decide +kernel) rfl ?_
              refine zwW_gs Ih78 (kd := 13) (bn := 0) (n := 97) (t := 0) (lo := 0) (hi := 156) (nx := 178) (by decide +kernel) ?_
              intro v80 ev80 lv80 uv80
              refine zwW_as Ih78 (a1 := 182) (a2 := 182) (n := 200) (lo := -2147483648) (hi := 2147483647) (nx := 179) (by decide +kernel) (by first | decide | exact ⟨by decide, by decide⟩) (by first | omega | exact ⟨by omega, by omega⟩) (by first | omega | exact ⟨by omega, by omega⟩) ?_
              intro h81 eh81 Ih81
              have th81_37_78 : fld h81 37 78 = fld h78 37 78 := by rw [eh81]; exact fld_wr (by omega)
              have Rh81 : zMR ms42 h h81 := Rh78.w (a1 := 182) (a2 := 182) (j1 := 0) (j2 := 200) (by decide +kernel) (by first | decide | exact ⟨by decide, by decide⟩) (by first | omega | exact ⟨by omega, by omega⟩) eh81
              refine zwW_p [(1, 0, 2)] (q := 180) (ls' := [(2, 37), (0, a), (0, b), (0, c), (0, v17)]) (st' := [(2, 37)]) (by decide +kernel) rfl ?_
              refine zwW_gc Ih81 (kd := 13) (bn := 75) (n := 97) (c := 183) (nx := 183) (by decide +kernel) ?_
              refine zwW_p [(1, 0, 2)] (q := 184) (ls' := [(2, 37), (0, a), (0, b), (0, c), (0, v17)]) (st' := [(2, 37), (2, 183)]) (by decide +kernel) rfl ?_
              refine zwW_gs Ih81 (kd := 13) (bn := 78) (n := 97) (t := 0) (lo := 0) (hi := 200) (nx := 187) (by decide +kernel) ?_
              intro v82 ev82 lv82 uv82
              refine zwW_p [(1, 3, 0), (0, 2, 0)] (q := 189) (ls' := [(2, 37), (0, a), (0, b), (0, c), (0, v17)]) (st' := [(0, 2), (0, c), (0, v82), (2, 183)]) (by decide +kernel) rfl ?_
              refine zwW_div (nx := 190) (by decide +kernel) (by omega) (by omega) (by omega) ?_
              refine zwW_as Ih81 (a1 := 183) (a2 := 183) (n := 200) (lo := -2147483648) (hi := 2147483647) (nx := 191) (by decide +kernel) (by first | decide | exact ⟨by decide, by decide⟩) (by first | omega | exact ⟨by omega, by omega⟩) (by first | omega | exact ⟨by omega, by omega⟩) ?_
              intro h83 eh83 Ih83
              have th83_37_78 : fld h83 37 78 = fld h81 37 78 := by rw [eh83]; exact fld_wr (by omega)
              have Rh83 : zMR ms42 h h83 := Rh81.w (a1 := 183) (a2 := 183) (j1 := 0) (j2 := 200) (by decide +kernel) (by first | decide | exact ⟨by decide, by decide⟩) (by first | omega | exact ⟨by omega, by omega⟩) eh83
              refine zwW_p [(1, 0, 2)] (q := 192) (ls' := [(2, 37), (0, a), (0, b), (0, c), (0, v17)]) (st' := [(2, 37)]) (by decide +kernel) rfl ?_
              refine zwW_gc Ih83 (kd := 13) (bn := 76) (n := 97) (c := 184) (nx := 195) (by decide +kernel) ?_
              refine zwW_p [(1, 0, 2)] (q := 196) (ls' := [(2, 37), (0, a), (0, b), (0, c), (0, v17)]) (st' := [(2, 37), (2, 184)]) (by decide +kernel) rfl ?_
              refine zwW_gs Ih83 (kd := 13) (bn := 78) (n := 97) (t := 0) (lo := 0) (hi := 200) (nx := 199) (by decide +kernel) ?_
              intro v84 ev84 lv84 uv84
              refine zwW_p [(0, -1, 0)] (q := 200) (ls' := [(2, 37), (0, a), (0, b), (0, c), (0, v17)]) (st' := [(0, -1), (0, v84), (2, 184)]) (by decide +kernel) rfl ?_
              refine zwW_as Ih83 (a1 := 184) (a2 := 184) (n := 200) (lo := -1) (hi := 7) (nx := 201) (by decide +kernel) (by first | decide | exact ⟨by decide, by decide⟩) (by first | omega | exact ⟨by omega, by omega⟩) (by first | decide | exact ⟨by decide, by decide⟩) ?_
              intro h85 eh85 Ih85
              have th85_37_78 : fld h85 37 78 = fld h83 37 78 := by rw [eh85]; exact fld_wr (by omega)
              have Rh85 : zMR ms42 h h85 := Rh83.w (a1 := 184) (a2 := 184) (j1 := 0) (j2 := 200) (by decide +kernel) (by first | decide | exact ⟨by decide, by decide⟩) (by first | omega | exact ⟨by omega, by omega⟩) eh85
              refine zwW_p [(1, 0, 2), (12, 0, 0)] (q := 203) (ls' := [(2, 37), (0, a), (0, b), (0, c), (0, v17)]) (st' := [(2, 37), (2, 37)]) (by decide +kernel) rfl ?_
              refine zwW_gs Ih85 (kd := 13) (bn := 78) (n := 97) (t := 0) (lo := 0) (hi := 200) (nx := 206) (by decide +kernel) ?_
              intro v86 ev86 lv86 uv86
              refine zwW_p [(0, 1, 0)] (q := 207) (ls' := [(2, 37), (0, a), (0, b), (0, c), (0, v17)]) (st' := [(0, 1), (0, v86), (2, 37)]) (by decide +kernel) rfl ?_
              refine zwW_add (nx := 208) (by decide +kernel) (by first | omega | exact ⟨by omega, by omega⟩) ?_
              refine zwW_ps Ih85 (kd := 13) (bn := 78) (n := 97) (lo := 0) (hi := 200) (nx := 211) (by decide +kernel) (by first | omega | exact ⟨by omega, by omega⟩) ?_
              intro h87 eh87 Ih87
              have th87_37_78 : fld h87 37 78 = (v86 + 1) := by rw [eh87]; exact fld_wr_eq (Ih85.s (a1 := 37) (a2 := 37) (k := 13) (n := 97) (by decide +kernel) (by decide) (by decide)) (by decide)
              have Rh87 : zMR ms42 h h87 := Rh85.w (a1 := 37) (a2 := 37) (j1 := 78) (j2 := 79) (by decide +kernel) (by first | decide | exact ⟨by decide, by decide⟩) (by first | decide | exact ⟨by decide, by decide⟩) eh87
              refine zwW_p [(1, 0, 2)] (q := 212) (ls' := [(2, 37), (0, a), (0, b), (0, c), (0, v17)]) (st' := [(2, 37)]) (by decide +kernel) rfl ?_
              refine zwW_gs Ih87 (kd := 13) (bn := 78) (n := 97) (t := 0) (lo := 0) (hi := 200) (nx := 215) (by decide +kernel) ?_
              intro v88 ev88 lv88 uv88
              refine zwW_p [(0, 1, 0)] (q := 216) (ls' := [(2, 37), (0, a), (0, b), (0, c), (0, v17)]) (st' := [(0, 1), (0, v88)]) (by decide +kernel) rfl ?_
              refine zwW_sub (nx := 217) (by decide +kernel) (by first | omega | exact ⟨by omega, by omega⟩) ?_
              refine zwW_ret (nx := 218) (a := 0) (b := 0) (by decide +kernel) rfl (Or.inl rfl) ?_
              exact ⟨Ih87, Rh87, by omega⟩
          · refine zwW_p [(0, -1, 0)] (q := 41) (ls' := [(2, 37), (0, a), (0, b), (0, c), (9, 0)]) (st' := [(0, -1)]) (by decide +kernel) rfl ?_
            refine zwW_ret (nx := 42) (a := 0) (b := 0) (by decide +kernel) rfl (Or.inl rfl) ?_
            exact ⟨Ih11, Rh11, by omega⟩
  · refine zwif_eq (q := 40) (nx := 10) (by decide +kernel) (fun c89 => ?_) (fun c89 => ?_)
    · refine zwW_p [(0, -1, 0)] (q := 41) (ls' := [(2, 37), (0, a), (0, b), (0, c), (9, 0)]) (st' := [(0, -1)]) (by decide +kernel) rfl ?_
      refine zwW_ret (nx := 42) (a := 0) (b := 0) (by decide +kernel) rfl (Or.inl rfl) ?_
      exact ⟨I, R, by omega⟩
    · exfalso; omega
-- WheelLandModel.cloth(II)I
theorem m44 {sc : List Int} (h : Hp) (I : zI h) (a b : Int) : zwC sc 3 44 [(2, 37), (0, a), (0, b)] h (zwRt 0 (fun x g => h = g ∧ (-2147483648 ≤ x ∧ x ≤ 2147483647))) := by
  refine zwC_of (D := 2) 3 (by decide +kernel) rfl (ls := [(2, 37), (0, a), (0, b)]) rfl ?_
  refine zwW_p [(1, 0, 2), (1, 1, 0)] (q := 2) (ls' := [(2, 37), (0, a), (0, b)]) (st' := [(0, a), (2, 37)]) (by decide +kernel) rfl ?_
  refine zwW_cm I (op := 60) (k' := 139) (n := 1) (kd := 13) (m := 97) (nx := 5) (r := 37) (tl := [(0, a)]) (st' := []) (by decide +kernel) rfl (by decide +kernel) rfl (m139 h I a) ?_
  rintro x _ ⟨rfl, ⟨rfl, c1⟩ | ⟨rfl, c1⟩⟩
  · refine zwif_ne (q := 10) (nx := 8) (by decide +kernel) (fun c2 => ?_) (fun c2 => ?_)
    · refine zwW_p [(1, 2, 0)] (q := 11) (ls' := [(2, 37), (0, a), (0, b)]) (st' := [(0, b)]) (by decide +kernel) rfl ?_
      refine zwW_sw (d := 130) (os := [0, 56, 1, 63, 2, 70, 3, 77, 4, 84, 5, 99, 6, 111, 7, 123]) (by decide +kernel) ?_
      refine ⟨fun c3 => ?_, fun c3 => ?_⟩
      · show zwW _ _ _ 56 _ _ _ _
        refine zwW_p [(1, 0, 2)] (q := 57) (ls' := [(2, 37), (0, a), (0, b)]) (st' := [(2, 37)]) (by decide +kernel) rfl ?_
        refine zwW_gc I (kd := 13) (bn := 72) (n := 97) (c := 180) (nx := 60) (by decide +kernel) ?_
        refine zwW_p [(1, 1, 0)] (q := 61) (ls' := [(2, 37), (0, a), (0, b)]) (st' := [(0, a), (2, 180)]) (by decide +kernel) rfl ?_
        refine zwW_al I (a1 := 180) (a2 := 180) (kd := 20) (n := 200) (t := 0) (lo := 0) (hi := 299) (nx := 62) (by decide +kernel) (by first | decide | exact ⟨by decide, by decide⟩) (by first | omega | exact ⟨by omega, by omega⟩) ?_
        intro v4 ev4 lv4 uv4
        refine zwW_ret (nx := 63) (a := 0) (b := 0) (by decide +kernel) rfl (Or.inl rfl) ?_
        exact ⟨rfl, by omega⟩
      refine ⟨fun c5 => ?_, fun c5 => ?_⟩
      · show zwW _ _ _ 63 _ _ _ _
        refine zwW_p [(1, 0, 2)] (q := 64) (ls' := [(2, 37), (0, a), (0, b)]) (st' := [(2, 37)]) (by decide +kernel) rfl ?_
        refine zwW_gc I (kd := 13) (bn := 73) (n := 97) (c := 181) (nx := 67) (by decide +kernel) ?_
        refine zwW_p [(1, 1, 0)] (q := 68) (ls' := [(2, 37), (0, a), (0, b)]) (st' := [(0, a), (2, 181)]) (by decide +kernel) rfl ?_
        refine zwW_al I (a1 := 181) (a2 := 181) (kd := 20) (n := 200) (t := 0) (lo := 0) (hi := 19) (nx := 69) (by decide +kernel) (by first | decide | exact ⟨by decide, by decide⟩) (by first | omega | exact ⟨by omega, by omega⟩) ?_
        intro v6 ev6 lv6 uv6
        refine zwW_ret (nx := 70) (a := 0) (b := 0) (by decide +kernel) rfl (Or.inl rfl) ?_
        exact ⟨rfl, by omega⟩
      refine ⟨fun c7 => ?_, fun c7 => ?_⟩
      · show zwW _ _ _ 70 _ _ _ _
        refine zwW_p [(1, 0, 2)] (q := 71) (ls' := [(2, 37), (0, a), (0, b)]) (st' := [(2, 37)]) (by decide +kernel) rfl ?_
        refine zwW_gc I (kd := 13) (bn := 74) (n := 97) (c := 182) (nx := 74) (by decide +kernel) ?_
        refine zwW_p [(1, 1, 0)] (q := 75) (ls' := [(2, 37), (0, a), (0, b)]) (st' := [(0, a), (2, 182)]) (by decide +kernel) rfl ?_
        refine zwW_al I (a1 := 182) (a2 := 182) (kd := 20) (n := 200) (t := 0) (lo := -2147483648) (hi := 2147483647) (nx := 76) (by decide +kernel) (by first | decide | exact ⟨by decide, by decide⟩) (by first | omega | exact ⟨by omega, by omega⟩) ?_
        intro v8 ev8 lv8 uv8
        refine zwW_ret (nx := 77) (a := 0) (b := 0) (by decide +kernel) rfl (Or.inl rfl) ?_
        exact ⟨rfl, by omega⟩
      refine ⟨fun c9 => ?_, fun c9 => ?_⟩
      · show zwW _ _ _ 77 _ _ _ _
        refine zwW_p [(1, 0, 2)] (q := 78) (ls' := [(2, 37), (0, a), (0, b)]) (st' := [(2, 37)]) (by decide +kernel) rfl ?_
        refine zwW_gc I (kd := 13) (bn := 75) (n := 97) (c := 183) (nx := 81) (by decide +kernel) ?_
        refine zwW_p [(1, 1, 0)] (q := 82) (ls' := [(2, 37), (0, a), (0, b)]) (st' := [(0, a), (2, 183)]) (by decide +kernel) rfl ?_
        refine zwW_al I (a1 := 183) (a2 := 183) (kd := 20) (n := 200) (t := 0) (lo := -2147483648) (hi := 2147483647) (nx := 83) (by decide +kernel) (by first | decide | exact ⟨by decide, by decide⟩) (by first | omega | exact ⟨by omega, by omega⟩) ?_
        intro v10 ev10 lv10 uv10
        refine zwW_ret (nx := 84) (a := 0) (b := 0) (by decide +kernel) rfl (Or.inl rfl) ?_
        exact ⟨rfl, by omega⟩
      refine ⟨fun c11 => ?_, fun c11 => ?_⟩
      · show zwW _ _ _ 84 _ _ _ _
        refine zwW_p [(1, 0, 2)] (q := 85) (ls' := [(2, 37), (0, a), (0, b)]) (st' := [(2, 37)]) (by decide +kernel) rfl ?_
        refine zwW_gc I (kd := 13) (bn := 77) (n := 97) (c := 185) (nx := 88) (by decide +kernel) ?_
        refine zwW_p [(1, 1, 0)] (q := 89) (ls' := [(2, 37), (0, a), (0, b)]) (st' := [(0, a), (2, 185)]) (by decide +kernel) rfl ?_
        refine zwW_al I (a1 := 185) (a2 := 185) (kd := 22) (n := 200) (t := 0) (lo := 0) (hi := 1) (nx := 90) (by decide +kernel) (by first | decide | exact ⟨by decide, by decide⟩) (by first | omega | exact ⟨by omega, by omega⟩) ?_
        intro v12 ev12 lv12 uv12
        refine zwif_eq (q := 97) (nx := 93) (by decide +kernel) (fun c13 => ?_) (fun c13 => ?_)
        · refine zwW_p [(0, 0, 0)] (q := 98) (ls' := [(2, 37), (0, a), (0, b)]) (st' := [(0, 0)]) (by decide +kernel) rfl ?_
          refine zwW_ret (nx := 99) (a := 0) (b := 0) (by decide +kernel) rfl (Or.inl rfl) ?_
          exact ⟨rfl, by omega⟩
        · refine zwW_p [(0, 1, 0), (24, 98, 0)] (q := 98) (ls' := [(2, 37), (0, a), (0, b)]) (st' := [(0, 1)]) (by decide +kernel) rfl ?_
          refine zwW_ret (nx := 99) (a := 0) (b := 0) (by decide +kernel) rfl (Or.inl rfl) ?_
          exact ⟨rfl, by omega⟩
      refine ⟨fun c14 => ?_, fun c14 => ?_⟩
      · show zwW _ _ _ 99 _ _ _ _
        refine zwW_p [(1, 0, 2)] (q := 100) (ls' := [(2, 37), (0, a), (0, b)]) (st' := [(2, 37)]) (by decide +kernel) rfl ?_
        refine zwW_gc I (kd := 13) (bn := 58) (n := 97) (c := 170) (nx := 103) (by decide +kernel) ?_
        refine zwW_p [(1, 0, 2)] (q := 104) (ls' := [(2, 37), (0, a), (0, b)]) (st' := [(2, 37), (2, 170)]) (by decide +kernel) rfl ?_
        refine zwW_gc I (kd := 13) (bn := 72) (n := 97) (c := 180) (nx := 107) (by decide +kernel) ?_
        refine zwW_p [(1, 1, 0)] (q := 108) (ls' := [(2, 37), (0, a), (0, b)]) (st' := [(0, a), (2, 180), (2, 170)]) (by decide +kernel) rfl ?_
        refine zwW_al I (a1 := 180) (a2 := 180) (kd := 20) (n := 200) (t := 0) (lo := 0) (hi := 299) (nx := 109) (by decide +kernel) (by first | decide | exact ⟨by decide, by decide⟩) (by first | omega | exact ⟨by omega, by omega⟩) ?_
        intro v15 ev15 lv15 uv15
        refine zwW_al I (a1 := 170) (a2 := 170) (kd := 20) (n := 300) (t := 0) (lo := 0) (hi := 19) (nx := 110) (by decide +kernel) (by first | decide | exact ⟨by decide, by decide⟩) (by first | omega | exact ⟨by omega, by omega⟩) ?_
        intro v16 ev16 lv16 uv16
        refine zwW_ret (nx := 111) (a := 0) (b := 0) (by decide +kernel) rfl (Or.inl rfl) ?_
        exact ⟨rfl, by omega⟩
      refine ⟨fun c17 => ?_, fun c17 => ?_⟩
      · show zwW _ _ _ 111 _ _ _ _
        refine zwW_p [(1, 0, 2)] (q := 112) (ls' := [(2, 37), (0, a), (0, b)]) (st' := [(2, 37)]) (by decide +kernel) rfl ?_
        refine zwW_gc I (kd := 13) (bn := 59) (n := 97) (c := 171) (nx := 115) (by decide +kernel) ?_
        refine zwW_p [(1, 0, 2)] (q := 116) (ls' := [(2, 37), (0, a), (0, b)]) (st' := [(2, 37), (2, 171)]) (by decide +kernel) rfl ?_
        refine zwW_gc I (kd := 13) (bn := 72) (n := 97) (c := 180) (nx := 119) (by decide +kernel) ?_
        refine zwW_p [(1, 1, 0)] (q := 120) (ls' := [(2, 37), (0, a), (0, b)]) (st' := [(0, a), (2, 180), (2, 171)]) (by decide +kernel) rfl ?_
        refine zwW_al I (a1 := 180) (a2 := 180) (kd := 20) (n := 200) (t := 0) (lo := 0) (hi := 299) (nx := 121) (by decide +kernel) (by first | decide | exact ⟨by decide, by decide⟩) (by first | omega | exact ⟨by omega, by omega⟩) ?_
        intro v18 ev18 lv18 uv18
        refine zwW_al I (a1 := 171) (a2 := 171) (kd := 20) (n := 300) (t := 0) (lo := -2147483648) (hi := 2147483647) (nx := 122) (by decide +kernel) (by first | decide | exact ⟨by decide, by decide⟩) (by first | omega | exact ⟨by omega, by omega⟩) ?_
        intro v19 ev19 lv19 uv19
        refine zwW_ret (nx := 123) (a := 0) (b := 0) (by decide +kernel) rfl (Or.inl rfl) ?_
        exact ⟨rfl, by omega⟩
      refine ⟨fun c20 => ?_, fun c20 => ?_⟩
      · show zwW _ _ _ 123 _ _ _ _
        refine zwW_p [(1, 0, 2)] (q := 124) (ls' := [(2, 37), (0, a), (0, b)]) (st' := [(2, 37)]) (by decide +kernel) rfl ?_
        refine zwW_gc I (kd := 13) (bn := 76) (n := 97) (c := 184) (nx := 127) (by decide +kernel) ?_
        refine zwW_p [(1, 1, 0)] (q := 128) (ls' := [(2, 37), (0, a), (0, b)]) (st' := [(0, a), (2, 184)]) (by decide +kernel) rfl ?_
        refine zwW_al I (a1 := 184) (a2 := 184) (kd := 20) (n := 200) (t := 0) (lo := -1) (hi := 7) (nx := 129) (by decide +kernel) (by first | decide | exact ⟨by decide, by decide⟩) (by first | omega | exact ⟨by omega, by omega⟩) ?_
        intro v21 ev21 lv21 uv21
        refine zwW_ret (nx := 130) (a := 0) (b := 0) (by decide +kernel) rfl (Or.inl rfl) ?_
        exact ⟨rfl, by omega⟩
      show zwW _ _ _ 130 _ _ _ _
      refine zwW_p [(0, -1, 0)] (q := 131) (ls' := [(2, 37), (0, a), (0, b)]) (st' := [(0, -1)]) (by decide +kernel) rfl ?_
      refine zwW_ret (nx := 132) (a := 0) (b := 0) (by decide +kernel) rfl (Or.inl rfl) ?_
      exact ⟨rfl, by omega⟩
    · exfalso; omega
  · refine zwif_ne (q := 10) (nx := 8) (by decide +kernel) (fun c22 => ?_) (fun c22 => ?_)
    · exfalso; omega
    · refine zwW_p [(0, -1, 0)] (q := 9) (ls' := [(2, 37), (0, a), (0, b)]) (st' := [(0, -1)]) (by decide +kernel) rfl ?_
      refine zwW_ret (nx := 10) (a := 0) (b := 0) (by decide +kernel) rfl (Or.inl rfl) ?_
      exact ⟨rfl, by omega⟩
def ms46 : Zms := [(37, 37, 86, 87), (186, 186, 0, 6)]
-- WheelLandModel.ask(I)I
theorem m46 {sc : List Int} (h : Hp) (I : zI h) (a : Int) : zwC sc 3 46 [(2, 37), (0, a)] h (zwRt 0 (fun x g => zI g ∧ zMR ms46 h g ∧ (-2147483648 ≤ x ∧ x ≤ 2147483647))) := by
  refine zwC_of (D := 2) 3 (by decide +kernel) rfl (ls := [(2, 37), (0, a), (9, 0)]) rfl ?_
  have R : zMR ms46 h h := zMR.rf _ _
  refine zwW_p [(1, 0, 2), (1, 1, 0)] (q := 2) (ls' := [(2, 37), (0, a), (9, 0)]) (st' := [(0, a), (2, 37)]) (by decide +kernel) rfl ?_
  refine zwW_cm I (op := 60) (k' := 116) (n := 1) (kd := 13) (m := 97) (nx := 5) (r := 37) (tl := [(0, a)]) (st' := []) (by decide +kernel) rfl (by decide +kernel) rfl (m116 h I a) ?_
  rintro x _ ⟨rfl, ⟨rfl, c1⟩ | ⟨rfl, c1⟩⟩
  · refine zwif_eq (q := 17) (nx := 8) (by decide +kernel) (fun c2 => ?_) (fun c2 => ?_)
    · exfalso; omega
    · refine zwW_p [(1, 0, 2)] (q := 9) (ls' := [(2, 37), (0, a), (9, 0)]) (st' := [(2, 37)]) (by decide +kernel) rfl ?_
      refine zwW_gs I (kd := 13) (bn := 86) (n := 97) (t := 0) (lo := 0) (hi := 6) (nx := 12) (by decide +kernel) ?_
      intro v3 ev3 lv3 uv3
      refine zwW_p [(0, 6, 0)] (q := 14) (ls' := [(2, 37), (0, a), (9, 0)]) (st' := [(0, 6), (0, v3)]) (by decide +kernel) rfl ?_
      refine zwic_ne (q := 19) (nx := 17) (by decide +kernel) (fun c4 => ?_) (fun c4 => ?_)
      · refine zwW_p [(0, 0, 0), (2, 2, 0)] (q := 21) (ls' := [(2, 37), (0, a), (0, 0)]) (st' := []) (by decide +kernel) rfl ?_
        have L5 : ∀ (n : Nat) (kL5 : Int) (hL5 : Hp), n = ((100 - kL5)).toNat → (0 ≤ kL5 ∧ kL5 ≤ 6) → (fld hL5 37 86 = fld h 37 86) → zI hL5 → zMR ms46 h hL5 → zwW sc (2) 46 21 [(2, 37), (0, a), (0, kL5)] [] hL5 (zwRt 0 (fun x g => zI g ∧ zMR ms46 h g ∧ (-2147483648 ≤ x ∧ x ≤ 2147483647))) := by
          intro n
          induction n using Nat.strongRecOn with
          | ind n IHL5 =>
            intro kL5 hL5 hnL5 iL5_0 iL5_1 IhL5 RhL5
            refine zwW_p [(1, 2, 0), (1, 0, 2)] (q := 23) (ls' := [(2, 37), (0, a), (0, kL5)]) (st' := [(2, 37), (0, kL5)]) (by decide +kernel) rfl ?_
            refine zwW_gs IhL5 (kd := 13) (bn := 86) (n := 97) (t := 0) (lo := 0) (hi := 6) (nx := 26) (by decide +kernel) ?_
            intro v6 ev6 lv6 uv6
            refine zwic_ge (q := 47) (nx := 29) (by decide +kernel) (fun c7 => ?_) (fun c7 => ?_)
            · refine zwW_p [(1, 0, 2)] (q := 48) (ls' := [(2, 37), (0, a), (0, kL5)]) (st' := [(2, 37)]) (by decide +kernel) rfl ?_
              refine zwW_gc IhL5 (kd := 13) (bn := 79) (n := 97) (c := 186) (nx := 51) (by decide +kernel) ?_
              refine zwW_p [(1, 0, 2)] (q := 52) (ls' := [(2, 37), (0, a), (0, kL5)]) (st' := [(2, 37), (2, 186)]) (by decide +kernel) rfl ?_
              refine zwW_gs IhL5 (kd := 13) (bn := 86) (n := 97) (t := 0) (lo := 0) (hi := 6) (nx := 55) (by decide +kernel) ?_
              intro v8 ev8 lv8 uv8
              refine zwW_p [(1, 1, 0)] (q := 56) (ls' := [(2, 37), (0, a), (0, kL5)]) (st' := [(0, a), (0, v8), (2, 186)]) (by decide +kernel) rfl ?_
              refine zwW_as IhL5 (a1 := 186) (a2 := 186) (n := 6) (lo := 0) (hi := 299) (nx := 57) (by decide +kernel) (by first | decide | exact ⟨by decide, by decide⟩) (by first | omega | exact ⟨by omega, by omega⟩) (by first | omega | exact ⟨by omega, by omega⟩) ?_
              intro h9 eh9 Ih9
              have th9_37_86 : fld h9 37 86 = fld hL5 37 86 := by rw [eh9]; exact fld_wr (by omega)
              have Rh9 : zMR ms46 h h9 := RhL5.w (a1 := 186) (a2 := 186) (j1 := 0) (j2 := 6) (by decide +kernel) (by first | decide | exact ⟨by decide, by decide⟩) (by first | omega | exact ⟨by omega, by omega⟩) eh9
              refine zwW_p [(1, 0, 2), (12, 0, 0)] (q := 59) (ls' := [(2, 37), (0, a), (0, kL5)]) (st' := [(2, 37), (2, 37)]) (by decide +kernel) rfl ?_
              refine zwW_gs Ih9 (kd := 13) (bn := 86) (n := 97) (t := 0) (lo := 0) (hi := 6) (nx := 62) (by decide +kernel) ?_
              intro v10 ev10 lv10 uv10
              refine zwW_p [(0, 1, 0)] (q := 63) (ls' := [(2, 37), (0, a), (0, kL5)]) (st' := [(0, 1), (0, v10), (2, 37)]) (by decide +kernel) rfl ?_
              refine zwW_add (nx := 64) (by decide +kernel) (by first | omega | exact ⟨by omega, by omega⟩) ?_
              refine zwW_ps Ih9 (kd := 13) (bn := 86) (n := 97) (lo := 0) (hi := 6) (nx := 67) (by decide +kernel) (by first | omega | exact ⟨by omega, by omega⟩) ?_
              intro h11 eh11 Ih11
              have th11_37_86 : fld h11 37 86 = (v10 + 1) := by rw [eh11]; exact fld_wr_eq (Ih9.s (a1 := 37) (a2 := 37) (k := 13) (n := 97) (by decide +kernel) (by decide) (by decide)) (by decide)
              have Rh11 : zMR ms46 h h11 := Rh9.w (a1 := 37) (a2 := 37) (j1 := 86) (j2 := 87) (by decide +kernel) (by first | decide | exact ⟨by decide, by decide⟩) (by first | decide | exact ⟨by decide, by decide⟩) eh11
              refine zwW_p [(1, 0, 2)] (q := 68) (ls' := [(2, 37), (0, a), (0, kL5)]) (st' := [(2, 37)]) (by decide +kernel) rfl ?_
              refine zwW_gs Ih11 (kd := 13) (bn := 86) (n := 97) (t := 0) (lo := 0) (hi := 6) (nx := 71) (by decide +kernel) ?_
              intro v12 ev12 lv12 uv12
              refine zwW_ret (nx := 72) (a := 0) (b := 0) (by decide +kernel) rfl (Or.inl rfl) ?_
              exact ⟨Ih11, Rh11, by omega⟩
            · refine zwW_p [(1, 0, 2)] (q := 30) (ls' := [(2, 37), (0, a), (0, kL5)]) (st' := [(2, 37)]) (by decide +kernel) rfl ?_
              refine zwW_gc IhL5 (kd := 13) (bn := 79) (n := 97) (c := 186) (nx := 33) (by decide +kernel) ?_
              refine zwW_p [(1, 2, 0)] (q := 34) (ls' := [(2, 37), (0, a), (0, kL5)]) (st' := [(0, kL5), (2, 186)]) (by decide +kernel) rfl ?_
              refine zwW_al IhL5 (a1 := 186) (a2 := 186) (kd := 20) (n := 6) (t := 0) (lo := 0) (hi := 299) (nx := 35) (by decide +kernel) (by first | decide | exact ⟨by decide, by decide⟩) (by first | omega | exact ⟨by omega, by omega⟩) ?_
              intro v13 ev13 lv13 uv13
              refine zwW_p [(1, 1, 0)] (q := 36) (ls' := [(2, 37), (0, a), (0, kL5)]) (st' := [(0, a), (0, v13)]) (by decide +kernel) rfl ?_
              refine zwic_ne (q := 41) (nx := 39) (by decide +kernel) (fun c14 => ?_) (fun c14 => ?_)
              · refine zwW_inc (i := 2) (c := 1) (x := kL5) (nx := 44) (by decide +kernel) rfl (by first | omega | exact ⟨by omega, by omega⟩) (ls' := [(2, 37), (0, a), (0, (kL5 + 1))]) rfl ?_
                refine zwW_p [(24, 21, 0)] (q := 21) (ls' := [(2, 37), (0, a), (0, (kL5 + 1))]) (st' := []) (by decide +kernel) rfl ?_
                exact IHL5 ((100 - (kL5 + 1))).toNat (by omega) (kL5 + 1) hL5 rfl (by omega) (by omega) IhL5 RhL5
              · refine zwW_p [(0, -1, 0)] (q := 40) (ls' := [(2, 37), (0, a), (0, kL5)]) (st' := [(0, -1)]) (by decide +kernel) rfl ?_
                refine zwW_ret (nx := 41) (a := 0) (b := 0) (by decide +kernel) rfl (Or.inl rfl) ?_
                exact ⟨IhL5, RhL5, by omega⟩
        exact L5 _ 0 h rfl (by omega) (by omega) I R
      · refine zwW_p [(0, -1, 0)] (q := 18) (ls' := [(2, 37), (0, a), (9, 0)]) (st' := [(0, -1)]) (by decide +kernel) rfl ?_
        refine zwW_ret (nx := 19) (a := 0) (b := 0) (by decide +kernel) rfl (Or.inl rfl) ?_
        exact ⟨I, R, by omega⟩
  · refine zwif_eq (q := 17) (nx := 8) (by decide +kernel) (fun c15 => ?_) (fun c15 => ?_)
    · refine zwW_p [(0, -1, 0)] (q := 18) (ls' := [(2, 37), (0, a), (9, 0)]) (st' := [(0, -1)]) (by decide +kernel) rfl ?_
      refine zwW_ret (nx := 19) (a := 0) (b := 0) (by decide +kernel) rfl (Or.inl rfl) ?_
      exact ⟨I, R, by omega⟩
    · exfalso; omega
def ms48 : Zms := [(37, 37, 86, 87)]
-- WheelLandModel.clear()I
theorem m48 {sc : List Int} (h : Hp) (I : zI h) : zwC sc 1 48 [(2, 37)] h (zwRt 0 (fun x g => zI g ∧ zMR ms48 h g ∧ (-2147483648 ≤ x ∧ x ≤ 2147483647))) := by
  refine zwC_of (D := 0) 2 (by decide +kernel) rfl (ls := [(2, 37), (9, 0)]) rfl ?_
  have R : zMR ms48 h h := zMR.rf _ _
  refine zwW_p [(1, 0, 2)] (q := 1) (ls' := [(2, 37), (9, 0)]) (st' := [(2, 37)]) (by decide +kernel) rfl ?_
  refine zwW_gs I (kd := 13) (bn := 86) (n := 97) (t := 0) (lo := 0) (hi := 6) (nx := 4) (by decide +kernel) ?_
  intro v1 ev1 lv1 uv1
  refine zwW_p [(2, 1, 0), (1, 0, 2), (0, 0, 0)] (q := 7) (ls' := [(2, 37), (0, v1)]) (st' := [(0, 0), (2, 37)]) (by decide +kernel) rfl ?_
  refine zwW_ps I (kd := 13) (bn := 86) (n := 97) (lo := 0) (hi := 6) (nx := 10) (by decide +kernel) (by first | decide | exact ⟨by decide, by decide⟩) ?_
  intro h2 eh2 Ih2
  have Rh2 : zMR ms48 h h2 := R.w (a1 := 37) (a2 := 37) (j1 := 86) (j2 := 87) (by decide +kernel) (by first | decide | exact ⟨by decide, by decide⟩) (by first | decide | exact ⟨by decide, by decide⟩) eh2
  refine zwW_p [(1, 1, 0)] (q := 11) (ls' := [(2, 37), (0, v1)]) (st' := [(0, v1)]) (by decide +kernel) rfl ?_
  refine zwW_ret (nx := 12) (a := 0) (b := 0) (by decide +kernel) rfl (Or.inl rfl) ?_
  exact ⟨Ih2, Rh2, by omega⟩
def ms52 : Zms := [(67, 67, 0, 8), (68, 68, 0, 8), (75, 75, 0, 8), (97, 97, 0, 8), (184, 184, 0, 200)]
-- WheelLandModel.bring(II)I
theorem m52 {sc : List Int} (h : Hp) (I : zI h) (a b : Int) : zwC sc 3 52 [(2, 37), (0, a), (0, b)] h (zwRt 0 (fun x g => zI g ∧ zMR ms52 h g ∧ (-2147483648 ≤ x ∧ x ≤ 2147483647))) := by
  refine zwC_of (D := 2) 3 (by decide +kernel) rfl (ls := [(2, 37), (0, a), (0, b)]) rfl ?_
  have R : zMR ms52 h h := zMR.rf _ _
  refine zwW_p [(1, 0, 2), (1, 1, 0)] (q := 2) (ls' := [(2, 37), (0, a), (0, b)]) (st' := [(0, a), (2, 37)]) (by decide +kernel) rfl ?_
  refine zwW_cm I (op := 60) (k' := 139) (n := 1) (kd := 13) (m := 97) (nx := 5) (r := 37) (tl := [(0, a)]) (st' := []) (by decide +kernel) rfl (by decide +kernel) rfl (m139 h I a) ?_
  rintro x _ ⟨rfl, ⟨rfl, c1⟩ | ⟨rfl, c1⟩⟩
  · refine zwif_eq (q := 72) (nx := 8) (by decide +kernel) (fun c2 => ?_) (fun c2 => ?_)
    · exfalso; omega
    · refine zwW_p [(1, 0, 2), (1, 2, 0)] (q := 10) (ls' := [(2, 37), (0, a), (0, b)]) (st' := [(0, b), (2, 37)]) (by decide +kernel) rfl ?_
      refine zwW_cm I (op := 60) (k' := 104) (n := 1) (kd := 13) (m := 97) (nx := 13) (r := 37) (tl := [(0, b)]) (st' := []) (by decide +kernel) rfl (by decide +kernel) rfl (m104 h I b) ?_
      rintro x _ ⟨rfl, ⟨rfl, c3⟩ | ⟨rfl, c3⟩⟩
      · refine zwif_eq (q := 72) (nx := 16) (by decide +kernel) (fun c4 => ?_) (fun c4 => ?_)
        · exfalso; omega
        · refine zwW_p [(1, 0, 2)] (q := 17) (ls' := [(2, 37), (0, a), (0, b)]) (st' := [(2, 37)]) (by decide +kernel) rfl ?_
          refine zwW_gc I (kd := 13) (bn := 76) (n := 97) (c := 184) (nx := 20) (by decide +kernel) ?_
          refine zwW_p [(1, 1, 0)] (q := 21) (ls' := [(2, 37), (0, a), (0, b)]) (st' := [(0, a), (2, 184)]) (by decide +kernel) rfl ?_
          refine zwW_al I (a1 := 184) (a2 := 184) (kd := 20) (n := 200) (t := 0) (lo := -1) (hi := 7) (nx := 22) (by decide +kernel) (by first | decide | exact ⟨by decide, by decide⟩) (by first | omega | exact ⟨by omega, by omega⟩) ?_
          intro v5 ev5 lv5 uv5
          refine zwW_p [(0, -1, 0)] (q := 23) (ls' := [(2, 37), (0, a), (0, b)]) (st' := [(0, -1), (0, v5)]) (by decide +kernel) rfl ?_
          refine zwic_ne (q := 72) (nx := 26) (by decide +kernel) (fun c6 => ?_) (fun c6 => ?_)
          · refine zwW_p [(0, -1, 0)] (q := 73) (ls' := [(2, 37), (0, a), (0, b)]) (st' := [(0, -1)]) (by decide +kernel) rfl ?_
            refine zwW_ret (nx := 74) (a := 0) (b := 0) (by decide +kernel) rfl (Or.inl rfl) ?_
            exact ⟨I, R, by omega⟩
          · refine zwW_p [(1, 0, 2), (1, 0, 2)] (q := 28) (ls' := [(2, 37), (0, a), (0, b)]) (st' := [(2, 37), (2, 37)]) (by decide +kernel) rfl ?_
            refine zwW_gc I (kd := 13) (bn := 20) (n := 97) (c := 79) (nx := 31) (by decide +kernel) ?_
            refine zwW_p [(1, 0, 2)] (q := 32) (ls' := [(2, 37), (0, a), (0, b)]) (st' := [(2, 37), (2, 79), (2, 37)]) (by decide +kernel) rfl ?_
            refine zwW_gc I (kd := 13) (bn := 73) (n := 97) (c := 181) (nx := 35) (by decide +kernel) ?_
            refine zwW_p [(1, 1, 0)] (q := 36) (ls' := [(2, 37), (0, a), (0, b)]) (st' := [(0, a), (2, 181), (2, 79), (2, 37)]) (by decide +kernel) rfl ?_
            refine zwW_al I (a1 := 181) (a2 := 181) (kd := 20) (n := 200) (t := 0) (lo := 0) (hi := 19) (nx := 37) (by decide +kernel) (by first | decide | exact ⟨by decide, by decide⟩) (by first | omega | exact ⟨by omega, by omega⟩) ?_
            intro v7 ev7 lv7 uv7
            refine zwW_al I (a1 := 79) (a2 := 79) (kd := 20) (n := 20) (t := 0) (lo := 0) (hi := 7) (nx := 38) (by decide +kernel) (by first | decide | exact ⟨by decide, by decide⟩) (by first | omega | exact ⟨by omega, by omega⟩) ?_
            intro v8 ev8 lv8 uv8
            refine zwW_p [(1, 2, 0)] (q := 39) (ls' := [(2, 37), (0, a), (0, b)]) (st' := [(0, b), (0, v8), (2, 37)]) (by decide +kernel) rfl ?_
            refine zwW_cm I (op := 60) (k' := 106) (n := 2) (kd := 13) (m := 97) (nx := 42) (r := 37) (tl := [(0, v8), (0, b)]) (st' := []) (by decide +kernel) rfl (by decide +kernel) rfl (m106 h I v8 b (by omega) (by omega)) ?_
            rintro v9 h13 ⟨Ih13, Qh13, f10, f11, f12⟩
            have Rh13 : zMR ms52 h h13 := R.tr Qh13 (by decide +kernel)
            refine zwW_p [(0, -1, 0)] (q := 43) (ls' := [(2, 37), (0, a), (0, b)]) (st' := [(0, -1), (0, v9)]) (by decide +kernel) rfl ?_
            refine zwic_eq (q := 72) (nx := 46) (by decide +kernel) (fun c14 => ?_) (fun c14 => ?_)
            · refine zwW_p [(0, -1, 0)] (q := 73) (ls' := [(2, 37), (0, a), (0, b)]) (st' := [(0, -1)]) (by decide +kernel) rfl ?_
              refine zwW_ret (nx := 74) (a := 0) (b := 0) (by decide +kernel) rfl (Or.inl rfl) ?_
              exact ⟨Ih13, Rh13, by omega⟩
            · refine zwW_p [(1, 0, 2)] (q := 47) (ls' := [(2, 37), (0, a), (0, b)]) (st' := [(2, 37)]) (by decide +kernel) rfl ?_
              refine zwW_gc Ih13 (kd := 13) (bn := 8) (n := 97) (c := 67) (nx := 50) (by decide +kernel) ?_
              refine zwW_p [(1, 2, 0)] (q := 51) (ls' := [(2, 37), (0, a), (0, b)]) (st' := [(0, b), (2, 67)]) (by decide +kernel) rfl ?_
              refine zwW_al Ih13 (a1 := 67) (a2 := 67) (kd := 20) (n := 8) (t := 0) (lo := -2147483648) (hi := 2147483647) (nx := 52) (by decide +kernel) (by first | decide | exact ⟨by decide, by decide⟩) (by first | omega | exact ⟨by omega, by omega⟩) ?_
              intro v15 ev15 lv15 uv15
              refine zwW_p [(1, 0, 2)] (q := 53) (ls' := [(2, 37), (0, a), (0, b)]) (st' := [(2, 37), (0, v15)]) (by decide +kernel) rfl ?_
              refine zwW_gc Ih13 (kd := 13) (bn := 9) (n := 97) (c := 68) (nx := 56) (by decide +kernel) ?_
              refine zwW_p [(1, 2, 0)] (q := 57) (ls' := [(2, 37), (0, a), (0, b)]) (st' := [(0, b), (2, 68), (0, v15)]) (by decide +kernel) rfl ?_
              refine zwW_al Ih13 (a1 := 68) (a2 := 68) (kd := 20) (n := 8) (t := 0) (lo := -2147483648) (hi := 2147483647) (nx := 58) (by decide +kernel) (by first | decide | exact ⟨by decide, by decide⟩) (by first | omega | exact ⟨by omega, by omega⟩) ?_
              intro v16 ev16 lv16 uv16
              refine zwW_adw (nx := 59) (by decide +kernel) ?_
              intro v17 ev17 lv17 uv17
              refine zwW_p [(1, 0, 2)] (q := 60) (ls' := [(2, 37), (0, a), (0, b)]) (st' := [(2, 37), (0, v17)]) (by decide +kernel) rfl ?_
              refine zwW_gc Ih13 (kd := 13) (bn := 75) (n := 97) (c := 183) (nx := 63) (by decide +kernel) ?_
              refine zwW_p [(1, 1, 0)] (q := 64) (ls' := [(2, 37), (0, a), (0, b)]) (st' := [(0, a), (2, 183), (0, v17)]) (by decide +kernel) rfl ?_
              refine zwW_al Ih13 (a1 := 183) (a2 := 183) (kd := 20) (n := 200) (t := 0) (lo := -2147483648) (hi := 2147483647) (nx := 65) (by decide +kernel) (by first | decide | exact ⟨by decide, by decide⟩) (by first | omega | exact ⟨by omega, by omega⟩) ?_
              intro v18 ev18 lv18 uv18
              refine zwW_adw (nx := 66) (by decide +kernel) ?_
              intro v19 ev19 lv19 uv19
              refine zwW_p [(0, 9999, 0)] (q := 69) (ls' := [(2, 37), (0, a), (0, b)]) (st' := [(0, 9999), (0, v19)]) (by decide +kernel) rfl ?_
              refine zwic_le (q := 74) (nx := 72) (by decide +kernel) (fun c20 => ?_) (fun c20 => ?_)
              · refine zwW_p [(1, 0, 2)] (q := 75) (ls' := [(2, 37), (0, a), (0, b)]) (st' := [(2, 37)]) (by decide +kernel) rfl ?_
                refine zwW_gc Ih13 (kd := 13) (bn := 76) (n := 97) (c := 184) (nx := 78) (by decide +kernel) ?_
                refine zwW_p [(1, 1, 0), (1, 2, 0)] (q := 80) (ls' := [(2, 37), (0, a), (0, b)]) (st' := [(0, b), (0, a), (2, 184)]) (by decide +kernel) rfl ?_
                refine zwW_as Ih13 (a1 := 184) (a2 := 184) (n := 200) (lo := -1) (hi := 7) (nx := 81) (by decide +kernel) (by first | decide | exact ⟨by decide, by decide⟩) (by first | omega | exact ⟨by omega, by omega⟩) (by first | omega | exact ⟨by omega, by omega⟩) ?_
                intro h21 eh21 Ih21
                have Rh21 : zMR ms52 h h21 := Rh13.w (a1 := 184) (a2 := 184) (j1 := 0) (j2 := 200) (by decide +kernel) (by first | decide | exact ⟨by decide, by decide⟩) (by first | omega | exact ⟨by omega, by omega⟩) eh21
                refine zwW_p [(1, 0, 2)] (q := 82) (ls' := [(2, 37), (0, a), (0, b)]) (st' := [(2, 37)]) (by decide +kernel) rfl ?_
                refine zwW_gc Ih21 (kd := 13) (bn := 77) (n := 97) (c := 185) (nx := 85) (by decide +kernel) ?_
                refine zwW_p [(1, 1, 0)] (q := 86) (ls' := [(2, 37), (0, a), (0, b)]) (st' := [(0, a), (2, 185)]) (by decide +kernel) rfl ?_
                refine zwW_al Ih21 (a1 := 185) (a2 := 185) (kd := 22) (n := 200) (t := 0) (lo := 0) (hi := 1) (nx := 87) (by decide +kernel) (by first | decide | exact ⟨by decide, by decide⟩) (by first | omega | exact ⟨by omega, by omega⟩) ?_
                intro v22 ev22 lv22 uv22
                refine zwif_eq (q := 123) (nx := 90) (by decide +kernel) (fun c23 => ?_) (fun c23 => ?_)
                · refine zwW_p [(1, 0, 2)] (q := 124) (ls' := [(2, 37), (0, a), (0, b)]) (st' := [(2, 37)]) (by decide +kernel) rfl ?_
                  refine zwW_gc Ih21 (kd := 13) (bn := 9) (n := 97) (c := 68) (nx := 127) (by decide +kernel) ?_
                  refine zwW_p [(1, 2, 0), (14, 0, 0)] (q := 129) (ls' := [(2, 37), (0, a), (0, b)]) (st' := [(0, b), (2, 68), (0, b), (2, 68)]) (by decide +kernel) rfl ?_
                  refine zwW_al Ih21 (a1 := 68) (a2 := 68) (kd := 20) (n := 8) (t := 0) (lo := -2147483648) (hi := 2147483647) (nx := 130) (by decide +kernel) (by first | decide | exact ⟨by decide, by decide⟩) (by first | omega | exact ⟨by omega, by omega⟩) ?_
                  intro v24 ev24 lv24 uv24
                  refine zwW_p [(1, 0, 2)] (q := 131) (ls' := [(2, 37), (0, a), (0, b)]) (st' := [(2, 37), (0, v24), (0, b), (2, 68)]) (by decide +kernel) rfl ?_
                  refine zwW_gc Ih21 (kd := 13) (bn := 75) (n := 97) (c := 183) (nx := 134) (by decide +kernel) ?_
                  refine zwW_p [(1, 1, 0)] (q := 135) (ls' := [(2, 37), (0, a), (0, b)]) (st' := [(0, a), (2, 183), (0, v24), (0, b), (2, 68)]) (by decide +kernel) rfl ?_
                  refine zwW_al Ih21 (a1 := 183) (a2 := 183) (kd := 20) (n := 200) (t := 0) (lo := -2147483648) (hi := 2147483647) (nx := 136) (by decide +kernel) (by first | decide | exact ⟨by decide, by decide⟩) (by first | omega | exact ⟨by omega, by omega⟩) ?_
                  intro v25 ev25 lv25 uv25
                  refine zwW_adw (nx := 137) (by decide +kernel) ?_
                  intro v26 ev26 lv26 uv26
                  refine zwW_as Ih21 (a1 := 68) (a2 := 68) (n := 8) (lo := -2147483648) (hi := 2147483647) (nx := 138) (by decide +kernel) (by first | decide | exact ⟨by decide, by decide⟩) (by first | omega | exact ⟨by omega, by omega⟩) (by first | omega | exact ⟨by omega, by omega⟩) ?_
                  intro h27 eh27 Ih27
                  have Rh27 : zMR ms52 h h27 := Rh21.w (a1 := 68) (a2 := 68) (j1 := 0) (j2 := 8) (by decide +kernel) (by first | decide | exact ⟨by decide, by decide⟩) (by first | omega | exact ⟨by omega, by omega⟩) eh27
                  refine zwW_p [(1, 0, 2)] (q := 139) (ls' := [(2, 37), (0, a), (0, b)]) (st' := [(2, 37)]) (by decide +kernel) rfl ?_
                  refine zwW_gc Ih27 (kd := 13) (bn := 8) (n := 97) (c := 67) (nx := 142) (by decide +kernel) ?_
                  refine zwW_p [(1, 2, 0)] (q := 143) (ls' := [(2, 37), (0, a), (0, b)]) (st' := [(0, b), (2, 67)]) (by decide +kernel) rfl ?_
                  refine zwW_al Ih27 (a1 := 67) (a2 := 67) (kd := 20) (n := 8) (t := 0) (lo := -2147483648) (hi := 2147483647) (nx := 144) (by decide +kernel) (by first | decide | exact ⟨by decide, by decide⟩) (by first | omega | exact ⟨by omega, by omega⟩) ?_
                  intro v28 ev28 lv28 uv28
                  refine zwW_p [(1, 0, 2)] (q := 145) (ls' := [(2, 37), (0, a), (0, b)]) (st' := [(2, 37), (0, v28)]) (by decide +kernel) rfl ?_
                  refine zwW_gc Ih27 (kd := 13) (bn := 9) (n := 97) (c := 68) (nx := 148) (by decide +kernel) ?_
                  refine zwW_p [(1, 2, 0)] (q := 149) (ls' := [(2, 37), (0, a), (0, b)]) (st' := [(0, b), (2, 68), (0, v28)]) (by decide +kernel) rfl ?_
                  refine zwW_al Ih27 (a1 := 68) (a2 := 68) (kd := 20) (n := 8) (t := 0) (lo := -2147483648) (hi := 2147483647) (nx := 150) (by decide +kernel) (by first | decide | exact ⟨by decide, by decide⟩) (by first | omega | exact ⟨by omega, by omega⟩) ?_
                  intro v29 ev29 lv29 uv29
                  refine zwW_adw (nx := 151) (by decide +kernel) ?_
                  intro v30 ev30 lv30 uv30
                  refine zwW_ret (nx := 152) (a := 0) (b := 0) (by decide +kernel) rfl (Or.inl rfl) ?_
                  exact ⟨Ih27, Rh27, by omega⟩
                · refine zwW_p [(1, 0, 2)] (q := 91) (ls' := [(2, 37), (0, a), (0, b)]) (st' := [(2, 37)]) (by decide +kernel) rfl ?_
                  refine zwW_gc Ih21 (kd := 13) (bn := 8) (n := 97) (c := 67) (nx := 94) (by decide +kernel) ?_
                  refine zwW_p [(1, 2, 0), (14, 0, 0)] (q := 96) (ls' := [(2, 37), (0, a), (0, b)]) (st' := [(0, b), (2, 67), (0, b), (2, 67)]) (by decide +kernel) rfl ?_
                  refine zwW_al Ih21 (a1 := 67) (a2 := 67) (kd := 20) (n := 8) (t := 0) (lo := -2147483648) (hi := 2147483647) (nx := 97) (by decide +kernel) (by first | decide | exact ⟨by decide, by decide⟩) (by first | omega | exact ⟨by omega, by omega⟩) ?_
                  intro v31 ev31 lv31 uv31
                  refine zwW_p [(1, 0, 2)] (q := 98) (ls' := [(2, 37), (0, a), (0, b)]) (st' := [(2, 37), (0, v31), (0, b), (2, 67)]) (by decide +kernel) rfl ?_
                  refine zwW_gc Ih21 (kd := 13) (bn := 75) (n := 97) (c := 183) (nx := 101) (by decide +kernel) ?_
                  refine zwW_p [(1, 1, 0)] (q := 102) (ls' := [(2, 37), (0, a), (0, b)]) (st' := [(0, a), (2, 183), (0, v31), (0, b), (2, 67)]) (by decide +kernel) rfl ?_
                  refine zwW_al Ih21 (a1 := 183) (a2 := 183) (kd := 20) (n := 200) (t := 0) (lo := -2147483648) (hi := 2147483647) (nx := 103) (by decide +kernel) (by first | decide | exact ⟨by decide, by decide⟩) (by first | omega | exact ⟨by omega, by omega⟩) ?_
                  intro v32 ev32 lv32 uv32
                  refine zwW_adw (nx := 104) (by decide +kernel) ?_
                  intro v33 ev33 lv33 uv33
                  refine zwW_as Ih21 (a1 := 67) (a2 := 67) (n := 8) (lo := -2147483648) (hi := 2147483647) (nx := 105) (by decide +kernel) (by first | decide | exact ⟨by decide, by decide⟩) (by first | omega | exact ⟨by omega, by omega⟩) (by first | omega | exact ⟨by omega, by omega⟩) ?_
                  intro h34 eh34 Ih34
                  have Rh34 : zMR ms52 h h34 := Rh21.w (a1 := 67) (a2 := 67) (j1 := 0) (j2 := 8) (by decide +kernel) (by first | decide | exact ⟨by decide, by decide⟩) (by first | omega | exact ⟨by omega, by omega⟩) eh34
                  refine zwW_p [(1, 0, 2)] (q := 106) (ls' := [(2, 37), (0, a), (0, b)]) (st' := [(2, 37)]) (by decide +kernel) rfl ?_
                  refine zwW_gc Ih34 (kd := 13) (bn := 16) (n := 97) (c := 75) (nx := 109) (by decide +kernel) ?_
                  refine zwW_p [(1, 2, 0), (14, 0, 0)] (q := 111) (ls' := [(2, 37), (0, a), (0, b)]) (st' := [(0, b), (2, 75), (0, b), (2, 75)]) (by decide +kernel) rfl ?_
                  refine zwW_al Ih34 (a1 := 75) (a2 := 75) (kd := 20) (n := 8) (t := 0) (lo := -2147483648) (hi := 2147483647) (nx := 112) (by decide +kernel) (by first | decide | exact ⟨by decide, by decide⟩) (by first | omega | exact ⟨by omega, by omega⟩) ?_
                  intro v35 ev35 lv35 uv35
                  refine zwW_p [(1, 0, 2)] (q := 113) (ls' := [(2, 37), (0, a), (0, b)]) (st' := [(2, 37), (0, v35), (0, b), (2, 75)]) (by decide +kernel) rfl ?_
                  refine zwW_gc Ih34 (kd := 13) (bn := 75) (n := 97) (c := 183) (nx := 116) (by decide +kernel) ?_
                  refine zwW_p [(1, 1, 0)] (q := 117) (ls' := [(2, 37), (0, a), (0, b)]) (st' := [(0, a), (2, 183), (0, v35), (0, b), (2, 75)]) (by decide +kernel) rfl ?_
                  refine zwW_al Ih34 (a1 := 183) (a2 := 183) (kd := 20) (n := 200) (t := 0) (lo := -2147483648) (hi := 2147483647) (nx := 118) (by decide +kernel) (by first | decide | exact ⟨by decide, by decide⟩) (by first | omega | exact ⟨by omega, by omega⟩) ?_
                  intro v36 ev36 lv36 uv36
                  refine zwW_adw (nx := 119) (by decide +kernel) ?_
                  intro v37 ev37 lv37 uv37
                  refine zwW_as Ih34 (a1 := 75) (a2 := 75) (n := 8) (lo := -2147483648) (hi := 2147483647) (nx := 120) (by decide +kernel) (by first | decide | exact ⟨by decide, by decide⟩) (by first | omega | exact ⟨by omega, by omega⟩) (by first | omega | exact ⟨by omega, by omega⟩) ?_
                  intro h38 eh38 Ih38
                  have Rh38 : zMR ms52 h h38 := Rh34.w (a1 := 75) (a2 := 75) (j1 := 0) (j2 := 8) (by decide +kernel) (by first | decide | exact ⟨by decide, by decide⟩) (by first | omega | exact ⟨by omega, by omega⟩) eh38
                  refine zwW_p [(24, 138, 0), (1, 0, 2)] (q := 139) (ls' := [(2, 37), (0, a), (0, b)]) (st' := [(2, 37)]) (by decide +kernel) rfl ?_
                  refine zwW_gc Ih38 (kd := 13) (bn := 8) (n := 97) (c := 67) (nx := 142) (by decide +kernel) ?_
                  refine zwW_p [(1, 2, 0)] (q := 143) (ls' := [(2, 37), (0, a), (0, b)]) (st' := [(0, b), (2, 67)]) (by decide +kernel) rfl ?_
                  refine zwW_al Ih38 (a1 := 67) (a2 := 67) (kd := 20) (n := 8) (t := 0) (lo := -2147483648) (hi := 2147483647) (nx := 144) (by decide +kernel) (by first | decide | exact ⟨by decide, by decide⟩) (by first | omega | exact ⟨by omega, by omega⟩) ?_
                  intro v39 ev39 lv39 uv39
                  refine zwW_p [(1, 0, 2)] (q := 145) (ls' := [(2, 37), (0, a), (0, b)]) (st' := [(2, 37), (0, v39)]) (by decide +kernel) rfl ?_
                  refine zwW_gc Ih38 (kd := 13) (bn := 9) (n := 97) (c := 68) (nx := 148) (by decide +kernel) ?_
                  refine zwW_p [(1, 2, 0)] (q := 149) (ls' := [(2, 37), (0, a), (0, b)]) (st' := [(0, b), (2, 68), (0, v39)]) (by decide +kernel) rfl ?_
                  refine zwW_al Ih38 (a1 := 68) (a2 := 68) (kd := 20) (n := 8) (t := 0) (lo := -2147483648) (hi := 2147483647) (nx := 150) (by decide +kernel) (by first | decide | exact ⟨by decide, by decide⟩) (by first | omega | exact ⟨by omega, by omega⟩) ?_
                  intro v40 ev40 lv40 uv40
                  refine zwW_adw (nx := 151) (by decide +kernel) ?_
                  intro v41 ev41 lv41 uv41
                  refine zwW_ret (nx := 152) (a := 0) (b := 0) (by decide +kernel) rfl (Or.inl rfl) ?_
                  exact ⟨Ih38, Rh38, by omega⟩
              · refine zwW_p [(0, -1, 0)] (q := 73) (ls' := [(2, 37), (0, a), (0, b)]) (st' := [(0, -1)]) (by decide +kernel) rfl ?_
                refine zwW_ret (nx := 74) (a := 0) (b := 0) (by decide +kernel) rfl (Or.inl rfl) ?_
                exact ⟨Ih13, Rh13, by omega⟩
      · refine zwif_eq (q := 72) (nx := 16) (by decide +kernel) (fun c42 => ?_) (fun c42 => ?_)
        · refine zwW_p [(0, -1, 0)] (q := 73) (ls' := [(2, 37), (0, a), (0, b)]) (st' := [(0, -1)]) (by decide +kernel) rfl ?_
          refine zwW_ret (nx := 74) (a := 0) (b := 0) (by decide +kernel) rfl (Or.inl rfl) ?_
          exact ⟨I, R, by omega⟩
        · exfalso; omega
  · refine zwif_eq (q := 72) (nx := 8) (by decide +kernel) (fun c43 => ?_) (fun c43 => ?_)
    · refine zwW_p [(0, -1, 0)] (q := 73) (ls' := [(2, 37), (0, a), (0, b)]) (st' := [(0, -1)]) (by decide +kernel) rfl ?_
      refine zwW_ret (nx := 74) (a := 0) (b := 0) (by decide +kernel) rfl (Or.inl rfl) ?_
      exact ⟨I, R, by omega⟩
    · exfalso; omega
def ms54 : Zms := [(69, 69, 0, 8)]
-- WheelLandModel.mill(II)I
theorem m54 {sc : List Int} (h : Hp) (I : zI h) (a b : Int) : zwC sc 3 54 [(2, 37), (0, a), (0, b)] h (zwRt 0 (fun x g => zI g ∧ zMR ms54 h g ∧ (-2147483648 ≤ x ∧ x ≤ 2147483647))) := by
  refine zwC_of (D := 2) 3 (by decide +kernel) rfl (ls := [(2, 37), (0, a), (0, b)]) rfl ?_
  have R : zMR ms54 h h := zMR.rf _ _
  refine zwW_p [(1, 0, 2), (1, 1, 0)] (q := 2) (ls' := [(2, 37), (0, a), (0, b)]) (st' := [(0, a), (2, 37)]) (by decide +kernel) rfl ?_
  refine zwW_cm I (op := 60) (k' := 104) (n := 1) (kd := 13) (m := 97) (nx := 5) (r := 37) (tl := [(0, a)]) (st' := []) (by decide +kernel) rfl (by decide +kernel) rfl (m104 h I a) ?_
  rintro x _ ⟨rfl, ⟨rfl, c1⟩ | ⟨rfl, c1⟩⟩
  · refine zwif_eq (q := 34) (nx := 8) (by decide +kernel) (fun c2 => ?_) (fun c2 => ?_)
    · exfalso; omega
    · refine zwW_p [(1, 2, 0), (7, 0, 0), (0, 1, 1), (0, 999, 1)] (q := 14) (ls' := [(2, 37), (0, a), (0, b)]) (st' := [(1, 999), (1, 1), (1, b)]) (by decide +kernel) rfl ?_
      refine zwW_cs (k' := 101) (n := 3) (nx := 17) (as := [(1, b), (1, 1), (1, 999)]) (st' := []) (by decide +kernel) rfl (m101 h b 1 999) rfl ?_
      rintro x _ ⟨rfl, ⟨rfl, c3⟩ | ⟨rfl, c3⟩⟩
      · refine zwif_eq (q := 34) (nx := 20) (by decide +kernel) (fun c4 => ?_) (fun c4 => ?_)
        · exfalso; omega
        · refine zwW_p [(1, 0, 2)] (q := 21) (ls' := [(2, 37), (0, a), (0, b)]) (st' := [(2, 37)]) (by decide +kernel) rfl ?_
          refine zwW_gc I (kd := 13) (bn := 10) (n := 97) (c := 69) (nx := 24) (by decide +kernel) ?_
          refine zwW_p [(1, 1, 0)] (q := 25) (ls' := [(2, 37), (0, a), (0, b)]) (st' := [(0, a), (2, 69)]) (by decide +kernel) rfl ?_
          refine zwW_al I (a1 := 69) (a2 := 69) (kd := 20) (n := 8) (t := 0) (lo := -2147483648) (hi := 2147483647) (nx := 26) (by decide +kernel) (by first | decide | exact ⟨by decide, by decide⟩) (by first | omega | exact ⟨by omega, by omega⟩) ?_
          intro v5 ev5 lv5 uv5
          refine zwW_p [(1, 2, 0)] (q := 27) (ls' := [(2, 37), (0, a), (0, b)]) (st' := [(0, b), (0, v5)]) (by decide +kernel) rfl ?_
          refine zwW_adw (nx := 28) (by decide +kernel) ?_
          intro v6 ev6 lv6 uv6
          refine zwW_p [(0, 9999, 0)] (q := 31) (ls' := [(2, 37), (0, a), (0, b)]) (st' := [(0, 9999), (0, v6)]) (by decide +kernel) rfl ?_
          refine zwic_le (q := 36) (nx := 34) (by decide +kernel) (fun c7 => ?_) (fun c7 => ?_)
          · refine zwW_p [(1, 0, 2)] (q := 37) (ls' := [(2, 37), (0, a), (0, b)]) (st' := [(2, 37)]) (by decide +kernel) rfl ?_
            refine zwW_gc I (kd := 13) (bn := 10) (n := 97) (c := 69) (nx := 40) (by decide +kernel) ?_
            refine zwW_p [(1, 1, 0), (14, 0, 0)] (q := 42) (ls' := [(2, 37), (0, a), (0, b)]) (st' := [(0, a), (2, 69), (0, a), (2, 69)]) (by decide +kernel) rfl ?_
            refine zwW_al I (a1 := 69) (a2 := 69) (kd := 20) (n := 8) (t := 0) (lo := -2147483648) (hi := 2147483647) (nx := 43) (by decide +kernel) (by first | decide | exact ⟨by decide, by decide⟩) (by first | omega | exact ⟨by omega, by omega⟩) ?_
            intro v8 ev8 lv8 uv8
            refine zwW_p [(1, 2, 0)] (q := 44) (ls' := [(2, 37), (0, a), (0, b)]) (st' := [(0, b), (0, v8), (0, a), (2, 69)]) (by decide +kernel) rfl ?_
            refine zwW_adw (nx := 45) (by decide +kernel) ?_
            intro v9 ev9 lv9 uv9
            refine zwW_as I (a1 := 69) (a2 := 69) (n := 8) (lo := -2147483648) (hi := 2147483647) (nx := 46) (by decide +kernel) (by first | decide | exact ⟨by decide, by decide⟩) (by first | omega | exact ⟨by omega, by omega⟩) (by first | omega | exact ⟨by omega, by omega⟩) ?_
            intro h10 eh10 Ih10
            have Rh10 : zMR ms54 h h10 := R.w (a1 := 69) (a2 := 69) (j1 := 0) (j2 := 8) (by decide +kernel) (by first | decide | exact ⟨by decide, by decide⟩) (by first | omega | exact ⟨by omega, by omega⟩) eh10
            refine zwW_p [(1, 0, 2)] (q := 47) (ls' := [(2, 37), (0, a), (0, b)]) (st' := [(2, 37)]) (by decide +kernel) rfl ?_
            refine zwW_gc Ih10 (kd := 13) (bn := 10) (n := 97) (c := 69) (nx := 50) (by decide +kernel) ?_
            refine zwW_p [(1, 1, 0)] (q := 51) (ls' := [(2, 37), (0, a), (0, b)]) (st' := [(0, a), (2, 69)]) (by decide +kernel) rfl ?_
            refine zwW_al Ih10 (a1 := 69) (a2 := 69) (kd := 20) (n := 8) (t := 0) (lo := -2147483648) (hi := 2147483647) (nx := 52) (by decide +kernel) (by first | decide | exact ⟨by decide, by decide⟩) (by first | omega | exact ⟨by omega, by omega⟩) ?_
            intro v11 ev11 lv11 uv11
            refine zwW_ret (nx := 53) (a := 0) (b := 0) (by decide +kernel) rfl (Or.inl rfl) ?_
            exact ⟨Ih10, Rh10, by omega⟩
          · refine zwW_p [(0, -1, 0)] (q := 35) (ls' := [(2, 37), (0, a), (0, b)]) (st' := [(0, -1)]) (by decide +kernel) rfl ?_
            refine zwW_ret (nx := 36) (a := 0) (b := 0) (by decide +kernel) rfl (Or.inl rfl) ?_
            exact ⟨I, R, by omega⟩
      · refine zwif_eq (q := 34) (nx := 20) (by decide +kernel) (fun c12 => ?_) (fun c12 => ?_)
        · refine zwW_p [(0, -1, 0)] (q := 35) (ls' := [(2, 37), (0, a), (0, b)]) (st' := [(0, -1)]) (by decide +kernel) rfl ?_
          refine zwW_ret (nx := 36) (a := 0) (b := 0) (by decide +kernel) rfl (Or.inl rfl) ?_
          exact ⟨I, R, by omega⟩
        · exfalso; omega
  · refine zwif_eq (q := 34) (nx := 8) (by decide +kernel) (fun c13 => ?_) (fun c13 => ?_)
    · refine zwW_p [(0, -1, 0)] (q := 35) (ls' := [(2, 37), (0, a), (0, b)]) (st' := [(0, -1)]) (by decide +kernel) rfl ?_
      refine zwW_ret (nx := 36) (a := 0) (b := 0) (by decide +kernel) rfl (Or.inl rfl) ?_
      exact ⟨I, R, by omega⟩
    · exfalso; omega
def ms56 : Zms := [(70, 70, 0, 8), (71, 71, 0, 8)]
-- WheelLandModel.price(II)Z
theorem m56 {sc : List Int} (h : Hp) (I : zI h) (a b : Int) (q_b : -2147483648 ≤ b ∧ b ≤ 2147483647) : zwC sc 3 56 [(2, 37), (0, a), (0, b)] h (zwRt 0 (fun x g => zI g ∧ zMR ms56 h g ∧ (-2147483648 ≤ x ∧ x ≤ 2147483647) ∧ ((x = 1 ∧ 0 ≤ a ∧ a < fld h 37 1 ∧ 0 ≤ b ∧ 1 ≤ b / 100 ∧ b / 100 ≤ 99 ∧ 1 ≤ b % 100) ∨ (x = 0 ∧ (a < 0 ∨ fld h 37 1 ≤ a ∨ b < 0 ∨ b / 100 < 1 ∨ 99 < b / 100 ∨ b % 100 < 1))))) := by
  refine zwC_of (D := 2) 3 (by decide +kernel) rfl (ls := [(2, 37), (0, a), (0, b)]) rfl ?_
  have R : zMR ms56 h h := zMR.rf _ _
  refine zwW_p [(1, 0, 2), (1, 1, 0)] (q := 2) (ls' := [(2, 37), (0, a), (0, b)]) (st' := [(0, a), (2, 37)]) (by decide +kernel) rfl ?_
  refine zwW_cm I (op := 60) (k' := 104) (n := 1) (kd := 13) (m := 97) (nx := 5) (r := 37) (tl := [(0, a)]) (st' := []) (by decide +kernel) rfl (by decide +kernel) rfl (m104 h I a) ?_
  rintro x _ ⟨rfl, ⟨rfl, c1⟩ | ⟨rfl, c1⟩⟩
  · refine zwif_eq (q := 34) (nx := 8) (by decide +kernel) (fun c2 => ?_) (fun c2 => ?_)
    · exfalso; omega
    · refine zwW_p [(1, 2, 0)] (q := 9) (ls' := [(2, 37), (0, a), (0, b)]) (st' := [(0, b)]) (by decide +kernel) rfl ?_
      refine zwif_lt (q := 34) (nx := 12) (by decide +kernel) (fun c3 => ?_) (fun c3 => ?_)
      · refine zwW_p [(0, 0, 0)] (q := 35) (ls' := [(2, 37), (0, a), (0, b)]) (st' := [(0, 0)]) (by decide +kernel) rfl ?_
        refine zwW_ret (nx := 36) (a := 1) (b := 0) (by decide +kernel) rfl (Or.inr (Or.inl ⟨rfl, Or.inl rfl⟩)) ?_
        exact ⟨I, R, by omega, by omega⟩
      · refine zwW_p [(1, 2, 0), (0, 100, 0)] (q := 15) (ls' := [(2, 37), (0, a), (0, b)]) (st' := [(0, 100), (0, b)]) (by decide +kernel) rfl ?_
        refine zwW_div (nx := 16) (by decide +kernel) (by omega) (by omega) (by omega) ?_
        refine zwW_p [(7, 0, 0), (0, 1, 1), (0, 99, 1)] (q := 21) (ls' := [(2, 37), (0, a), (0, b)]) (st' := [(1, 99), (1, 1), (1, (b / 100))]) (by decide +kernel) rfl ?_
        refine zwW_cs (k' := 101) (n := 3) (nx := 24) (as := [(1, (b / 100)), (1, 1), (1, 99)]) (st' := []) (by decide +kernel) rfl (m101 h (b / 100) 1 99) rfl ?_
        rintro x _ ⟨rfl, ⟨rfl, c4⟩ | ⟨rfl, c4⟩⟩
        · refine zwif_eq (q := 34) (nx := 27) (by decide +kernel) (fun c5 => ?_) (fun c5 => ?_)
          · exfalso; omega
          · refine zwW_p [(1, 2, 0), (0, 100, 0)] (q := 30) (ls' := [(2, 37), (0, a), (0, b)]) (st' := [(0, 100), (0, b)]) (by decide +kernel) rfl ?_
            refine zwW_rem (nx := 31) (by decide +kernel) (by omega) (by omega) ?_
            refine zwif_ne (q := 36) (nx := 34) (by decide +kernel) (fun c6 => ?_) (fun c6 => ?_)
            · refine zwW_p [(1, 0, 2)] (q := 37) (ls' := [(2, 37), (0, a), (0, b)]) (st' := [(2, 37)]) (by decide +kernel) rfl ?_
              refine zwW_gc I (kd := 13) (bn := 11) (n := 97) (c := 70) (nx := 40) (by decide +kernel) ?_
              refine zwW_p [(1, 1, 0), (1, 2, 0), (0, 100, 0)] (q := 44) (ls' := [(2, 37), (0, a), (0, b)]) (st' := [(0, 100), (0, b), (0, a), (2, 70)]) (by decide +kernel) rfl ?_
              refine zwW_div (nx := 45) (by decide +kernel) (by omega) (by omega) (by omega) ?_
              refine zwW_as I (a1 := 70) (a2 := 70) (n := 8) (lo := -2147483648) (hi := 2147483647) (nx := 46) (by decide +kernel) (by first | decide | exact ⟨by decide, by decide⟩) (by first | omega | exact ⟨by omega, by omega⟩) (by first | omega | exact ⟨by omega, by omega⟩) ?_
              intro h7 eh7 Ih7
              have Rh7 : zMR ms56 h h7 := R.w (a1 := 70) (a2 := 70) (j1 := 0) (j2 := 8) (by decide +kernel) (by first | decide | exact ⟨by decide, by decide⟩) (by first | omega | exact ⟨by omega, by omega⟩) eh7
              refine zwW_p [(1, 0, 2)] (q := 47) (ls' := [(2, 37), (0, a), (0, b)]) (st' := [(2, 37)]) (by decide +kernel) rfl ?_
              refine zwW_gc Ih7 (kd := 13) (bn := 12) (n := 97) (c := 71) (nx := 50) (by decide +kernel) ?_
              refine zwW_p [(1, 1, 0), (1, 2, 0), (0, 100, 0)] (q := 54) (ls' := [(2, 37), (0, a), (0, b)]) (st' := [(0, 100), (0, b), (0, a), (2, 71)]) (by decide +kernel) rfl ?_
              refine zwW_rem (nx := 55) (by decide +kernel) (by omega) (by omega) ?_
              refine zwW_as Ih7 (a1 := 71) (a2 := 71) (n := 8) (lo := -2147483648) (hi := 2147483647) (nx := 56) (by decide +kernel) (by first | decide | exact ⟨by decide, by decide⟩) (by first | omega | exact ⟨by omega, by omega⟩) (by first | omega | exact ⟨by omega, by omega⟩) ?_
              intro h8 eh8 Ih8
              have Rh8 : zMR ms56 h h8 := Rh7.w (a1 := 71) (a2 := 71) (j1 := 0) (j2 := 8) (by decide +kernel) (by first | decide | exact ⟨by decide, by decide⟩) (by first | omega | exact ⟨by omega, by omega⟩) eh8
              refine zwW_p [(0, 1, 0)] (q := 57) (ls' := [(2, 37), (0, a), (0, b)]) (st' := [(0, 1)]) (by decide +kernel) rfl ?_
              refine zwW_ret (nx := 58) (a := 1) (b := 0) (by decide +kernel) rfl (Or.inr (Or.inl ⟨rfl, Or.inr rfl⟩)) ?_
              exact ⟨Ih8, Rh8, by omega, by omega⟩
            · refine zwW_p [(0, 0, 0)] (q := 35) (ls' := [(2, 37), (0, a), (0, b)]) (st' := [(0, 0)]) (by decide +kernel) rfl ?_
              refine zwW_ret (nx := 36) (a := 1) (b := 0) (by decide +kernel) rfl (Or.inr (Or.inl ⟨rfl, Or.inl rfl⟩)) ?_
              exact ⟨I, R, by omega, by omega⟩
        · refine zwif_eq (q := 34) (nx := 27) (by decide +kernel) (fun c9 => ?_) (fun c9 => ?_)
          · refine zwW_p [(0, 0, 0)] (q := 35) (ls' := [(2, 37), (0, a), (0, b)]) (st' := [(0, 0)]) (by decide +kernel) rfl ?_
            refine zwW_ret (nx := 36) (a := 1) (b := 0) (by decide +kernel) rfl (Or.inr (Or.inl ⟨rfl, Or.inl rfl⟩)) ?_
            exact ⟨I, R, by omega, by omega⟩
          · exfalso; omega
  · refine zwif_eq (q := 34) (nx := 8) (by decide +kernel) (fun c10 => ?_) (fun c10 => ?_)
    · refine zwW_p [(0, 0, 0)] (q := 35) (ls' := [(2, 37), (0, a), (0, b)]) (st' := [(0, 0)]) (by decide +kernel) rfl ?_
      refine zwW_ret (nx := 36) (a := 1) (b := 0) (by decide +kernel) rfl (Or.inr (Or.inl ⟨rfl, Or.inl rfl⟩)) ?_
      exact ⟨I, R, by omega, by omega⟩
    · exfalso; omega
def ms58 : Zms := [(72, 72, 0, 8)]
-- WheelLandModel.talk(II)I
theorem m58 {sc : List Int} (h : Hp) (I : zI h) (a b : Int) : zwC sc 3 58 [(2, 37), (0, a), (0, b)] h (zwRt 0 (fun x g => zI g ∧ zMR ms58 h g ∧ (-2147483648 ≤ x ∧ x ≤ 2147483647) ∧ ((x = b ∧ 0 ≤ a ∧ a < fld h 37 1 ∧ 0 ≤ b ∧ b ≤ 20) ∨ (x = -1 ∧ (a < 0 ∨ fld h 37 1 ≤ a ∨ b < 0 ∨ 20 < b))))) := by
  refine zwC_of (D := 2) 3 (by decide +kernel) rfl (ls := [(2, 37), (0, a), (0, b)]) rfl ?_
  have R : zMR ms58 h h := zMR.rf _ _
  refine zwW_p [(1, 0, 2), (1, 1, 0)] (q := 2) (ls' := [(2, 37), (0, a), (0, b)]) (st' := [(0, a), (2, 37)]) (by decide +kernel) rfl ?_
  refine zwW_cm I (op := 60) (k' := 104) (n := 1) (kd := 13) (m := 97) (nx := 5) (r := 37) (tl := [(0, a)]) (st' := []) (by decide +kernel) rfl (by decide +kernel) rfl (m104 h I a) ?_
  rintro x _ ⟨rfl, ⟨rfl, c1⟩ | ⟨rfl, c1⟩⟩
  · refine zwif_eq (q := 20) (nx := 8) (by decide +kernel) (fun c2 => ?_) (fun c2 => ?_)
    · exfalso; omega
    · refine zwW_p [(1, 2, 0), (7, 0, 0), (0, 0, 1), (0, 20, 1)] (q := 14) (ls' := [(2, 37), (0, a), (0, b)]) (st' := [(1, 20), (1, 0), (1, b)]) (by decide +kernel) rfl ?_
      refine zwW_cs (k' := 101) (n := 3) (nx := 17) (as := [(1, b), (1, 0), (1, 20)]) (st' := []) (by decide +kernel) rfl (m101 h b 0 20) rfl ?_
      rintro x _ ⟨rfl, ⟨rfl, c3⟩ | ⟨rfl, c3⟩⟩
      · refine zwif_ne (q := 22) (nx := 20) (by decide +kernel) (fun c4 => ?_) (fun c4 => ?_)
        · refine zwW_p [(1, 0, 2)] (q := 23) (ls' := [(2, 37), (0, a), (0, b)]) (st' := [(2, 37)]) (by decide +kernel) rfl ?_
          refine zwW_gc I (kd := 13) (bn := 13) (n := 97) (c := 72) (nx := 26) (by decide +kernel) ?_
          refine zwW_p [(1, 1, 0), (1, 2, 0)] (q := 28) (ls' := [(2, 37), (0, a), (0, b)]) (st' := [(0, b), (0, a), (2, 72)]) (by decide +kernel) rfl ?_
          refine zwW_as I (a1 := 72) (a2 := 72) (n := 8) (lo := -2147483648) (hi := 2147483647) (nx := 29) (by decide +kernel) (by first | decide | exact ⟨by decide, by decide⟩) (by first | omega | exact ⟨by omega, by omega⟩) (by first | omega | exact ⟨by omega, by omega⟩) ?_
          intro h5 eh5 Ih5
          have Rh5 : zMR ms58 h h5 := R.w (a1 := 72) (a2 := 72) (j1 := 0) (j2 := 8) (by decide +kernel) (by first | decide | exact ⟨by decide, by decide⟩) (by first | omega | exact ⟨by omega, by omega⟩) eh5
          refine zwW_p [(1, 2, 0)] (q := 30) (ls' := [(2, 37), (0, a), (0, b)]) (st' := [(0, b)]) (by decide +kernel) rfl ?_
          refine zwW_ret (nx := 31) (a := 0) (b := 0) (by decide +kernel) rfl (Or.inl rfl) ?_
          exact ⟨Ih5, Rh5, by omega, by omega⟩
        · exfalso; omega
      · refine zwif_ne (q := 22) (nx := 20) (by decide +kernel) (fun c6 => ?_) (fun c6 => ?_)
        · exfalso; omega
        · refine zwW_p [(0, -1, 0)] (q := 21) (ls' := [(2, 37), (0, a), (0, b)]) (st' := [(0, -1)]) (by decide +kernel) rfl ?_
          refine zwW_ret (nx := 22) (a := 0) (b := 0) (by decide +kernel) rfl (Or.inl rfl) ?_
          exact ⟨I, R, by omega, by omega⟩
  · refine zwif_eq (q := 20) (nx := 8) (by decide +kernel) (fun c7 => ?_) (fun c7 => ?_)
    · refine zwW_p [(0, -1, 0)] (q := 21) (ls' := [(2, 37), (0, a), (0, b)]) (st' := [(0, -1)]) (by decide +kernel) rfl ?_
      refine zwW_ret (nx := 22) (a := 0) (b := 0) (by decide +kernel) rfl (Or.inl rfl) ?_
      exact ⟨I, R, by omega, by omega⟩
    · exfalso; omega
def ms60 : Zms := [(97, 97, 0, 8)]
-- WheelLandModel.heard(II)I
theorem m60 {sc : List Int} (h : Hp) (I : zI h) (a b : Int) : zwC sc 3 60 [(2, 37), (0, a), (0, b)] h (zwRt 0 (fun x g => zI g ∧ zMR ms60 h g ∧ (-2147483648 ≤ x ∧ x ≤ 2147483647))) := by
  refine zwC_of (D := 2) 4 (by decide +kernel) rfl (ls := [(2, 37), (0, a), (0, b), (9, 0)]) rfl ?_
  have R : zMR ms60 h h := zMR.rf _ _
  refine zwW_p [(1, 0, 2), (1, 1, 0)] (q := 2) (ls' := [(2, 37), (0, a), (0, b), (9, 0)]) (st' := [(0, a), (2, 37)]) (by decide +kernel) rfl ?_
  refine zwW_cm I (op := 60) (k' := 104) (n := 1) (kd := 13) (m := 97) (nx := 5) (r := 37) (tl := [(0, a)]) (st' := []) (by decide +kernel) rfl (by decide +kernel) rfl (m104 h I a) ?_
  rintro x _ ⟨rfl, ⟨rfl, c1⟩ | ⟨rfl, c1⟩⟩
  · refine zwif_eq (q := 36) (nx := 8) (by decide +kernel) (fun c2 => ?_) (fun c2 => ?_)
    · exfalso; omega
    · refine zwW_p [(1, 0, 2), (1, 2, 0)] (q := 10) (ls' := [(2, 37), (0, a), (0, b), (9, 0)]) (st' := [(0, b), (2, 37)]) (by decide +kernel) rfl ?_
      refine zwW_cm I (op := 60) (k' := 104) (n := 1) (kd := 13) (m := 97) (nx := 13) (r := 37) (tl := [(0, b)]) (st' := []) (by decide +kernel) rfl (by decide +kernel) rfl (m104 h I b) ?_
      rintro x _ ⟨rfl, ⟨rfl, c3⟩ | ⟨rfl, c3⟩⟩
      · refine zwif_eq (q := 36) (nx := 16) (by decide +kernel) (fun c4 => ?_) (fun c4 => ?_)
        · exfalso; omega
        · refine zwW_p [(1, 0, 2)] (q := 17) (ls' := [(2, 37), (0, a), (0, b), (9, 0)]) (st' := [(2, 37)]) (by decide +kernel) rfl ?_
          refine zwW_gs I (kd := 13) (bn := 0) (n := 97) (t := 0) (lo := 0) (hi := 156) (nx := 20) (by decide +kernel) ?_
          intro v5 ev5 lv5 uv5
          refine zwW_p [(0, 156, 0)] (q := 23) (ls' := [(2, 37), (0, a), (0, b), (9, 0)]) (st' := [(0, 156), (0, v5)]) (by decide +kernel) rfl ?_
          refine zwic_eq (q := 36) (nx := 26) (by decide +kernel) (fun c6 => ?_) (fun c6 => ?_)
          · refine zwW_p [(0, -1, 0)] (q := 37) (ls' := [(2, 37), (0, a), (0, b), (9, 0)]) (st' := [(0, -1)]) (by decide +kernel) rfl ?_
            refine zwW_ret (nx := 38) (a := 0) (b := 0) (by decide +kernel) rfl (Or.inl rfl) ?_
            exact ⟨I, R, by omega⟩
          · refine zwW_p [(1, 0, 2), (1, 1, 0), (1, 2, 0)] (q := 29) (ls' := [(2, 37), (0, a), (0, b), (9, 0)]) (st' := [(0, b), (0, a), (2, 37)]) (by decide +kernel) rfl ?_
            refine zwW_cm I (op := 60) (k' := 106) (n := 2) (kd := 13) (m := 97) (nx := 32) (r := 37) (tl := [(0, a), (0, b)]) (st' := []) (by decide +kernel) rfl (by decide +kernel) rfl (m106 h I a b (by omega) (by omega)) ?_
            rintro v7 h11 ⟨Ih11, Qh11, f8, f9, f10⟩
            have Rh11 : zMR ms60 h h11 := R.tr Qh11 (by decide +kernel)
            refine zwW_p [(0, -1, 0)] (q := 33) (ls' := [(2, 37), (0, a), (0, b), (9, 0)]) (st' := [(0, -1), (0, v7)]) (by decide +kernel) rfl ?_
            refine zwic_ne (q := 38) (nx := 36) (by decide +kernel) (fun c12 => ?_) (fun c12 => ?_)
            · refine zwW_p [(1, 0, 2)] (q := 39) (ls' := [(2, 37), (0, a), (0, b), (9, 0)]) (st' := [(2, 37)]) (by decide +kernel) rfl ?_
              refine zwW_gs Ih11 (kd := 13) (bn := 0) (n := 97) (t := 0) (lo := 0) (hi := 156) (nx := 42) (by decide +kernel) ?_
              intro v13 ev13 lv13 uv13
              refine zwW_p [(1, 0, 2), (1, 1, 0), (1, 2, 0)] (q := 45) (ls' := [(2, 37), (0, a), (0, b), (9, 0)]) (st' := [(0, b), (0, a), (2, 37), (0, v13)]) (by decide +kernel) rfl ?_
              refine zwW_cm Ih11 (op := 60) (k' := 106) (n := 2) (kd := 13) (m := 97) (nx := 48) (r := 37) (tl := [(0, a), (0, b)]) (st' := [(0, v13)]) (by decide +kernel) rfl (by decide +kernel) rfl (m106 h11 Ih11 a b (by omega) (by omega)) ?_
              rintro v14 h18 ⟨Ih18, Qh18, f15, f16, f17⟩
              have Rh18 : zMR ms60 h h18 := Rh11.tr Qh18 (by decide +kernel)
              refine zwW_p [(0, 6, 0)] (q := 50) (ls' := [(2, 37), (0, a), (0, b), (9, 0)]) (st' := [(0, 6), (0, v14), (0, v13)]) (by decide +kernel) rfl ?_
              refine zwW_add (nx := 51) (by decide +kernel) (by first | omega | exact ⟨by omega, by omega⟩) ?_
              refine zwW_p [(0, 7, 0)] (q := 53) (ls' := [(2, 37), (0, a), (0, b), (9, 0)]) (st' := [(0, 7), (0, (v14 + 6)), (0, v13)]) (by decide +kernel) rfl ?_
              refine zwW_div (nx := 54) (by decide +kernel) (by omega) (by omega) (by omega) ?_
              refine zwW_sub (nx := 55) (by decide +kernel) (by first | omega | exact ⟨by omega, by omega⟩) ?_
              refine zwW_p [(2, 3, 0), (1, 0, 2)] (q := 57) (ls' := [(2, 37), (0, a), (0, b), (0, (v13 - ((v14 + 6) / 7)))]) (st' := [(2, 37)]) (by decide +kernel) rfl ?_
              refine zwW_gc Ih18 (kd := 13) (bn := 5) (n := 97) (c := 56) (nx := 60) (by decide +kernel) ?_
              refine zwW_p [(1, 2, 0)] (q := 61) (ls' := [(2, 37), (0, a), (0, b), (0, (v13 - ((v14 + 6) / 7)))]) (st' := [(0, b), (2, 56)]) (by decide +kernel) rfl ?_
              refine zwW_ro Ih18 (a := 56) (n := 8) (kd := 26) (base := 57) (step := 1) (nx := 62) (by decide +kernel) rfl (by first | omega | exact ⟨by omega, by omega⟩) ?_
              rw [show ((57 : Nat) : Int) + ((1 : Nat) : Int) * b = (57 + b) by omega]
              refine zwW_p [(1, 3, 0)] (q := 63) (ls' := [(2, 37), (0, a), (0, b), (0, (v13 - ((v14 + 6) / 7)))]) (st' := [(0, (v13 - ((v14 + 6) / 7))), (2, (57 + b))]) (by decide +kernel) rfl ?_
              refine zwif_ge (q := 70) (nx := 66) (by decide +kernel) (fun c19 => ?_) (fun c19 => ?_)
              · refine zwW_p [(1, 3, 0)] (q := 71) (ls' := [(2, 37), (0, a), (0, b), (0, (v13 - ((v14 + 6) / 7)))]) (st' := [(0, (v13 - ((v14 + 6) / 7))), (2, (57 + b))]) (by decide +kernel) rfl ?_
                refine zwW_al Ih18 (a1 := 57) (a2 := 64) (kd := 20) (n := 157) (t := 0) (lo := -2147483648) (hi := 2147483647) (nx := 72) (by decide +kernel) (by first | omega | exact ⟨by omega, by omega⟩) (by first | omega | exact ⟨by omega, by omega⟩) ?_
                intro v20 ev20 lv20 uv20
                refine zwW_ret (nx := 73) (a := 0) (b := 0) (by decide +kernel) rfl (Or.inl rfl) ?_
                exact ⟨Ih18, Rh18, by omega⟩
              · refine zwW_p [(0, 0, 0), (24, 71, 0)] (q := 71) (ls' := [(2, 37), (0, a), (0, b), (0, (v13 - ((v14 + 6) / 7)))]) (st' := [(0, 0), (2, (57 + b))]) (by decide +kernel) rfl ?_
                refine zwW_al Ih18 (a1 := 57) (a2 := 64) (kd := 20) (n := 157) (t := 0) (lo := -2147483648) (hi := 2147483647) (nx := 72) (by decide +kernel) (by first | omega | exact ⟨by omega, by omega⟩) (by first | decide | exact ⟨by decide, by decide⟩) ?_
                intro v21 ev21 lv21 uv21
                refine zwW_ret (nx := 73) (a := 0) (b := 0) (by decide +kernel) rfl (Or.inl rfl) ?_
                exact ⟨Ih18, Rh18, by omega⟩
            · refine zwW_p [(0, -1, 0)] (q := 37) (ls' := [(2, 37), (0, a), (0, b), (9, 0)]) (st' := [(0, -1)]) (by decide +kernel) rfl ?_
              refine zwW_ret (nx := 38) (a := 0) (b := 0) (by decide +kernel) rfl (Or.inl rfl) ?_
              exact ⟨Ih11, Rh11, by omega⟩
      · refine zwif_eq (q := 36) (nx := 16) (by decide +kernel) (fun c22 => ?_) (fun c22 => ?_)
        · refine zwW_p [(0, -1, 0)] (q := 37) (ls' := [(2, 37), (0, a), (0, b), (9, 0)]) (st' := [(0, -1)]) (by decide +kernel) rfl ?_
          refine zwW_ret (nx := 38) (a := 0) (b := 0) (by decide +kernel) rfl (Or.inl rfl) ?_
          exact ⟨I, R, by omega⟩
        · exfalso; omega
  · refine zwif_eq (q := 36) (nx := 8) (by decide +kernel) (fun c23 => ?_) (fun c23 => ?_)
    · refine zwW_p [(0, -1, 0)] (q := 37) (ls' := [(2, 37), (0, a), (0, b), (9, 0)]) (st' := [(0, -1)]) (by decide +kernel) rfl ?_
      refine zwW_ret (nx := 38) (a := 0) (b := 0) (by decide +kernel) rfl (Or.inl rfl) ?_
      exact ⟨I, R, by omega⟩
    · exfalso; omega
def ms64 : Zms := [(74, 74, 0, 8)]
-- WheelLandModel.sold(II)I
theorem m64 {sc : List Int} (h : Hp) (I : zI h) (a b : Int) : zwC sc 3 64 [(2, 37), (0, a), (0, b)] h (zwRt 0 (fun x g => zI g ∧ zMR ms64 h g ∧ (-2147483648 ≤ x ∧ x ≤ 2147483647) ∧ (((x = fld h 74 a.toNat + b) ∧ (0 ≤ a ∧ a < fld h 37 1 ∧ 1 ≤ b ∧ b ≤ 999 ∧ fld h 74 a.toNat + b ≤ 9999) ∧ (∀ j : Nat, fld g 74 j = if j = a.toNat then fld h 74 a.toNat + b else fld h 74 j)) ∨ ((x = -1) ∧ (g = h) ∧ (a < 0 ∨ fld h 37 1 ≤ a ∨ b < 1 ∨ 999 < b ∨ 9999 < fld h 74 a.toNat + b))))) := by
  refine zwC_of (D := 2) 3 (by decide +kernel) rfl (ls := [(2, 37), (0, a), (0, b)]) rfl ?_
  have R : zMR ms64 h h := zMR.rf _ _
  refine zwW_p [(1, 0, 2), (1, 1, 0)] (q := 2) (ls' := [(2, 37), (0, a), (0, b)]) (st' := [(0, a), (2, 37)]) (by decide +kernel) rfl ?_
  refine zwW_cm I (op := 60) (k' := 104) (n := 1) (kd := 13) (m := 97) (nx := 5) (r := 37) (tl := [(0, a)]) (st' := []) (by decide +kernel) rfl (by decide +kernel) rfl (m104 h I a) ?_
  rintro x _ ⟨rfl, ⟨rfl, c1⟩ | ⟨rfl, c1⟩⟩
  · refine zwif_eq (q := 34) (nx := 8) (by decide +kernel) (fun c2 => ?_) (fun c2 => ?_)
    · exfalso; omega
    · refine zwW_p [(1, 2, 0), (7, 0, 0), (0, 1, 1), (0, 999, 1)] (q := 14) (ls' := [(2, 37), (0, a), (0, b)]) (st' := [(1, 999), (1, 1), (1, b)]) (by decide +kernel) rfl ?_
      refine zwW_cs (k' := 101) (n := 3) (nx := 17) (as := [(1, b), (1, 1), (1, 999)]) (st' := []) (by decide +kernel) rfl (m101 h b 1 999) rfl ?_
      rintro x _ ⟨rfl, ⟨rfl, c3⟩ | ⟨rfl, c3⟩⟩
      · refine zwif_eq (q := 34) (nx := 20) (by decide +kernel) (fun c4 => ?_) (fun c4 => ?_)
        · exfalso; omega
        · refine zwW_p [(1, 0, 2)] (q := 21) (ls' := [(2, 37), (0, a), (0, b)]) (st' := [(2, 37)]) (by decide +kernel) rfl ?_
          refine zwW_gc I (kd := 13) (bn := 15) (n := 97) (c := 74) (nx := 24) (by decide +kernel) ?_
          refine zwW_p [(1, 1, 0)] (q := 25) (ls' := [(2, 37), (0, a), (0, b)]) (st' := [(0, a), (2, 74)]) (by decide +kernel) rfl ?_
          refine zwW_al I (a1 := 74) (a2 := 74) (kd := 20) (n := 8) (t := 0) (lo := 0) (hi := 9999) (nx := 26) (by decide +kernel) (by first | decide | exact ⟨by decide, by decide⟩) (by first | omega | exact ⟨by omega, by omega⟩) ?_
          intro v5 ev5 lv5 uv5
          refine zwW_p [(1, 2, 0)] (q := 27) (ls' := [(2, 37), (0, a), (0, b)]) (st' := [(0, b), (0, v5)]) (by decide +kernel) rfl ?_
          refine zwW_add (nx := 28) (by decide +kernel) (by first | omega | exact ⟨by omega, by omega⟩) ?_
          refine zwW_p [(0, 9999, 0)] (q := 31) (ls' := [(2, 37), (0, a), (0, b)]) (st' := [(0, 9999), (0, (v5 + b))]) (by decide +kernel) rfl ?_
          refine zwic_le (q := 36) (nx := 34) (by decide +kernel) (fun c6 => ?_) (fun c6 => ?_)
          · refine zwW_p [(1, 0, 2)] (q := 37) (ls' := [(2, 37), (0, a), (0, b)]) (st' := [(2, 37)]) (by decide +kernel) rfl ?_
            refine zwW_gc I (kd := 13) (bn := 15) (n := 97) (c := 74) (nx := 40) (by decide +kernel) ?_
            refine zwW_p [(1, 1, 0), (14, 0, 0)] (q := 42) (ls' := [(2, 37), (0, a), (0, b)]) (st' := [(0, a), (2, 74), (0, a), (2, 74)]) (by decide +kernel) rfl ?_
            refine zwW_al I (a1 := 74) (a2 := 74) (kd := 20) (n := 8) (t := 0) (lo := 0) (hi := 9999) (nx := 43) (by decide +kernel) (by first | decide | exact ⟨by decide, by decide⟩) (by first | omega | exact ⟨by omega, by omega⟩) ?_
            intro v7 ev7 lv7 uv7
            refine zwW_p [(1, 2, 0)] (q := 44) (ls' := [(2, 37), (0, a), (0, b)]) (st' := [(0, b), (0, v7), (0, a), (2, 74)]) (by decide +kernel) rfl ?_
            refine zwW_add (nx := 45) (by decide +kernel) (by first | omega | exact ⟨by omega, by omega⟩) ?_
            refine zwW_as I (a1 := 74) (a2 := 74) (n := 8) (lo := 0) (hi := 9999) (nx := 46) (by decide +kernel) (by first | decide | exact ⟨by decide, by decide⟩) (by first | omega | exact ⟨by omega, by omega⟩) (by first | omega | exact ⟨by omega, by omega⟩) ?_
            intro h8 eh8 Ih8
            have Ah8_74 : ∀ j : Nat, fld h8 74 j = if j = a.toNat then (v7 + b) else fld h 74 j := by
              intro j
              by_cases hq : j = a.toNat
              · rw [if_pos hq, hq, eh8]; exact fld_wr_eq (I.s (a1 := 74) (a2 := 74) (k := 20) (n := 8) (by decide +kernel) (by decide) (by decide)) (by omega)
              · rw [if_neg hq, eh8]; exact (fld_wr (Or.inr hq)).trans rfl
            have Rh8 : zMR ms64 h h8 := R.w (a1 := 74) (a2 := 74) (j1 := 0) (j2 := 8) (by decide +kernel) (by first | decide | exact ⟨by decide, by decide⟩) (by first | omega | exact ⟨by omega, by omega⟩) eh8
            refine zwW_p [(1, 0, 2)] (q := 47) (ls' := [(2, 37), (0, a), (0, b)]) (st' := [(2, 37)]) (by decide +kernel) rfl ?_
            refine zwW_gc Ih8 (kd := 13) (bn := 15) (n := 97) (c := 74) (nx := 50) (by decide +kernel) ?_
            refine zwW_p [(1, 1, 0)] (q := 51) (ls' := [(2, 37), (0, a), (0, b)]) (st' := [(0, a), (2, 74)]) (by decide +kernel) rfl ?_
            refine zwW_al Ih8 (a1 := 74) (a2 := 74) (kd := 20) (n := 8) (t := 0) (lo := 0) (hi := 9999) (nx := 52) (by decide +kernel) (by first | decide | exact ⟨by decide, by decide⟩) (by first | omega | exact ⟨by omega, by omega⟩) ?_
            intro v9 ev9 lv9 uv9
            refine zwW_ret (nx := 53) (a := 0) (b := 0) (by decide +kernel) rfl (Or.inl rfl) ?_
            exact ⟨Ih8, Rh8, by omega, by exact Or.inl ⟨by have := Ah8_74 (a.toNat); rw [if_pos rfl] at this; omega, by omega, by intro j; first | exact Ah8_74 j | (rw [Ah8_74 j]; split <;> first | omega | (split <;> omega))⟩⟩
          · refine zwW_p [(0, -1, 0)] (q := 35) (ls' := [(2, 37), (0, a), (0, b)]) (st' := [(0, -1)]) (by decide +kernel) rfl ?_
            refine zwW_ret (nx := 36) (a := 0) (b := 0) (by decide +kernel) rfl (Or.inl rfl) ?_
            exact ⟨I, R, by omega, by exact Or.inr ⟨by omega, by rfl, by omega⟩⟩
      · refine zwif_eq (q := 34) (nx := 20) (by decide +kernel) (fun c10 => ?_) (fun c10 => ?_)
        · refine zwW_p [(0, -1, 0)] (q := 35) (ls' := [(2, 37), (0, a), (0, b)]) (st' := [(0, -1)]) (by decide +kernel) rfl ?_
          refine zwW_ret (nx := 36) (a := 0) (b := 0) (by decide +kernel) rfl (Or.inl rfl) ?_
          exact ⟨I, R, by omega, by exact Or.inr ⟨by omega, by rfl, by omega⟩⟩
        · exfalso; omega
  · refine zwif_eq (q := 34) (nx := 8) (by decide +kernel) (fun c11 => ?_) (fun c11 => ?_)
    · refine zwW_p [(0, -1, 0)] (q := 35) (ls' := [(2, 37), (0, a), (0, b)]) (st' := [(0, -1)]) (by decide +kernel) rfl ?_
      refine zwW_ret (nx := 36) (a := 0) (b := 0) (by decide +kernel) rfl (Or.inl rfl) ?_
      exact ⟨I, R, by omega, by exact Or.inr ⟨by omega, by rfl, by omega⟩⟩
    · exfalso; omega
-- WheelLandModel.falseOf(IZ)I
theorem m160 {sc : List Int} (h : Hp) (I : zI h) (a b : Int) (p1 : 0 ≤ a) (p2 : a ≤ 7) : zwC sc 2 160 [(2, 37), (0, a), (0, b)] h (zwRt 0 (fun x g => h = g ∧ (-2147483648 ≤ x ∧ x ≤ 2147483647))) := by
  refine zwC_of (D := 1) 3 (by decide +kernel) rfl (ls := [(2, 37), (0, a), (0, b)]) rfl ?_
  refine zwW_p [(1, 0, 2)] (q := 1) (ls' := [(2, 37), (0, a), (0, b)]) (st' := [(2, 37)]) (by decide +kernel) rfl ?_
  refine zwW_gc I (kd := 13) (bn := 15) (n := 97) (c := 74) (nx := 4) (by decide +kernel) ?_
  refine zwW_p [(1, 1, 0)] (q := 5) (ls' := [(2, 37), (0, a), (0, b)]) (st' := [(0, a), (2, 74)]) (by decide +kernel) rfl ?_
  refine zwW_al I (a1 := 74) (a2 := 74) (kd := 20) (n := 8) (t := 0) (lo := 0) (hi := 9999) (nx := 6) (by decide +kernel) (by first | decide | exact ⟨by decide, by decide⟩) (by first | omega | exact ⟨by omega, by omega⟩) ?_
  intro v1 ev1 lv1 uv1
  refine zwW_p [(1, 2, 0)] (q := 7) (ls' := [(2, 37), (0, a), (0, b)]) (st' := [(0, b), (0, v1)]) (by decide +kernel) rfl ?_
  refine zwif_eq (q := 19) (nx := 10) (by decide +kernel) (fun c2 => ?_) (fun c2 => ?_)
  · refine zwW_p [(1, 0, 2)] (q := 20) (ls' := [(2, 37), (0, a), (0, b)]) (st' := [(2, 37), (0, v1)]) (by decide +kernel) rfl ?_
    refine zwW_gc I (kd := 13) (bn := 16) (n := 97) (c := 75) (nx := 23) (by decide +kernel) ?_
    refine zwW_p [(1, 1, 0)] (q := 24) (ls' := [(2, 37), (0, a), (0, b)]) (st' := [(0, a), (2, 75), (0, v1)]) (by decide +kernel) rfl ?_
    refine zwW_al I (a1 := 75) (a2 := 75) (kd := 20) (n := 8) (t := 0) (lo := -2147483648) (hi := 2147483647) (nx := 25) (by decide +kernel) (by first | decide | exact ⟨by decide, by decide⟩) (by first | omega | exact ⟨by omega, by omega⟩) ?_
    intro v3 ev3 lv3 uv3
    refine zwW_sbw (nx := 26) (by decide +kernel) ?_
    intro v4 ev4 lv4 uv4
    refine zwW_cs (k' := 129) (n := 1) (nx := 29) (as := [(0, v4)]) (st' := []) (by decide +kernel) rfl (m129 h v4 (by omega)) rfl ?_
    rintro v5 _ ⟨rfl, f6, f7, f8⟩
    refine zwW_ret (nx := 30) (a := 0) (b := 0) (by decide +kernel) rfl (Or.inl rfl) ?_
    exact ⟨rfl, by omega⟩
  · refine zwW_p [(1, 0, 2)] (q := 11) (ls' := [(2, 37), (0, a), (0, b)]) (st' := [(2, 37), (0, v1)]) (by decide +kernel) rfl ?_
    refine zwW_gc I (kd := 13) (bn := 17) (n := 97) (c := 76) (nx := 14) (by decide +kernel) ?_
    refine zwW_p [(1, 1, 0)] (q := 15) (ls' := [(2, 37), (0, a), (0, b)]) (st' := [(0, a), (2, 76), (0, v1)]) (by decide +kernel) rfl ?_
    refine zwW_al I (a1 := 76) (a2 := 76) (kd := 20) (n := 8) (t := 0) (lo := -2147483648) (hi := 2147483647) (nx := 16) (by decide +kernel) (by first | decide | exact ⟨by decide, by decide⟩) (by first | omega | exact ⟨by omega, by omega⟩) ?_
    intro v9 ev9 lv9 uv9
    refine zwW_p [(24, 25, 0)] (q := 25) (ls' := [(2, 37), (0, a), (0, b)]) (st' := [(0, v9), (0, v1)]) (by decide +kernel) rfl ?_
    refine zwW_sbw (nx := 26) (by decide +kernel) ?_
    intro v10 ev10 lv10 uv10
    refine zwW_cs (k' := 129) (n := 1) (nx := 29) (as := [(0, v10)]) (st' := []) (by decide +kernel) rfl (m129 h v10 (by omega)) rfl ?_
    rintro v11 _ ⟨rfl, f12, f13, f14⟩
    refine zwW_ret (nx := 30) (a := 0) (b := 0) (by decide +kernel) rfl (Or.inl rfl) ?_
    exact ⟨rfl, by omega⟩
-- WheelLandModel.wrong(IZ)I
theorem m66 {sc : List Int} (h : Hp) (I : zI h) (a b : Int) : zwC sc 3 66 [(2, 37), (0, a), (0, b)] h (zwRt 0 (fun x g => h = g ∧ (-2147483648 ≤ x ∧ x ≤ 2147483647))) := by
  refine zwC_of (D := 2) 3 (by decide +kernel) rfl (ls := [(2, 37), (0, a), (0, b)]) rfl ?_
  refine zwW_p [(1, 0, 2), (1, 1, 0)] (q := 2) (ls' := [(2, 37), (0, a), (0, b)]) (st' := [(0, a), (2, 37)]) (by decide +kernel) rfl ?_
  refine zwW_cm I (op := 60) (k' := 104) (n := 1) (kd := 13) (m := 97) (nx := 5) (r := 37) (tl := [(0, a)]) (st' := []) (by decide +kernel) rfl (by decide +kernel) rfl (m104 h I a) ?_
  rintro x _ ⟨rfl, ⟨rfl, c1⟩ | ⟨rfl, c1⟩⟩
  · refine zwif_eq (q := 17) (nx := 8) (by decide +kernel) (fun c2 => ?_) (fun c2 => ?_)
    · exfalso; omega
    · refine zwW_p [(1, 0, 2), (1, 1, 0), (1, 2, 0)] (q := 11) (ls' := [(2, 37), (0, a), (0, b)]) (st' := [(0, b), (0, a), (2, 37)]) (by decide +kernel) rfl ?_
      refine zwW_cm I (op := 60) (k' := 160) (n := 2) (kd := 13) (m := 97) (nx := 14) (r := 37) (tl := [(0, a), (0, b)]) (st' := []) (by decide +kernel) rfl (by decide +kernel) rfl (m160 h I a b (by omega) (by omega)) ?_
      rintro v3 _ ⟨rfl, f4⟩
      refine zwW_p [(24, 18, 0)] (q := 18) (ls' := [(2, 37), (0, a), (0, b)]) (st' := [(0, v3)]) (by decide +kernel) rfl ?_
      refine zwW_ret (nx := 19) (a := 0) (b := 0) (by decide +kernel) rfl (Or.inl rfl) ?_
      exact ⟨rfl, by omega⟩
  · refine zwif_eq (q := 17) (nx := 8) (by decide +kernel) (fun c5 => ?_) (fun c5 => ?_)
    · refine zwW_p [(0, -1, 0)] (q := 18) (ls' := [(2, 37), (0, a), (0, b)]) (st' := [(0, -1)]) (by decide +kernel) rfl ?_
      refine zwW_ret (nx := 19) (a := 0) (b := 0) (by decide +kernel) rfl (Or.inl rfl) ?_
      exact ⟨rfl, by omega⟩
    · exfalso; omega
-- WheelLandModel.look()I
theorem m68 {sc : List Int} (h : Hp) (I : zI h) : zwC sc 3 68 [(2, 37)] h (zwRt 0 (fun x g => h = g ∧ (-2147483648 ≤ x ∧ x ≤ 2147483647))) := by
  refine zwC_of (D := 2) 5 (by decide +kernel) rfl (ls := [(2, 37), (9, 0), (9, 0), (9, 0), (9, 0)]) rfl ?_
  refine zwW_p [(0, -1, 0), (2, 1, 0), (0, 0, 0), (2, 2, 0), (0, 0, 0), (2, 3, 0)] (q := 6) (ls' := [(2, 37), (0, -1), (0, 0), (0, 0), (9, 0)]) (st' := []) (by decide +kernel) rfl ?_
  have L1 : ∀ (n : Nat) (zL1 mL1 vL1 : Int) (w4L1 : Vl), n = ((100 - vL1)).toNat → (0 ≤ vL1 ∧ vL1 ≤ 8) → (-1 ≤ zL1 ∧ zL1 ≤ 8) → zwW sc (2) 68 6 [(2, 37), (0, zL1), (0, mL1), (0, vL1), w4L1] [] h (zwRt 0 (fun x g => h = g ∧ (-2147483648 ≤ x ∧ x ≤ 2147483647))) := by
    intro n
    induction n using Nat.strongRecOn with
    | ind n IHL1 =>
      intro zL1 mL1 vL1 w4L1 hnL1 iL1_0 iL1_1
      refine zwW_p [(1, 3, 0), (1, 0, 2)] (q := 8) (ls' := [(2, 37), (0, zL1), (0, mL1), (0, vL1), w4L1]) (st' := [(2, 37), (0, vL1)]) (by decide +kernel) rfl ?_
      refine zwW_gs I (kd := 13) (bn := 1) (n := 97) (t := 0) (lo := 0) (hi := 8) (nx := 11) (by decide +kernel) ?_
      intro v2 ev2 lv2 uv2
      refine zwic_ge (q := 49) (nx := 14) (by decide +kernel) (fun c3 => ?_) (fun c3 => ?_)
      · refine zwW_p [(1, 1, 0)] (q := 50) (ls' := [(2, 37), (0, zL1), (0, mL1), (0, vL1), w4L1]) (st' := [(0, zL1)]) (by decide +kernel) rfl ?_
        refine zwW_ret (nx := 51) (a := 0) (b := 0) (by decide +kernel) rfl (Or.inl rfl) ?_
        exact ⟨rfl, by omega⟩
      · refine zwW_p [(1, 0, 2), (1, 3, 0), (0, 1, 0)] (q := 17) (ls' := [(2, 37), (0, zL1), (0, mL1), (0, vL1), w4L1]) (st' := [(0, 1), (0, vL1), (2, 37)]) (by decide +kernel) rfl ?_
        refine zwW_cm I (op := 60) (k' := 160) (n := 2) (kd := 13) (m := 97) (nx := 20) (r := 37) (tl := [(0, vL1), (0, 1)]) (st' := []) (by decide +kernel) rfl (by decide +kernel) rfl (m160 h I vL1 1 (by omega) (by omega)) ?_
        rintro v4 _ ⟨rfl, f5⟩
        refine zwW_p [(1, 0, 2), (1, 3, 0), (0, 0, 0)] (q := 23) (ls' := [(2, 37), (0, zL1), (0, mL1), (0, vL1), w4L1]) (st' := [(0, 0), (0, vL1), (2, 37), (0, v4)]) (by decide +kernel) rfl ?_
        refine zwW_cm I (op := 60) (k' := 160) (n := 2) (kd := 13) (m := 97) (nx := 26) (r := 37) (tl := [(0, vL1), (0, 0)]) (st' := [(0, v4)]) (by decide +kernel) rfl (by decide +kernel) rfl (m160 h I vL1 0 (by omega) (by omega)) ?_
        rintro v6 _ ⟨rfl, f7⟩
        refine zwW_sbw (nx := 27) (by decide +kernel) ?_
        intro v8 ev8 lv8 uv8
        refine zwW_p [(2, 4, 0), (1, 4, 0), (1, 2, 0)] (q := 32) (ls' := [(2, 37), (0, zL1), (0, mL1), (0, vL1), (0, v8)]) (st' := [(0, mL1), (0, v8)]) (by decide +kernel) rfl ?_
        refine zwic_gt (q := 38) (nx := 35) (by decide +kernel) (fun c9 => ?_) (fun c9 => ?_)
        · refine zwW_p [(1, 4, 0), (2, 2, 0), (1, 3, 0), (2, 1, 0)] (q := 43) (ls' := [(2, 37), (0, vL1), (0, v8), (0, vL1), (0, v8)]) (st' := []) (by decide +kernel) rfl ?_
          refine zwW_inc (i := 3) (c := 1) (x := vL1) (nx := 46) (by decide +kernel) rfl (by first | omega | exact ⟨by omega, by omega⟩) (ls' := [(2, 37), (0, vL1), (0, v8), (0, (vL1 + 1)), (0, v8)]) rfl ?_
          refine zwW_p [(24, 6, 0)] (q := 6) (ls' := [(2, 37), (0, vL1), (0, v8), (0, (vL1 + 1)), (0, v8)]) (st' := []) (by decide +kernel) rfl ?_
          exact IHL1 ((100 - (vL1 + 1))).toNat (by omega) vL1 v8 (vL1 + 1) (0, v8) rfl (by omega) (by omega)
        · refine zwW_p [(24, 43, 0)] (q := 43) (ls' := [(2, 37), (0, zL1), (0, mL1), (0, vL1), (0, v8)]) (st' := []) (by decide +kernel) rfl ?_
          refine zwW_inc (i := 3) (c := 1) (x := vL1) (nx := 46) (by decide +kernel) rfl (by first | omega | exact ⟨by omega, by omega⟩) (ls' := [(2, 37), (0, zL1), (0, mL1), (0, (vL1 + 1)), (0, v8)]) rfl ?_
          refine zwW_p [(24, 6, 0)] (q := 6) (ls' := [(2, 37), (0, zL1), (0, mL1), (0, (vL1 + 1)), (0, v8)]) (st' := []) (by decide +kernel) rfl ?_
          exact IHL1 ((100 - (vL1 + 1))).toNat (by omega) zL1 mL1 (vL1 + 1) (0, v8) rfl (by omega) (by omega)
  exact L1 _ (-1) 0 0 (9, 0) rfl (by omega) (by omega)
def ms70 : Zms := [(37, 37, 96, 97), (363, 363, 0, 8), (364, 364, 0, 8), (365, 365, 0, 8)]
-- WheelLandModel.gift(III)I
theorem m70 {sc : List Int} (h : Hp) (I : zI h) (a b c : Int) : zwC sc 3 70 [(2, 37), (0, a), (0, b), (0, c)] h (zwRt 0 (fun x g => zI g ∧ zMR ms70 h g ∧ (-2147483648 ≤ x ∧ x ≤ 2147483647) ∧ ((x = fld h 37 96 ∧ fld g 37 96 = x + 1 ∧ 1 ≤ a ∧ a ≤ 99 ∧ 0 ≤ b ∧ b < fld h 37 2 ∧ 0 ≤ c ∧ c ≤ 2 ∧ x < 8) ∨ (x = -1 ∧ fld g 37 96 = fld h 37 96 ∧ (a < 1 ∨ 99 < a ∨ b < 0 ∨ fld h 37 2 ≤ b ∨ c < 0 ∨ 2 < c ∨ 8 ≤ fld h 37 96))))) := by
  refine zwC_of (D := 2) 4 (by decide +kernel) rfl (ls := [(2, 37), (0, a), (0, b), (0, c)]) rfl ?_
  have R : zMR ms70 h h := zMR.rf _ _
  refine zwW_p [(1, 1, 0), (7, 0, 0), (0, 1, 1), (0, 99, 1)] (q := 6) (ls' := [(2, 37), (0, a), (0, b), (0, c)]) (st' := [(1, 99), (1, 1), (1, a)]) (by decide +kernel) rfl ?_
  refine zwW_cs (k' := 101) (n := 3) (nx := 9) (as := [(1, a), (1, 1), (1, 99)]) (st' := []) (by decide +kernel) rfl (m101 h a 1 99) rfl ?_
  rintro x _ ⟨rfl, ⟨rfl, c1⟩ | ⟨rfl, c1⟩⟩
  · refine zwif_eq (q := 41) (nx := 12) (by decide +kernel) (fun c2 => ?_) (fun c2 => ?_)
    · exfalso; omega
    · refine zwW_p [(1, 0, 2), (1, 2, 0)] (q := 14) (ls' := [(2, 37), (0, a), (0, b), (0, c)]) (st' := [(0, b), (2, 37)]) (by decide +kernel) rfl ?_
      refine zwW_cm I (op := 60) (k' := 111) (n := 1) (kd := 13) (m := 97) (nx := 17) (r := 37) (tl := [(0, b)]) (st' := []) (by decide +kernel) rfl (by decide +kernel) rfl (m111 h I b) ?_
      rintro x _ ⟨rfl, ⟨rfl, c3⟩ | ⟨rfl, c3⟩⟩
      · refine zwif_eq (q := 41) (nx := 20) (by decide +kernel) (fun c4 => ?_) (fun c4 => ?_)
        · exfalso; omega
        · refine zwW_p [(1, 3, 0), (7, 0, 0), (0, 0, 1), (0, 2, 1)] (q := 26) (ls' := [(2, 37), (0, a), (0, b), (0, c)]) (st' := [(1, 2), (1, 0), (1, c)]) (by decide +kernel) rfl ?_
          refine zwW_cs (k' := 101) (n := 3) (nx := 29) (as := [(1, c), (1, 0), (1, 2)]) (st' := []) (by decide +kernel) rfl (m101 h c 0 2) rfl ?_
          rintro x _ ⟨rfl, ⟨rfl, c5⟩ | ⟨rfl, c5⟩⟩
          · refine zwif_eq (q := 41) (nx := 32) (by decide +kernel) (fun c6 => ?_) (fun c6 => ?_)
            · exfalso; omega
            · refine zwW_p [(1, 0, 2)] (q := 33) (ls' := [(2, 37), (0, a), (0, b), (0, c)]) (st' := [(2, 37)]) (by decide +kernel) rfl ?_
              refine zwW_gs I (kd := 13) (bn := 96) (n := 97) (t := 0) (lo := 0) (hi := 8) (nx := 36) (by decide +kernel) ?_
              intro v7 ev7 lv7 uv7
              refine zwW_p [(0, 8, 0)] (q := 38) (ls' := [(2, 37), (0, a), (0, b), (0, c)]) (st' := [(0, 8), (0, v7)]) (by decide +kernel) rfl ?_
              refine zwic_ne (q := 43) (nx := 41) (by decide +kernel) (fun c8 => ?_) (fun c8 => ?_)
              · refine zwW_p [(1, 0, 2)] (q := 44) (ls' := [(2, 37), (0, a), (0, b), (0, c)]) (st' := [(2, 37)]) (by decide +kernel) rfl ?_
                refine zwW_gc I (kd := 13) (bn := 93) (n := 97) (c := 363) (nx := 47) (by decide +kernel) ?_
                refine zwW_p [(1, 0, 2)] (q := 48) (ls' := [(2, 37), (0, a), (0, b), (0, c)]) (st' := [(2, 37), (2, 363)]) (by decide +kernel) rfl ?_
                refine zwW_gs I (kd := 13) (bn := 96) (n := 97) (t := 0) (lo := 0) (hi := 8) (nx := 51) (by decide +kernel) ?_
                intro v9 ev9 lv9 uv9
                refine zwW_p [(1, 1, 0)] (q := 52) (ls' := [(2, 37), (0, a), (0, b), (0, c)]) (st' := [(0, a), (0, v9), (2, 363)]) (by decide +kernel) rfl ?_
                refine zwW_as I (a1 := 363) (a2 := 363) (n := 8) (lo := 0) (hi := 99) (nx := 53) (by decide +kernel) (by first | decide | exact ⟨by decide, by decide⟩) (by first | omega | exact ⟨by omega, by omega⟩) (by first | omega | exact ⟨by omega, by omega⟩) ?_
                intro h10 eh10 Ih10
                have th10_37_96 : fld h10 37 96 = fld h 37 96 := by rw [eh10]; exact fld_wr (by omega)
                have Rh10 : zMR ms70 h h10 := R.w (a1 := 363) (a2 := 363) (j1 := 0) (j2 := 8) (by decide +kernel) (by first | decide | exact ⟨by decide, by decide⟩) (by first | omega | exact ⟨by omega, by omega⟩) eh10
                refine zwW_p [(1, 0, 2)] (q := 54) (ls' := [(2, 37), (0, a), (0, b), (0, c)]) (st' := [(2, 37)]) (by decide +kernel) rfl ?_
                refine zwW_gc Ih10 (kd := 13) (bn := 94) (n := 97) (c := 364) (nx := 57) (by decide +kernel) ?_
                refine zwW_p [(1, 0, 2)] (q := 58) (ls' := [(2, 37), (0, a), (0, b), (0, c)]) (st' := [(2, 37), (2, 364)]) (by decide +kernel) rfl ?_
                refine zwW_gs Ih10 (kd := 13) (bn := 96) (n := 97) (t := 0) (lo := 0) (hi := 8) (nx := 61) (by decide +kernel) ?_
                intro v11 ev11 lv11 uv11
                refine zwW_p [(1, 2, 0)] (q := 62) (ls' := [(2, 37), (0, a), (0, b), (0, c)]) (st' := [(0, b), (0, v11), (2, 364)]) (by decide +kernel) rfl ?_
                refine zwW_as Ih10 (a1 := 364) (a2 := 364) (n := 8) (lo := 0) (hi := 19) (nx := 63) (by decide +kernel) (by first | decide | exact ⟨by decide, by decide⟩) (by first | omega | exact ⟨by omega, by omega⟩) (by first | omega | exact ⟨by omega, by omega⟩) ?_
                intro h12 eh12 Ih12
                have th12_37_96 : fld h12 37 96 = fld h10 37 96 := by rw [eh12]; exact fld_wr (by omega)
                have Rh12 : zMR ms70 h h12 := Rh10.w (a1 := 364) (a2 := 364) (j1 := 0) (j2 := 8) (by decide +kernel) (by first | decide | exact ⟨by decide, by decide⟩) (by first | omega | exact ⟨by omega, by omega⟩) eh12
                refine zwW_p [(1, 0, 2)] (q := 64) (ls' := [(2, 37), (0, a), (0, b), (0, c)]) (st' := [(2, 37)]) (by decide +kernel) rfl ?_
                refine zwW_gc Ih12 (kd := 13) (bn := 95) (n := 97) (c := 365) (nx := 67) (by decide +kernel) ?_
                refine zwW_p [(1, 0, 2)] (q := 68) (ls' := [(2, 37), (0, a), (0, b), (0, c)]) (st' := [(2, 37), (2, 365)]) (by decide +kernel) rfl ?_
                refine zwW_gs Ih12 (kd := 13) (bn := 96) (n := 97) (t := 0) (lo := 0) (hi := 8) (nx := 71) (by decide +kernel) ?_
                intro v13 ev13 lv13 uv13
                refine zwW_p [(1, 3, 0)] (q := 72) (ls' := [(2, 37), (0, a), (0, b), (0, c)]) (st' := [(0, c), (0, v13), (2, 365)]) (by decide +kernel) rfl ?_
                refine zwW_as Ih12 (a1 := 365) (a2 := 365) (n := 8) (lo := 0) (hi := 2) (nx := 73) (by decide +kernel) (by first | decide | exact ⟨by decide, by decide⟩) (by first | omega | exact ⟨by omega, by omega⟩) (by first | omega | exact ⟨by omega, by omega⟩) ?_
                intro h14 eh14 Ih14
                have th14_37_96 : fld h14 37 96 = fld h12 37 96 := by rw [eh14]; exact fld_wr (by omega)
                have Rh14 : zMR ms70 h h14 := Rh12.w (a1 := 365) (a2 := 365) (j1 := 0) (j2 := 8) (by decide +kernel) (by first | decide | exact ⟨by decide, by decide⟩) (by first | omega | exact ⟨by omega, by omega⟩) eh14
                refine zwW_p [(1, 0, 2), (12, 0, 0)] (q := 75) (ls' := [(2, 37), (0, a), (0, b), (0, c)]) (st' := [(2, 37), (2, 37)]) (by decide +kernel) rfl ?_
                refine zwW_gs Ih14 (kd := 13) (bn := 96) (n := 97) (t := 0) (lo := 0) (hi := 8) (nx := 78) (by decide +kernel) ?_
                intro v15 ev15 lv15 uv15
                refine zwW_p [(0, 1, 0)] (q := 79) (ls' := [(2, 37), (0, a), (0, b), (0, c)]) (st' := [(0, 1), (0, v15), (2, 37)]) (by decide +kernel) rfl ?_
                refine zwW_add (nx := 80) (by decide +kernel) (by first | omega | exact ⟨by omega, by omega⟩) ?_
                refine zwW_ps Ih14 (kd := 13) (bn := 96) (n := 97) (lo := 0) (hi := 8) (nx := 83) (by decide +kernel) (by first | omega | exact ⟨by omega, by omega⟩) ?_
                intro h16 eh16 Ih16
                have th16_37_96 : fld h16 37 96 = (v15 + 1) := by rw [eh16]; exact fld_wr_eq (Ih14.s (a1 := 37) (a2 := 37) (k := 13) (n := 97) (by decide +kernel) (by decide) (by decide)) (by decide)
                have Rh16 : zMR ms70 h h16 := Rh14.w (a1 := 37) (a2 := 37) (j1 := 96) (j2 := 97) (by decide +kernel) (by first | decide | exact ⟨by decide, by decide⟩) (by first | decide | exact ⟨by decide, by decide⟩) eh16
                refine zwW_p [(1, 0, 2)] (q := 84) (ls' := [(2, 37), (0, a), (0, b), (0, c)]) (st' := [(2, 37)]) (by decide +kernel) rfl ?_
                refine zwW_gs Ih16 (kd := 13) (bn := 96) (n := 97) (t := 0) (lo := 0) (hi := 8) (nx := 87) (by decide +kernel) ?_
                intro v17 ev17 lv17 uv17
                refine zwW_p [(0, 1, 0)] (q := 88) (ls' := [(2, 37), (0, a), (0, b), (0, c)]) (st' := [(0, 1), (0, v17)]) (by decide +kernel) rfl ?_
                refine zwW_sub (nx := 89) (by decide +kernel) (by first | omega | exact ⟨by omega, by omega⟩) ?_
                refine zwW_ret (nx := 90) (a := 0) (b := 0) (by decide +kernel) rfl (Or.inl rfl) ?_
                exact ⟨Ih16, Rh16, by omega, by omega⟩
              · refine zwW_p [(0, -1, 0)] (q := 42) (ls' := [(2, 37), (0, a), (0, b), (0, c)]) (st' := [(0, -1)]) (by decide +kernel) rfl ?_
                refine zwW_ret (nx := 43) (a := 0) (b := 0) (by decide +kernel) rfl (Or.inl rfl) ?_
                exact ⟨I, R, by omega, by omega⟩
          · refine zwif_eq (q := 41) (nx := 32) (by decide +kernel) (fun c18 => ?_) (fun c18 => ?_)
            · refine zwW_p [(0, -1, 0)] (q := 42) (ls' := [(2, 37), (0, a), (0, b), (0, c)]) (st' := [(0, -1)]) (by decide +kernel) rfl ?_
              refine zwW_ret (nx := 43) (a := 0) (b := 0) (by decide +kernel) rfl (Or.inl rfl) ?_
              exact ⟨I, R, by omega, by omega⟩
            · exfalso; omega
      · refine zwif_eq (q := 41) (nx := 20) (by decide +kernel) (fun c19 => ?_) (fun c19 => ?_)
        · refine zwW_p [(0, -1, 0)] (q := 42) (ls' := [(2, 37), (0, a), (0, b), (0, c)]) (st' := [(0, -1)]) (by decide +kernel) rfl ?_
          refine zwW_ret (nx := 43) (a := 0) (b := 0) (by decide +kernel) rfl (Or.inl rfl) ?_
          exact ⟨I, R, by omega, by omega⟩
        · exfalso; omega
  · refine zwif_eq (q := 41) (nx := 12) (by decide +kernel) (fun c20 => ?_) (fun c20 => ?_)
    · refine zwW_p [(0, -1, 0)] (q := 42) (ls' := [(2, 37), (0, a), (0, b), (0, c)]) (st' := [(0, -1)]) (by decide +kernel) rfl ?_
      refine zwW_ret (nx := 43) (a := 0) (b := 0) (by decide +kernel) rfl (Or.inl rfl) ?_
      exact ⟨I, R, by omega, by omega⟩
    · exfalso; omega
def ms72 : Zms := [(37, 37, 96, 97)]
-- WheelLandModel.forget()I
theorem m72 {sc : List Int} (h : Hp) (I : zI h) : zwC sc 1 72 [(2, 37)] h (zwRt 0 (fun x g => zI g ∧ zMR ms72 h g ∧ (-2147483648 ≤ x ∧ x ≤ 2147483647) ∧ (x = fld h 37 96 ∧ fld g 37 96 = 0))) := by
  refine zwC_of (D := 0) 2 (by decide +kernel) rfl (ls := [(2, 37), (9, 0)]) rfl ?_
  have R : zMR ms72 h h := zMR.rf _ _
  refine zwW_p [(1, 0, 2)] (q := 1) (ls' := [(2, 37), (9, 0)]) (st' := [(2, 37)]) (by decide +kernel) rfl ?_
  refine zwW_gs I (kd := 13) (bn := 96) (n := 97) (t := 0) (lo := 0) (hi := 8) (nx := 4) (by decide +kernel) ?_
  intro v1 ev1 lv1 uv1
  refine zwW_p [(2, 1, 0), (1, 0, 2), (0, 0, 0)] (q := 7) (ls' := [(2, 37), (0, v1)]) (st' := [(0, 0), (2, 37)]) (by decide +kernel) rfl ?_
  refine zwW_ps I (kd := 13) (bn := 96) (n := 97) (lo := 0) (hi := 8) (nx := 10) (by decide +kernel) (by first | decide | exact ⟨by decide, by decide⟩) ?_
  intro h2 eh2 Ih2
  have th2_37_96 : fld h2 37 96 = 0 := by rw [eh2]; exact fld_wr_eq (I.s (a1 := 37) (a2 := 37) (k := 13) (n := 97) (by decide +kernel) (by decide) (by decide)) (by decide)
  have Rh2 : zMR ms72 h h2 := R.w (a1 := 37) (a2 := 37) (j1 := 96) (j2 := 97) (by decide +kernel) (by first | decide | exact ⟨by decide, by decide⟩) (by first | decide | exact ⟨by decide, by decide⟩) eh2
  refine zwW_p [(1, 1, 0)] (q := 11) (ls' := [(2, 37), (0, v1)]) (st' := [(0, v1)]) (by decide +kernel) rfl ?_
  refine zwW_ret (nx := 12) (a := 0) (b := 0) (by decide +kernel) rfl (Or.inl rfl) ?_
  exact ⟨Ih2, Rh2, by omega, by omega⟩
-- WheelLandModel.costOf(I)I
theorem m165 {sc : List Int} (h : Hp) (I : zI h) (a : Int) (q_a : -2147483648 ≤ a ∧ a ≤ 2147483647) : zwC sc 1 165 [(2, 37), (0, a)] h (zwRt 0 (fun x g => h = g ∧ (-2147483648 ≤ x ∧ x ≤ 2147483647))) := by
  refine zwC_of (D := 0) 4 (by decide +kernel) rfl (ls := [(2, 37), (0, a), (9, 0), (9, 0)]) rfl ?_
  refine zwW_p [(0, 0, 0), (2, 2, 0), (0, 0, 0), (2, 3, 0)] (q := 4) (ls' := [(2, 37), (0, a), (0, 0), (0, 0)]) (st' := []) (by decide +kernel) rfl ?_
  have L1 : ∀ (n : Nat) (nL1 kL1 : Int), n = ((100 - kL1)).toNat → (0 ≤ kL1 ∧ kL1 ≤ 8) → (-2147483648 ≤ nL1 ∧ nL1 ≤ 2147483647) → zwW sc (0) 165 4 [(2, 37), (0, a), (0, nL1), (0, kL1)] [] h (zwRt 0 (fun x g => h = g ∧ (-2147483648 ≤ x ∧ x ≤ 2147483647))) := by
    intro n
    induction n using Nat.strongRecOn with
    | ind n IHL1 =>
      intro nL1 kL1 hnL1 iL1_0 iL1_1
      refine zwW_p [(1, 3, 0), (1, 0, 2)] (q := 6) (ls' := [(2, 37), (0, a), (0, nL1), (0, kL1)]) (st' := [(2, 37), (0, kL1)]) (by decide +kernel) rfl ?_
      refine zwW_gs I (kd := 13) (bn := 96) (n := 97) (t := 0) (lo := 0) (hi := 8) (nx := 9) (by decide +kernel) ?_
      intro v2 ev2 lv2 uv2
      refine zwic_ge (q := 40) (nx := 12) (by decide +kernel) (fun c3 => ?_) (fun c3 => ?_)
      · refine zwW_p [(1, 2, 0)] (q := 41) (ls' := [(2, 37), (0, a), (0, nL1), (0, kL1)]) (st' := [(0, nL1)]) (by decide +kernel) rfl ?_
        refine zwW_ret (nx := 42) (a := 0) (b := 0) (by decide +kernel) rfl (Or.inl rfl) ?_
        exact ⟨rfl, by omega⟩
      · refine zwW_p [(1, 2, 0), (1, 1, 0), (1, 3, 0)] (q := 15) (ls' := [(2, 37), (0, a), (0, nL1), (0, kL1)]) (st' := [(0, kL1), (0, a), (0, nL1)]) (by decide +kernel) rfl ?_
        refine zwW_any2 (a := 9) (nx := 16) (by decide +kernel) rfl (by first | omega | exact ⟨by omega, by omega⟩) (Or.inr (by first | decide | exact ⟨by decide, by decide⟩)) ?_
        intro v4 lv4 uv4
        refine zwW_p [(0, 1, 0)] (q := 17) (ls' := [(2, 37), (0, a), (0, nL1), (0, kL1)]) (st' := [(0, 1), (0, v4), (0, nL1)]) (by decide +kernel) rfl ?_
        refine zwW_any2 (a := 5) (nx := 18) (by decide +kernel) rfl (by first | omega | exact ⟨by omega, by omega⟩) (Or.inr (by first | decide | exact ⟨by decide, by decide⟩)) ?_
        intro v5 lv5 uv5
        refine zwW_p [(0, 1, 0)] (q := 19) (ls' := [(2, 37), (0, a), (0, nL1), (0, kL1)]) (st' := [(0, 1), (0, v5), (0, nL1)]) (by decide +kernel) rfl ?_
        refine zwic_ne (q := 31) (nx := 22) (by decide +kernel) (fun c6 => ?_) (fun c6 => ?_)
        · refine zwW_p [(0, 0, 0)] (q := 32) (ls' := [(2, 37), (0, a), (0, nL1), (0, kL1)]) (st' := [(0, 0), (0, nL1)]) (by decide +kernel) rfl ?_
          refine zwW_add (nx := 33) (by decide +kernel) (by first | omega | exact ⟨by omega, by omega⟩) ?_
          refine zwW_p [(2, 2, 0)] (q := 34) (ls' := [(2, 37), (0, a), (0, (nL1 + 0)), (0, kL1)]) (st' := []) (by decide +kernel) rfl ?_
          refine zwW_inc (i := 3) (c := 1) (x := kL1) (nx := 37) (by decide +kernel) rfl (by first | omega | exact ⟨by omega, by omega⟩) (ls' := [(2, 37), (0, a), (0, (nL1 + 0)), (0, (kL1 + 1))]) rfl ?_
          refine zwW_p [(24, 4, 0)] (q := 4) (ls' := [(2, 37), (0, a), (0, (nL1 + 0)), (0, (kL1 + 1))]) (st' := []) (by decide +kernel) rfl ?_
          exact IHL1 ((100 - (kL1 + 1))).toNat (by omega) (nL1 + 0) (kL1 + 1) rfl (by omega) (by omega)
        · refine zwW_p [(1, 0, 2)] (q := 23) (ls' := [(2, 37), (0, a), (0, nL1), (0, kL1)]) (st' := [(2, 37), (0, nL1)]) (by decide +kernel) rfl ?_
          refine zwW_gc I (kd := 13) (bn := 93) (n := 97) (c := 363) (nx := 26) (by decide +kernel) ?_
          refine zwW_p [(1, 3, 0)] (q := 27) (ls' := [(2, 37), (0, a), (0, nL1), (0, kL1)]) (st' := [(0, kL1), (2, 363), (0, nL1)]) (by decide +kernel) rfl ?_
          refine zwW_al I (a1 := 363) (a2 := 363) (kd := 20) (n := 8) (t := 0) (lo := 0) (hi := 99) (nx := 28) (by decide +kernel) (by first | decide | exact ⟨by decide, by decide⟩) (by first | omega | exact ⟨by omega, by omega⟩) ?_
          intro v7 ev7 lv7 uv7
          refine zwW_p [(24, 32, 0)] (q := 32) (ls' := [(2, 37), (0, a), (0, nL1), (0, kL1)]) (st' := [(0, v7), (0, nL1)]) (by decide +kernel) rfl ?_
          refine zwW_adw (nx := 33) (by decide +kernel) ?_
          intro v8 ev8 lv8 uv8
          refine zwW_p [(2, 2, 0)] (q := 34) (ls' := [(2, 37), (0, a), (0, v8), (0, kL1)]) (st' := []) (by decide +kernel) rfl ?_
          refine zwW_inc (i := 3) (c := 1) (x := kL1) (nx := 37) (by decide +kernel) rfl (by first | omega | exact ⟨by omega, by omega⟩) (ls' := [(2, 37), (0, a), (0, v8), (0, (kL1 + 1))]) rfl ?_
          refine zwW_p [(24, 4, 0)] (q := 4) (ls' := [(2, 37), (0, a), (0, v8), (0, (kL1 + 1))]) (st' := []) (by decide +kernel) rfl ?_
          exact IHL1 ((100 - (kL1 + 1))).toNat (by omega) v8 (kL1 + 1) rfl (by omega) (by omega)
  exact L1 _ 0 0 rfl (by omega) (by omega)
def ms164 : Zms := [(176, 176, 0, 20), (177, 177, 0, 8), (178, 178, 0, 20), (179, 179, 0, 20)]
-- WheelLandModel.spunWith(I)I
theorem m164 {sc : List Int} (h : Hp) (I : zI h) (a : Int) (q_a : -2147483648 ≤ a ∧ a ≤ 2147483647) (hA : zAM h) : zwC sc 3 164 [(2, 37), (0, a)] h (zwRt 0 (fun x g => zI g ∧ zMR ms164 h g ∧ (-2147483648 ≤ x ∧ x ≤ 2147483647))) := by
  refine zwC_of (D := 2) 5 (by decide +kernel) rfl (ls := [(2, 37), (0, a), (9, 0), (9, 0), (9, 0)]) rfl ?_
  have R : zMR ms164 h h := zMR.rf _ _
  have B0 := I.b (a1 := 37) (a2 := 37) (j1 := 2) (j2 := 3) (lo := 0) (hi := 20) (by decide +kernel) (r := 37) (j := 2) (by decide) (by decide) (by decide) (by decide)
  refine zwW_p [(1, 0, 2)] (q := 1) (ls' := [(2, 37), (0, a), (9, 0), (9, 0), (9, 0)]) (st' := [(2, 37)]) (by decide +kernel) rfl ?_
  refine zwW_cmv I (op := 60) (k' := 220) (n := 0) (kd := 13) (m := 97) (nx := 4) (r := 37) (tl := []) (st' := []) (by decide +kernel) rfl (by decide +kernel) rfl (m220 h I) ?_
  rintro h1 ⟨Ih1, Qh1⟩
  have Rh1 : zMR ms164 h h1 := R.tr Qh1 (by decide +kernel)
  refine zwW_p [(0, 0, 0), (2, 2, 0)] (q := 6) (ls' := [(2, 37), (0, a), (0, 0), (9, 0), (9, 0)]) (st' := []) (by decide +kernel) rfl ?_
  have L2 : ∀ (n : Nat) (kL2 : Int) (w3L2 w4L2 : Vl) (hL2 : Hp), n = ((100 - kL2)).toNat → (0 ≤ kL2 ∧ kL2 ≤ 8) → zI hL2 → zMR ms164 h hL2 → zwW sc (2) 164 6 [(2, 37), (0, a), (0, kL2), w3L2, w4L2] [] hL2 (zwRt 0 (fun x g => zI g ∧ zMR ms164 h g ∧ (-2147483648 ≤ x ∧ x ≤ 2147483647))) := by
    intro n
    induction n using Nat.strongRecOn with
    | ind n IHL2 =>
      intro kL2 w3L2 w4L2 hL2 hnL2 iL2_0 IhL2 RhL2
      refine zwW_p [(1, 2, 0), (1, 0, 2)] (q := 8) (ls' := [(2, 37), (0, a), (0, kL2), w3L2, w4L2]) (st' := [(2, 37), (0, kL2)]) (by decide +kernel) rfl ?_
      refine zwW_gs IhL2 (kd := 13) (bn := 96) (n := 97) (t := 0) (lo := 0) (hi := 8) (nx := 11) (by decide +kernel) ?_
      intro v3 ev3 lv3 uv3
      refine zwic_ge (q := 153) (nx := 14) (by decide +kernel) (fun c4 => ?_) (fun c4 => ?_)
      · refine zwW_p [(1, 0, 2)] (q := 154) (ls' := [(2, 37), (0, a), (0, kL2), w3L2, w4L2]) (st' := [(2, 37)]) (by decide +kernel) rfl ?_
        refine zwW_cm IhL2 (op := 60) (k' := 221) (n := 0) (kd := 13) (m := 97) (nx := 157) (r := 37) (tl := []) (st' := []) (by decide +kernel) rfl (by decide +kernel) rfl (m221 hL2 IhL2 (hA.mr RhL2 (by decide +kernel) (by omega))) ?_
        rintro v5 h8 ⟨Ih8, Qh8, f6, f7⟩
        have Rh8 : zMR ms164 h h8 := RhL2.tr Qh8 (by decide +kernel)
        refine zwW_ret (nx := 158) (a := 0) (b := 0) (by decide +kernel) rfl (Or.inl rfl) ?_
        exact ⟨Ih8, Rh8, by omega⟩
      · refine zwW_p [(1, 1, 0), (1, 2, 0)] (q := 16) (ls' := [(2, 37), (0, a), (0, kL2), w3L2, w4L2]) (st' := [(0, kL2), (0, a)]) (by decide +kernel) rfl ?_
        refine zwW_any2 (a := 9) (nx := 17) (by decide +kernel) rfl (by first | omega | exact ⟨by omega, by omega⟩) (Or.inr (by first | decide | exact ⟨by decide, by decide⟩)) ?_
        intro v9 lv9 uv9
        refine zwW_p [(0, 1, 0)] (q := 18) (ls' := [(2, 37), (0, a), (0, kL2), w3L2, w4L2]) (st' := [(0, 1), (0, v9)]) (by decide +kernel) rfl ?_
        refine zwW_any2 (a := 5) (nx := 19) (by decide +kernel) rfl (by first | omega | exact ⟨by omega, by omega⟩) (Or.inr (by first | decide | exact ⟨by decide, by decide⟩)) ?_
        intro v10 lv10 uv10
        refine zwif_ne (q := 25) (nx := 22) (by decide +kernel) (fun c11 => ?_) (fun c11 => ?_)
        · refine zwW_p [(1, 0, 2)] (q := 26) (ls' := [(2, 37), (0, a), (0, kL2), w3L2, w4L2]) (st' := [(2, 37)]) (by decide +kernel) rfl ?_
          refine zwW_gc IhL2 (kd := 13) (bn := 94) (n := 97) (c := 364) (nx := 29) (by decide +kernel) ?_
          refine zwW_p [(1, 2, 0)] (q := 30) (ls' := [(2, 37), (0, a), (0, kL2), w3L2, w4L2]) (st' := [(0, kL2), (2, 364)]) (by decide +kernel) rfl ?_
          refine zwW_al IhL2 (a1 := 364) (a2 := 364) (kd := 20) (n := 8) (t := 0) (lo := 0) (hi := 19) (nx := 31) (by decide +kernel) (by first | decide | exact ⟨by decide, by decide⟩) (by first | omega | exact ⟨by omega, by omega⟩) ?_
          intro v12 ev12 lv12 uv12
          refine zwW_p [(2, 3, 0), (1, 0, 2)] (q := 33) (ls' := [(2, 37), (0, a), (0, kL2), (0, v12), w4L2]) (st' := [(2, 37)]) (by decide +kernel) rfl ?_
          refine zwW_gc IhL2 (kd := 13) (bn := 20) (n := 97) (c := 79) (nx := 36) (by decide +kernel) ?_
          refine zwW_p [(1, 3, 0)] (q := 37) (ls' := [(2, 37), (0, a), (0, kL2), (0, v12), w4L2]) (st' := [(0, v12), (2, 79)]) (by decide +kernel) rfl ?_
          refine zwW_al IhL2 (a1 := 79) (a2 := 79) (kd := 20) (n := 20) (t := 0) (lo := 0) (hi := 7) (nx := 38) (by decide +kernel) (by first | decide | exact ⟨by decide, by decide⟩) (by first | omega | exact ⟨by omega, by omega⟩) ?_
          intro v13 ev13 lv13 uv13
          refine zwW_p [(2, 4, 0), (1, 0, 2)] (q := 41) (ls' := [(2, 37), (0, a), (0, kL2), (0, v12), (0, v13)]) (st' := [(2, 37)]) (by decide +kernel) rfl ?_
          refine zwW_gc IhL2 (kd := 13) (bn := 95) (n := 97) (c := 365) (nx := 44) (by decide +kernel) ?_
          refine zwW_p [(1, 2, 0)] (q := 45) (ls' := [(2, 37), (0, a), (0, kL2), (0, v12), (0, v13)]) (st' := [(0, kL2), (2, 365)]) (by decide +kernel) rfl ?_
          refine zwW_al IhL2 (a1 := 365) (a2 := 365) (kd := 20) (n := 8) (t := 0) (lo := 0) (hi := 2) (nx := 46) (by decide +kernel) (by first | decide | exact ⟨by decide, by decide⟩) (by first | omega | exact ⟨by omega, by omega⟩) ?_
          intro v14 ev14 lv14 uv14
          refine zwif_ne (q := 69) (nx := 49) (by decide +kernel) (fun c15 => ?_) (fun c15 => ?_)
          · refine zwW_p [(1, 0, 2)] (q := 70) (ls' := [(2, 37), (0, a), (0, kL2), (0, v12), (0, v13)]) (st' := [(2, 37)]) (by decide +kernel) rfl ?_
            refine zwW_gc IhL2 (kd := 13) (bn := 95) (n := 97) (c := 365) (nx := 73) (by decide +kernel) ?_
            refine zwW_p [(1, 2, 0)] (q := 74) (ls' := [(2, 37), (0, a), (0, kL2), (0, v12), (0, v13)]) (st' := [(0, kL2), (2, 365)]) (by decide +kernel) rfl ?_
            refine zwW_al IhL2 (a1 := 365) (a2 := 365) (kd := 20) (n := 8) (t := 0) (lo := 0) (hi := 2) (nx := 75) (by decide +kernel) (by first | decide | exact ⟨by decide, by decide⟩) (by first | omega | exact ⟨by omega, by omega⟩) ?_
            intro v16 ev16 lv16 uv16
            refine zwW_p [(0, 1, 0)] (q := 76) (ls' := [(2, 37), (0, a), (0, kL2), (0, v12), (0, v13)]) (st' := [(0, 1), (0, v16)]) (by decide +kernel) rfl ?_
            refine zwic_ne (q := 100) (nx := 79) (by decide +kernel) (fun c17 => ?_) (fun c17 => ?_)
            · refine zwW_p [(1, 0, 2)] (q := 101) (ls' := [(2, 37), (0, a), (0, kL2), (0, v12), (0, v13)]) (st' := [(2, 37)]) (by decide +kernel) rfl ?_
              refine zwW_gc IhL2 (kd := 13) (bn := 95) (n := 97) (c := 365) (nx := 104) (by decide +kernel) ?_
              refine zwW_p [(1, 2, 0)] (q := 105) (ls' := [(2, 37), (0, a), (0, kL2), (0, v12), (0, v13)]) (st' := [(0, kL2), (2, 365)]) (by decide +kernel) rfl ?_
              refine zwW_al IhL2 (a1 := 365) (a2 := 365) (kd := 20) (n := 8) (t := 0) (lo := 0) (hi := 2) (nx := 106) (by decide +kernel) (by first | decide | exact ⟨by decide, by decide⟩) (by first | omega | exact ⟨by omega, by omega⟩) ?_
              intro v18 ev18 lv18 uv18
              refine zwW_p [(0, 2, 0)] (q := 107) (ls' := [(2, 37), (0, a), (0, kL2), (0, v12), (0, v13)]) (st' := [(0, 2), (0, v18)]) (by decide +kernel) rfl ?_
              refine zwic_ne (q := 147) (nx := 110) (by decide +kernel) (fun c19 => ?_) (fun c19 => ?_)
              · refine zwW_inc (i := 2) (c := 1) (x := kL2) (nx := 150) (by decide +kernel) rfl (by first | omega | exact ⟨by omega, by omega⟩) (ls' := [(2, 37), (0, a), (0, (kL2 + 1)), (0, v12), (0, v13)]) rfl ?_
                refine zwW_p [(24, 6, 0)] (q := 6) (ls' := [(2, 37), (0, a), (0, (kL2 + 1)), (0, v12), (0, v13)]) (st' := []) (by decide +kernel) rfl ?_
                exact IHL2 ((100 - (kL2 + 1))).toNat (by omega) (kL2 + 1) (0, v12) (0, v13) hL2 rfl (by omega) IhL2 RhL2
              · refine zwW_p [(1, 0, 2)] (q := 111) (ls' := [(2, 37), (0, a), (0, kL2), (0, v12), (0, v13)]) (st' := [(2, 37)]) (by decide +kernel) rfl ?_
                refine zwW_gc IhL2 (kd := 13) (bn := 66) (n := 97) (c := 177) (nx := 114) (by decide +kernel) ?_
                refine zwW_p [(1, 4, 0), (1, 0, 2)] (q := 117) (ls' := [(2, 37), (0, a), (0, kL2), (0, v12), (0, v13)]) (st' := [(2, 37), (0, v13), (2, 177)]) (by decide +kernel) rfl ?_
                refine zwW_gc IhL2 (kd := 13) (bn := 66) (n := 97) (c := 177) (nx := 120) (by decide +kernel) ?_
                refine zwW_p [(1, 4, 0)] (q := 122) (ls' := [(2, 37), (0, a), (0, kL2), (0, v12), (0, v13)]) (st' := [(0, v13), (2, 177), (0, v13), (2, 177)]) (by decide +kernel) rfl ?_
                refine zwW_al IhL2 (a1 := 177) (a2 := 177) (kd := 20) (n := 8) (t := 0) (lo := -2147483648) (hi := 2147483647) (nx := 123) (by decide +kernel) (by first | decide | exact ⟨by decide, by decide⟩) (by first | omega | exact ⟨by omega, by omega⟩) ?_
                intro v20 ev20 lv20 uv20
                refine zwW_p [(0, 5, 0)] (q := 124) (ls' := [(2, 37), (0, a), (0, kL2), (0, v12), (0, v13)]) (st' := [(0, 5), (0, v20), (0, v13), (2, 177)]) (by decide +kernel) rfl ?_
                refine zwW_adw (nx := 125) (by decide +kernel) ?_
                intro v21 ev21 lv21 uv21
                refine zwW_p [(0, 9999, 0)] (q := 128) (ls' := [(2, 37), (0, a), (0, kL2), (0, v12), (0, v13)]) (st' := [(0, 9999), (0, v21), (0, v13), (2, 177)]) (by decide +kernel) rfl ?_
                refine zwic_le (q := 137) (nx := 131) (by decide +kernel) (fun c22 => ?_) (fun c22 => ?_)
                · refine zwW_p [(1, 0, 2)] (q := 138) (ls' := [(2, 37), (0, a), (0, kL2), (0, v12), (0, v13)]) (st' := [(2, 37), (0, v13), (2, 177)]) (by decide +kernel) rfl ?_
                  refine zwW_gc IhL2 (kd := 13) (bn := 66) (n := 97) (c := 177) (nx := 141) (by decide +kernel) ?_
                  refine zwW_p [(1, 4, 0)] (q := 143) (ls' := [(2, 37), (0, a), (0, kL2), (0, v12), (0, v13)]) (st' := [(0, v13), (2, 177), (0, v13), (2, 177)]) (by decide +kernel) rfl ?_
                  refine zwW_al IhL2 (a1 := 177) (a2 := 177) (kd := 20) (n := 8) (t := 0) (lo := -2147483648) (hi := 2147483647) (nx := 144) (by decide +kernel) (by first | decide | exact ⟨by decide, by decide⟩) (by first | omega | exact ⟨by omega, by omega⟩) ?_
                  intro v23 ev23 lv23 uv23
                  refine zwW_p [(0, 5, 0)] (q := 145) (ls' := [(2, 37), (0, a), (0, kL2), (0, v12), (0, v13)]) (st' := [(0, 5), (0, v23), (0, v13), (2, 177)]) (by decide +kernel) rfl ?_
                  refine zwW_adw (nx := 146) (by decide +kernel) ?_
                  intro v24 ev24 lv24 uv24
                  refine zwW_as IhL2 (a1 := 177) (a2 := 177) (n := 8) (lo := -2147483648) (hi := 2147483647) (nx := 147) (by decide +kernel) (by first | decide | exact ⟨by decide, by decide⟩) (by first | omega | exact ⟨by omega, by omega⟩) (by first | omega | exact ⟨by omega, by omega⟩) ?_
                  intro h25 eh25 Ih25
                  have Rh25 : zMR ms164 h h25 := RhL2.w (a1 := 177) (a2 := 177) (j1 := 0) (j2 := 8) (by decide +kernel) (by first | decide | exact ⟨by decide, by decide⟩) (by first | omega | exact ⟨by omega, by omega⟩) eh25
                  refine zwW_inc (i := 2) (c := 1) (x := kL2) (nx := 150) (by decide +kernel) rfl (by first | omega | exact ⟨by omega, by omega⟩) (ls' := [(2, 37), (0, a), (0, (kL2 + 1)), (0, v12), (0, v13)]) rfl ?_
                  refine zwW_p [(24, 6, 0)] (q := 6) (ls' := [(2, 37), (0, a), (0, (kL2 + 1)), (0, v12), (0, v13)]) (st' := []) (by decide +kernel) rfl ?_
                  exact IHL2 ((100 - (kL2 + 1))).toNat (by omega) (kL2 + 1) (0, v12) (0, v13) h25 rfl (by omega) Ih25 Rh25
                · refine zwW_p [(0, 9999, 0), (24, 146, 0)] (q := 146) (ls' := [(2, 37), (0, a), (0, kL2), (0, v12), (0, v13)]) (st' := [(0, 9999), (0, v13), (2, 177)]) (by decide +kernel) rfl ?_
                  refine zwW_as IhL2 (a1 := 177) (a2 := 177) (n := 8) (lo := -2147483648) (hi := 2147483647) (nx := 147) (by decide +kernel) (by first | decide | exact ⟨by decide, by decide⟩) (by first | omega | exact ⟨by omega, by omega⟩) (by first | decide | exact ⟨by decide, by decide⟩) ?_
                  intro h26 eh26 Ih26
                  have Rh26 : zMR ms164 h h26 := RhL2.w (a1 := 177) (a2 := 177) (j1 := 0) (j2 := 8) (by decide +kernel) (by first | decide | exact ⟨by decide, by decide⟩) (by first | omega | exact ⟨by omega, by omega⟩) eh26
                  refine zwW_inc (i := 2) (c := 1) (x := kL2) (nx := 150) (by decide +kernel) rfl (by first | omega | exact ⟨by omega, by omega⟩) (ls' := [(2, 37), (0, a), (0, (kL2 + 1)), (0, v12), (0, v13)]) rfl ?_
                  refine zwW_p [(24, 6, 0)] (q := 6) (ls' := [(2, 37), (0, a), (0, (kL2 + 1)), (0, v12), (0, v13)]) (st' := []) (by decide +kernel) rfl ?_
                  exact IHL2 ((100 - (kL2 + 1))).toNat (by omega) (kL2 + 1) (0, v12) (0, v13) h26 rfl (by omega) Ih26 Rh26
            · refine zwW_p [(1, 0, 2)] (q := 80) (ls' := [(2, 37), (0, a), (0, kL2), (0, v12), (0, v13)]) (st' := [(2, 37)]) (by decide +kernel) rfl ?_
              refine zwW_gc IhL2 (kd := 13) (bn := 68) (n := 97) (c := 179) (nx := 83) (by decide +kernel) ?_
              refine zwW_p [(1, 3, 0)] (q := 84) (ls' := [(2, 37), (0, a), (0, kL2), (0, v12), (0, v13)]) (st' := [(0, v12), (2, 179)]) (by decide +kernel) rfl ?_
              refine zwW_al IhL2 (a1 := 179) (a2 := 179) (kd := 20) (n := 20) (t := 0) (lo := 0) (hi := 9) (nx := 85) (by decide +kernel) (by first | decide | exact ⟨by decide, by decide⟩) (by first | omega | exact ⟨by omega, by omega⟩) ?_
              intro v27 ev27 lv27 uv27
              refine zwW_p [(0, 9, 0)] (q := 87) (ls' := [(2, 37), (0, a), (0, kL2), (0, v12), (0, v13)]) (st' := [(0, 9), (0, v27)]) (by decide +kernel) rfl ?_
              refine zwic_ge (q := 100) (nx := 90) (by decide +kernel) (fun c28 => ?_) (fun c28 => ?_)
              · refine zwW_p [(1, 0, 2)] (q := 101) (ls' := [(2, 37), (0, a), (0, kL2), (0, v12), (0, v13)]) (st' := [(2, 37)]) (by decide +kernel) rfl ?_
                refine zwW_gc IhL2 (kd := 13) (bn := 95) (n := 97) (c := 365) (nx := 104) (by decide +kernel) ?_
                refine zwW_p [(1, 2, 0)] (q := 105) (ls' := [(2, 37), (0, a), (0, kL2), (0, v12), (0, v13)]) (st' := [(0, kL2), (2, 365)]) (by decide +kernel) rfl ?_
                refine zwW_al IhL2 (a1 := 365) (a2 := 365) (kd := 20) (n := 8) (t := 0) (lo := 0) (hi := 2) (nx := 106) (by decide +kernel) (by first | decide | exact ⟨by decide, by decide⟩) (by first | omega | exact ⟨by omega, by omega⟩) ?_
                intro v29 ev29 lv29 uv29
                refine zwW_p [(0, 2, 0)] (q := 107) (ls' := [(2, 37), (0, a), (0, kL2), (0, v12), (0, v13)]) (st' := [(0, 2), (0, v29)]) (by decide +kernel) rfl ?_
                refine zwic_ne (q := 147) (nx := 110) (by decide +kernel) (fun c30 => ?_) (fun c30 => ?_)
                · refine zwW_inc (i := 2) (c := 1) (x := kL2) (nx := 150) (by decide +kernel) rfl (by first | omega | exact ⟨by omega, by omega⟩) (ls' := [(2, 37), (0, a), (0, (kL2 + 1)), (0, v12), (0, v13)]) rfl ?_
                  refine zwW_p [(24, 6, 0)] (q := 6) (ls' := [(2, 37), (0, a), (0, (kL2 + 1)), (0, v12), (0, v13)]) (st' := []) (by decide +kernel) rfl ?_
                  exact IHL2 ((100 - (kL2 + 1))).toNat (by omega) (kL2 + 1) (0, v12) (0, v13) hL2 rfl (by omega) IhL2 RhL2
                · refine zwW_p [(1, 0, 2)] (q := 111) (ls' := [(2, 37), (0, a), (0, kL2), (0, v12), (0, v13)]) (st' := [(2, 37)]) (by decide +kernel) rfl ?_
                  refine zwW_gc IhL2 (kd := 13) (bn := 66) (n := 97) (c := 177) (nx := 114) (by decide +kernel) ?_
                  refine zwW_p [(1, 4, 0), (1, 0, 2)] (q := 117) (ls' := [(2, 37), (0, a), (0, kL2), (0, v12), (0, v13)]) (st' := [(2, 37), (0, v13), (2, 177)]) (by decide +kernel) rfl ?_
                  refine zwW_gc IhL2 (kd := 13) (bn := 66) (n := 97) (c := 177) (nx := 120) (by decide +kernel) ?_
                  refine zwW_p [(1, 4, 0)] (q := 122) (ls' := [(2, 37), (0, a), (0, kL2), (0, v12), (0, v13)]) (st' := [(0, v13), (2, 177), (0, v13), (2, 177)]) (by decide +kernel) rfl ?_
                  refine zwW_al IhL2 (a1 := 177) (a2 := 177) (kd := 20) (n := 8) (t := 0) (lo := -2147483648) (hi := 2147483647) (nx := 123) (by decide +kernel) (by first | decide | exact ⟨by decide, by decide⟩) (by first | omega | exact ⟨by omega, by omega⟩) ?_
                  intro v31 ev31 lv31 uv31
                  refine zwW_p [(0, 5, 0)] (q := 124) (ls' := [(2, 37), (0, a), (0, kL2), (0, v12), (0, v13)]) (st' := [(0, 5), (0, v31), (0, v13), (2, 177)]) (by decide +kernel) rfl ?_
                  refine zwW_adw (nx := 125) (by decide +kernel) ?_
                  intro v32 ev32 lv32 uv32
                  refine zwW_p [(0, 9999, 0)] (q := 128) (ls' := [(2, 37), (0, a), (0, kL2), (0, v12), (0, v13)]) (st' := [(0, 9999), (0, v32), (0, v13), (2, 177)]) (by decide +kernel) rfl ?_
                  refine zwic_le (q := 137) (nx := 131) (by decide +kernel) (fun c33 => ?_) (fun c33 => ?_)
                  · refine zwW_p [(1, 0, 2)] (q := 138) (ls' := [(2, 37), (0, a), (0, kL2), (0, v12), (0, v13)]) (st' := [(2, 37), (0, v13), (2, 177)]) (by decide +kernel) rfl ?_
                    refine zwW_gc IhL2 (kd := 13) (bn := 66) (n := 97) (c := 177) (nx := 141) (by decide +kernel) ?_
                    refine zwW_p [(1, 4, 0)] (q := 143) (ls' := [(2, 37), (0, a), (0, kL2), (0, v12), (0, v13)]) (st' := [(0, v13), (2, 177), (0, v13), (2, 177)]) (by decide +kernel) rfl ?_
                    refine zwW_al IhL2 (a1 := 177) (a2 := 177) (kd := 20) (n := 8) (t := 0) (lo := -2147483648) (hi := 2147483647) (nx := 144) (by decide +kernel) (by first | decide | exact ⟨by decide, by decide⟩) (by first | omega | exact ⟨by omega, by omega⟩) ?_
                    intro v34 ev34 lv34 uv34
                    refine zwW_p [(0, 5, 0)] (q := 145) (ls' := [(2, 37), (0, a), (0, kL2), (0, v12), (0, v13)]) (st' := [(0, 5), (0, v34), (0, v13), (2, 177)]) (by decide +kernel) rfl ?_
                    refine zwW_adw (nx := 146) (by decide +kernel) ?_
                    intro v35 ev35 lv35 uv35
                    refine zwW_as IhL2 (a1 := 177) (a2 := 177) (n := 8) (lo := -2147483648) (hi := 2147483647) (nx := 147) (by decide +kernel) (by first | decide | exact ⟨by decide, by decide⟩) (by first | omega | exact ⟨by omega, by omega⟩) (by first | omega | exact ⟨by omega, by omega⟩) ?_
                    intro h36 eh36 Ih36
                    have Rh36 : zMR ms164 h h36 := RhL2.w (a1 := 177) (a2 := 177) (j1 := 0) (j2 := 8) (by decide +kernel) (by first | decide | exact ⟨by decide, by decide⟩) (by first | omega | exact ⟨by omega, by omega⟩) eh36
                    refine zwW_inc (i := 2) (c := 1) (x := kL2) (nx := 150) (by decide +kernel) rfl (by first | omega | exact ⟨by omega, by omega⟩) (ls' := [(2, 37), (0, a), (0, (kL2 + 1)), (0, v12), (0, v13)]) rfl ?_
                    refine zwW_p [(24, 6, 0)] (q := 6) (ls' := [(2, 37), (0, a), (0, (kL2 + 1)), (0, v12), (0, v13)]) (st' := []) (by decide +kernel) rfl ?_
                    exact IHL2 ((100 - (kL2 + 1))).toNat (by omega) (kL2 + 1) (0, v12) (0, v13) h36 rfl (by omega) Ih36 Rh36
                  · refine zwW_p [(0, 9999, 0), (24, 146, 0)] (q := 146) (ls' := [(2, 37), (0, a), (0, kL2), (0, v12), (0, v13)]) (st' := [(0, 9999), (0, v13), (2, 177)]) (by decide +kernel) rfl ?_
                    refine zwW_as IhL2 (a1 := 177) (a2 := 177) (n := 8) (lo := -2147483648) (hi := 2147483647) (nx := 147) (by decide +kernel) (by first | decide | exact ⟨by decide, by decide⟩) (by first | omega | exact ⟨by omega, by omega⟩) (by first | decide | exact ⟨by decide, by decide⟩) ?_
                    intro h37 eh37 Ih37
                    have Rh37 : zMR ms164 h h37 := RhL2.w (a1 := 177) (a2 := 177) (j1 := 0) (j2 := 8) (by decide +kernel) (by first | decide | exact ⟨by decide, by decide⟩) (by first | omega | exact ⟨by omega, by omega⟩) eh37
                    refine zwW_inc (i := 2) (c := 1) (x := kL2) (nx := 150) (by decide +kernel) rfl (by first | omega | exact ⟨by omega, by omega⟩) (ls' := [(2, 37), (0, a), (0, (kL2 + 1)), (0, v12), (0, v13)]) rfl ?_
                    refine zwW_p [(24, 6, 0)] (q := 6) (ls' := [(2, 37), (0, a), (0, (kL2 + 1)), (0, v12), (0, v13)]) (st' := []) (by decide +kernel) rfl ?_
                    exact IHL2 ((100 - (kL2 + 1))).toNat (by omega) (kL2 + 1) (0, v12) (0, v13) h37 rfl (by omega) Ih37 Rh37
              · refine zwW_p [(1, 0, 2)] (q := 91) (ls' := [(2, 37), (0, a), (0, kL2), (0, v12), (0, v13)]) (st' := [(2, 37)]) (by decide +kernel) rfl ?_
                refine zwW_gc IhL2 (kd := 13) (bn := 68) (n := 97) (c := 179) (nx := 94) (by decide +kernel) ?_
                refine zwW_p [(1, 3, 0), (14, 0, 0)] (q := 96) (ls' := [(2, 37), (0, a), (0, kL2), (0, v12), (0, v13)]) (st' := [(0, v12), (2, 179), (0, v12), (2, 179)]) (by decide +kernel) rfl ?_
                refine zwW_al IhL2 (a1 := 179) (a2 := 179) (kd := 20) (n := 20) (t := 0) (lo := 0) (hi := 9) (nx := 97) (by decide +kernel) (by first | decide | exact ⟨by decide, by decide⟩) (by first | omega | exact ⟨by omega, by omega⟩) ?_
                intro v38 ev38 lv38 uv38
                refine zwW_p [(0, 1, 0)] (q := 98) (ls' := [(2, 37), (0, a), (0, kL2), (0, v12), (0, v13)]) (st' := [(0, 1), (0, v38), (0, v12), (2, 179)]) (by decide +kernel) rfl ?_
                refine zwW_add (nx := 99) (by decide +kernel) (by first | omega | exact ⟨by omega, by omega⟩) ?_
                refine zwW_as IhL2 (a1 := 179) (a2 := 179) (n := 20) (lo := 0) (hi := 9) (nx := 100) (by decide +kernel) (by first | decide | exact ⟨by decide, by decide⟩) (by first | omega | exact ⟨by omega, by omega⟩) (by first | omega | exact ⟨by omega, by omega⟩) ?_
                intro h39 eh39 Ih39
                have Rh39 : zMR ms164 h h39 := RhL2.w (a1 := 179) (a2 := 179) (j1 := 0) (j2 := 20) (by decide +kernel) (by first | decide | exact ⟨by decide, by decide⟩) (by first | omega | exact ⟨by omega, by omega⟩) eh39
                refine zwW_p [(1, 0, 2)] (q := 101) (ls' := [(2, 37), (0, a), (0, kL2), (0, v12), (0, v13)]) (st' := [(2, 37)]) (by decide +kernel) rfl ?_
                refine zwW_gc Ih39 (kd := 13) (bn := 95) (n := 97) (c := 365) (nx := 104) (by decide +kernel) ?_
                refine zwW_p [(1, 2, 0)] (q := 105) (ls' := [(2, 37), (0, a), (0, kL2), (0, v12), (0, v13)]) (st' := [(0, kL2), (2, 365)]) (by decide +kernel) rfl ?_
                refine zwW_al Ih39 (a1 := 365) (a2 := 365) (kd := 20) (n := 8) (t := 0) (lo := 0) (hi := 2) (nx := 106) (by decide +kernel) (by first | decide | exact ⟨by decide, by decide⟩) (by first | omega | exact ⟨by omega, by omega⟩) ?_
                intro v40 ev40 lv40 uv40
                refine zwW_p [(0, 2, 0)] (q := 107) (ls' := [(2, 37), (0, a), (0, kL2), (0, v12), (0, v13)]) (st' := [(0, 2), (0, v40)]) (by decide +kernel) rfl ?_
                refine zwic_ne (q := 147) (nx := 110) (by decide +kernel) (fun c41 => ?_) (fun c41 => ?_)
                · refine zwW_inc (i := 2) (c := 1) (x := kL2) (nx := 150) (by decide +kernel) rfl (by first | omega | exact ⟨by omega, by omega⟩) (ls' := [(2, 37), (0, a), (0, (kL2 + 1)), (0, v12), (0, v13)]) rfl ?_
                  refine zwW_p [(24, 6, 0)] (q := 6) (ls' := [(2, 37), (0, a), (0, (kL2 + 1)), (0, v12), (0, v13)]) (st' := []) (by decide +kernel) rfl ?_
                  exact IHL2 ((100 - (kL2 + 1))).toNat (by omega) (kL2 + 1) (0, v12) (0, v13) h39 rfl (by omega) Ih39 Rh39
                · refine zwW_p [(1, 0, 2)] (q := 111) (ls' := [(2, 37), (0, a), (0, kL2), (0, v12), (0, v13)]) (st' := [(2, 37)]) (by decide +kernel) rfl ?_
                  refine zwW_gc Ih39 (kd := 13) (bn := 66) (n := 97) (c := 177) (nx := 114) (by decide +kernel) ?_
                  refine zwW_p [(1, 4, 0), (1, 0, 2)] (q := 117) (ls' := [(2, 37), (0, a), (0, kL2), (0, v12), (0, v13)]) (st' := [(2, 37), (0, v13), (2, 177)]) (by decide +kernel) rfl ?_
                  refine zwW_gc Ih39 (kd := 13) (bn := 66) (n := 97) (c := 177) (nx := 120) (by decide +kernel) ?_
                  refine zwW_p [(1, 4, 0)] (q := 122) (ls' := [(2, 37), (0, a), (0, kL2), (0, v12), (0, v13)]) (st' := [(0, v13), (2, 177), (0, v13), (2, 177)]) (by decide +kernel) rfl ?_
                  refine zwW_al Ih39 (a1 := 177) (a2 := 177) (kd := 20) (n := 8) (t := 0) (lo := -2147483648) (hi := 2147483647) (nx := 123) (by decide +kernel) (by first | decide | exact ⟨by decide, by decide⟩) (by first | omega | exact ⟨by omega, by omega⟩) ?_
                  intro v42 ev42 lv42 uv42
                  refine zwW_p [(0, 5, 0)] (q := 124) (ls' := [(2, 37), (0, a), (0, kL2), (0, v12), (0, v13)]) (st' := [(0, 5), (0, v42), (0, v13), (2, 177)]) (by decide +kernel) rfl ?_
                  refine zwW_adw (nx := 125) (by decide +kernel) ?_
                  intro v43 ev43 lv43 uv43
                  refine zwW_p [(0, 9999, 0)] (q := 128) (ls' := [(2, 37), (0, a), (0, kL2), (0, v12), (0, v13)]) (st' := [(0, 9999), (0, v43), (0, v13), (2, 177)]) (by decide +kernel) rfl ?_
                  refine zwic_le (q := 137) (nx := 131) (by decide +kernel) (fun c44 => ?_) (fun c44 => ?_)
                  · refine zwW_p [(1, 0, 2)] (q := 138) (ls' := [(2, 37), (0, a), (0, kL2), (0, v12), (0, v13)]) (st' := [(2, 37), (0, v13), (2, 177)]) (by decide +kernel) rfl ?_
                    refine zwW_gc Ih39 (kd := 13) (bn := 66) (n := 97) (c := 177) (nx := 141) (by decide +kernel) ?_
                    refine zwW_p [(1, 4, 0)] (q := 143) (ls' := [(2, 37), (0, a), (0, kL2), (0, v12), (0, v13)]) (st' := [(0, v13), (2, 177), (0, v13), (2, 177)]) (by decide +kernel) rfl ?_
                    refine zwW_al Ih39 (a1 := 177) (a2 := 177) (kd := 20) (n := 8) (t := 0) (lo := -2147483648) (hi := 2147483647) (nx := 144) (by decide +kernel) (by first | decide | exact ⟨by decide, by decide⟩) (by first | omega | exact ⟨by omega, by omega⟩) ?_
                    intro v45 ev45 lv45 uv45
                    refine zwW_p [(0, 5, 0)] (q := 145) (ls' := [(2, 37), (0, a), (0, kL2), (0, v12), (0, v13)]) (st' := [(0, 5), (0, v45), (0, v13), (2, 177)]) (by decide +kernel) rfl ?_
                    refine zwW_adw (nx := 146) (by decide +kernel) ?_
                    intro v46 ev46 lv46 uv46
                    refine zwW_as Ih39 (a1 := 177) (a2 := 177) (n := 8) (lo := -2147483648) (hi := 2147483647) (nx := 147) (by decide +kernel) (by first | decide | exact ⟨by decide, by decide⟩) (by first | omega | exact ⟨by omega, by omega⟩) (by first | omega | exact ⟨by omega, by omega⟩) ?_
                    intro h47 eh47 Ih47
                    have Rh47 : zMR ms164 h h47 := Rh39.w (a1 := 177) (a2 := 177) (j1 := 0) (j2 := 8) (by decide +kernel) (by first | decide | exact ⟨by decide, by decide⟩) (by first | omega | exact ⟨by omega, by omega⟩) eh47
                    refine zwW_inc (i := 2) (c := 1) (x := kL2) (nx := 150) (by decide +kernel) rfl (by first | omega | exact ⟨by omega, by omega⟩) (ls' := [(2, 37), (0, a), (0, (kL2 + 1)), (0, v12), (0, v13)]) rfl ?_
                    refine zwW_p [(24, 6, 0)] (q := 6) (ls' := [(2, 37), (0, a), (0, (kL2 + 1)), (0, v12), (0, v13)]) (st' := []) (by decide +kernel) rfl ?_
                    exact IHL2 ((100 - (kL2 + 1))).toNat (by omega) (kL2 + 1) (0, v12) (0, v13) h47 rfl (by omega) Ih47 Rh47
                  · refine zwW_p [(0, 9999, 0), (24, 146, 0)] (q := 146) (ls' := [(2, 37), (0, a), (0, kL2), (0, v12), (0, v13)]) (st' := [(0, 9999), (0, v13), (2, 177)]) (by decide +kernel) rfl ?_
                    refine zwW_as Ih39 (a1 := 177) (a2 := 177) (n := 8) (lo := -2147483648) (hi := 2147483647) (nx := 147) (by decide +kernel) (by first | decide | exact ⟨by decide, by decide⟩) (by first | omega | exact ⟨by omega, by omega⟩) (by first | decide | exact ⟨by decide, by decide⟩) ?_
                    intro h48 eh48 Ih48
                    have Rh48 : zMR ms164 h h48 := Rh39.w (a1 := 177) (a2 := 177) (j1 := 0) (j2 := 8) (by decide +kernel) (by first | decide | exact ⟨by decide, by decide⟩) (by first | omega | exact ⟨by omega, by omega⟩) eh48
                    refine zwW_inc (i := 2) (c := 1) (x := kL2) (nx := 150) (by decide +kernel) rfl (by first | omega | exact ⟨by omega, by omega⟩) (ls' := [(2, 37), (0, a), (0, (kL2 + 1)), (0, v12), (0, v13)]) rfl ?_
                    refine zwW_p [(24, 6, 0)] (q := 6) (ls' := [(2, 37), (0, a), (0, (kL2 + 1)), (0, v12), (0, v13)]) (st' := []) (by decide +kernel) rfl ?_
                    exact IHL2 ((100 - (kL2 + 1))).toNat (by omega) (kL2 + 1) (0, v12) (0, v13) h48 rfl (by omega) Ih48 Rh48
          · refine zwW_p [(1, 0, 2)] (q := 50) (ls' := [(2, 37), (0, a), (0, kL2), (0, v12), (0, v13)]) (st' := [(2, 37)]) (by decide +kernel) rfl ?_
            refine zwW_gc IhL2 (kd := 13) (bn := 67) (n := 97) (c := 178) (nx := 53) (by decide +kernel) ?_
            refine zwW_p [(1, 3, 0)] (q := 54) (ls' := [(2, 37), (0, a), (0, kL2), (0, v12), (0, v13)]) (st' := [(0, v12), (2, 178)]) (by decide +kernel) rfl ?_
            refine zwW_al IhL2 (a1 := 178) (a2 := 178) (kd := 20) (n := 20) (t := 0) (lo := 0) (hi := 5) (nx := 55) (by decide +kernel) (by first | decide | exact ⟨by decide, by decide⟩) (by first | omega | exact ⟨by omega, by omega⟩) ?_
            intro v49 ev49 lv49 uv49
            refine zwW_p [(0, 5, 0)] (q := 56) (ls' := [(2, 37), (0, a), (0, kL2), (0, v12), (0, v13)]) (st' := [(0, 5), (0, v49)]) (by decide +kernel) rfl ?_
            refine zwic_ge (q := 69) (nx := 59) (by decide +kernel) (fun c50 => ?_) (fun c50 => ?_)
            · refine zwW_p [(1, 0, 2)] (q := 70) (ls' := [(2, 37), (0, a), (0, kL2), (0, v12), (0, v13)]) (st' := [(2, 37)]) (by decide +kernel) rfl ?_
              refine zwW_gc IhL2 (kd := 13) (bn := 95) (n := 97) (c := 365) (nx := 73) (by decide +kernel) ?_
              refine zwW_p [(1, 2, 0)] (q := 74) (ls' := [(2, 37), (0, a), (0, kL2), (0, v12), (0, v13)]) (st' := [(0, kL2), (2, 365)]) (by decide +kernel) rfl ?_
              refine zwW_al IhL2 (a1 := 365) (a2 := 365) (kd := 20) (n := 8) (t := 0) (lo := 0) (hi := 2) (nx := 75) (by decide +kernel) (by first | decide | exact ⟨by decide, by decide⟩) (by first | omega | exact ⟨by omega, by omega⟩) ?_
              intro v51 ev51 lv51 uv51
              refine zwW_p [(0, 1, 0)] (q := 76) (ls' := [(2, 37), (0, a), (0, kL2), (0, v12), (0, v13)]) (st' := [(0, 1), (0, v51)]) (by decide +kernel) rfl ?_
              refine zwic_ne (q := 100) (nx := 79) (by decide +kernel) (fun c52 => ?_) (fun c52 => ?_)
              · refine zwW_p [(1, 0, 2)] (q := 101) (ls' := [(2, 37), (0, a), (0, kL2), (0, v12), (0, v13)]) (st' := [(2, 37)]) (by decide +kernel) rfl ?_
                refine zwW_gc IhL2 (kd := 13) (bn := 95) (n := 97) (c := 365) (nx := 104) (by decide +kernel) ?_
                refine zwW_p [(1, 2, 0)] (q := 105) (ls' := [(2, 37), (0, a), (0, kL2), (0, v12), (0, v13)]) (st' := [(0, kL2), (2, 365)]) (by decide +kernel) rfl ?_
                refine zwW_al IhL2 (a1 := 365) (a2 := 365) (kd := 20) (n := 8) (t := 0) (lo := 0) (hi := 2) (nx := 106) (by decide +kernel) (by first | decide | exact ⟨by decide, by decide⟩) (by first | omega | exact ⟨by omega, by omega⟩) ?_
                intro v53 ev53 lv53 uv53
                refine zwW_p [(0, 2, 0)] (q := 107) (ls' := [(2, 37), (0, a), (0, kL2), (0, v12), (0, v13)]) (st' := [(0, 2), (0, v53)]) (by decide +kernel) rfl ?_
                refine zwic_ne (q := 147) (nx := 110) (by decide +kernel) (fun c54 => ?_) (fun c54 => ?_)
                · refine zwW_inc (i := 2) (c := 1) (x := kL2) (nx := 150) (by decide +kernel) rfl (by first | omega | exact ⟨by omega, by omega⟩) (ls' := [(2, 37), (0, a), (0, (kL2 + 1)), (0, v12), (0, v13)]) rfl ?_
                  refine zwW_p [(24, 6, 0)] (q := 6) (ls' := [(2, 37), (0, a), (0, (kL2 + 1)), (0, v12), (0, v13)]) (st' := []) (by decide +kernel) rfl ?_
                  exact IHL2 ((100 - (kL2 + 1))).toNat (by omega) (kL2 + 1) (0, v12) (0, v13) hL2 rfl (by omega) IhL2 RhL2
                · refine zwW_p [(1, 0, 2)] (q := 111) (ls' := [(2, 37), (0, a), (0, kL2), (0, v12), (0, v13)]) (st' := [(2, 37)]) (by decide +kernel) rfl ?_
                  refine zwW_gc IhL2 (kd := 13) (bn := 66) (n := 97) (c := 177) (nx := 114) (by decide +kernel) ?_
                  refine zwW_p [(1, 4, 0), (1, 0, 2)] (q := 117) (ls' := [(2, 37), (0, a), (0, kL2), (0, v12), (0, v13)]) (st' := [(2, 37), (0, v13), (2, 177)]) (by decide +kernel) rfl ?_
                  refine zwW_gc IhL2 (kd := 13) (bn := 66) (n := 97) (c := 177) (nx := 120) (by decide +kernel) ?_
                  refine zwW_p [(1, 4, 0)] (q := 122) (ls' := [(2, 37), (0, a), (0, kL2), (0, v12), (0, v13)]) (st' := [(0, v13), (2, 177), (0, v13), (2, 177)]) (by decide +kernel) rfl ?_
                  refine zwW_al IhL2 (a1 := 177) (a2 := 177) (kd := 20) (n := 8) (t := 0) (lo := -2147483648) (hi := 2147483647) (nx := 123) (by decide +kernel) (by first | decide | exact ⟨by decide, by decide⟩) (by first | omega | exact ⟨by omega, by omega⟩) ?_
                  intro v55 ev55 lv55 uv55
                  refine zwW_p [(0, 5, 0)] (q := 124) (ls' := [(2, 37), (0, a), (0, kL2), (0, v12), (0, v13)]) (st' := [(0, 5), (0, v55), (0, v13), (2, 177)]) (by decide +kernel) rfl ?_
                  refine zwW_adw (nx := 125) (by decide +kernel) ?_
                  intro v56 ev56 lv56 uv56
                  refine zwW_p [(0, 9999, 0)] (q := 128) (ls' := [(2, 37), (0, a), (0, kL2), (0, v12), (0, v13)]) (st' := [(0, 9999), (0, v56), (0, v13), (2, 177)]) (by decide +kernel) rfl ?_
                  refine zwic_le (q := 137) (nx := 131) (by decide +kernel) (fun c57 => ?_) (fun c57 => ?_)
                  · refine zwW_p [(1, 0, 2)] (q := 138) (ls' := [(2, 37), (0, a), (0, kL2), (0, v12), (0, v13)]) (st' := [(2, 37), (0, v13), (2, 177)]) (by decide +kernel) rfl ?_
                    refine zwW_gc IhL2 (kd := 13) (bn := 66) (n := 97) (c := 177) (nx := 141) (by decide +kernel) ?_
                    refine zwW_p [(1, 4, 0)] (q := 143) (ls' := [(2, 37), (0, a), (0, kL2), (0, v12), (0, v13)]) (st' := [(0, v13), (2, 177), (0, v13), (2, 177)]) (by decide +kernel) rfl ?_
                    refine zwW_al IhL2 (a1 := 177) (a2 := 177) (kd := 20) (n := 8) (t := 0) (lo := -2147483648) (hi := 2147483647) (nx := 144) (by decide +kernel) (by first | decide | exact ⟨by decide, by decide⟩) (by first | omega | exact ⟨by omega, by omega⟩) ?_
                    intro v58 ev58 lv58 uv58
                    refine zwW_p [(0, 5, 0)] (q := 145) (ls' := [(2, 37), (0, a), (0, kL2), (0, v12), (0, v13)]) (st' := [(0, 5), (0, v58), (0, v13), (2, 177)]) (by decide +kernel) rfl ?_
                    refine zwW_adw (nx := 146) (by decide +kernel) ?_
                    intro v59 ev59 lv59 uv59
                    refine zwW_as IhL2 (a1 := 177) (a2 := 177) (n := 8) (lo := -2147483648) (hi := 2147483647) (nx := 147) (by decide +kernel) (by first | decide | exact ⟨by decide, by decide⟩) (by first | omega | exact ⟨by omega, by omega⟩) (by first | omega | exact ⟨by omega, by omega⟩) ?_
                    intro h60 eh60 Ih60
                    have Rh60 : zMR ms164 h h60 := RhL2.w (a1 := 177) (a2 := 177) (j1 := 0) (j2 := 8) (by decide +kernel) (by first | decide | exact ⟨by decide, by decide⟩) (by first | omega | exact ⟨by omega, by omega⟩) eh60
                    refine zwW_inc (i := 2) (c := 1) (x := kL2) (nx := 150) (by decide +kernel) rfl (by first | omega | exact ⟨by omega, by omega⟩) (ls' := [(2, 37), (0, a), (0, (kL2 + 1)), (0, v12), (0, v13)]) rfl ?_
                    refine zwW_p [(24, 6, 0)] (q := 6) (ls' := [(2, 37), (0, a), (0, (kL2 + 1)), (0, v12), (0, v13)]) (st' := []) (by decide +kernel) rfl ?_
                    exact IHL2 ((100 - (kL2 + 1))).toNat (by omega) (kL2 + 1) (0, v12) (0, v13) h60 rfl (by omega) Ih60 Rh60
                  · refine zwW_p [(0, 9999, 0), (24, 146, 0)] (q := 146) (ls' := [(2, 37), (0, a), (0, kL2), (0, v12), (0, v13)]) (st' := [(0, 9999), (0, v13), (2, 177)]) (by decide +kernel) rfl ?_
                    refine zwW_as IhL2 (a1 := 177) (a2 := 177) (n := 8) (lo := -2147483648) (hi := 2147483647) (nx := 147) (by decide +kernel) (by first | decide | exact ⟨by decide, by decide⟩) (by first | omega | exact ⟨by omega, by omega⟩) (by first | decide | exact ⟨by decide, by decide⟩) ?_
                    intro h61 eh61 Ih61
                    have Rh61 : zMR ms164 h h61 := RhL2.w (a1 := 177) (a2 := 177) (j1 := 0) (j2 := 8) (by decide +kernel) (by first | decide | exact ⟨by decide, by decide⟩) (by first | omega | exact ⟨by omega, by omega⟩) eh61
                    refine zwW_inc (i := 2) (c := 1) (x := kL2) (nx := 150) (by decide +kernel) rfl (by first | omega | exact ⟨by omega, by omega⟩) (ls' := [(2, 37), (0, a), (0, (kL2 + 1)), (0, v12), (0, v13)]) rfl ?_
                    refine zwW_p [(24, 6, 0)] (q := 6) (ls' := [(2, 37), (0, a), (0, (kL2 + 1)), (0, v12), (0, v13)]) (st' := []) (by decide +kernel) rfl ?_
                    exact IHL2 ((100 - (kL2 + 1))).toNat (by omega) (kL2 + 1) (0, v12) (0, v13) h61 rfl (by omega) Ih61 Rh61
              · refine zwW_p [(1, 0, 2)] (q := 80) (ls' := [(2, 37), (0, a), (0, kL2), (0, v12), (0, v13)]) (st' := [(2, 37)]) (by decide +kernel) rfl ?_
                refine zwW_gc IhL2 (kd := 13) (bn := 68) (n := 97) (c := 179) (nx := 83) (by decide +kernel) ?_
                refine zwW_p [(1, 3, 0)] (q := 84) (ls' := [(2, 37), (0, a), (0, kL2), (0, v12), (0, v13)]) (st' := [(0, v12), (2, 179)]) (by decide +kernel) rfl ?_
                refine zwW_al IhL2 (a1 := 179) (a2 := 179) (kd := 20) (n := 20) (t := 0) (lo := 0) (hi := 9) (nx := 85) (by decide +kernel) (by first | decide | exact ⟨by decide, by decide⟩) (by first | omega | exact ⟨by omega, by omega⟩) ?_
                intro v62 ev62 lv62 uv62
                refine zwW_p [(0, 9, 0)] (q := 87) (ls' := [(2, 37), (0, a), (0, kL2), (0, v12), (0, v13)]) (st' := [(0, 9), (0, v62)]) (by decide +kernel) rfl ?_
                refine zwic_ge (q := 100) (nx := 90) (by decide +kernel) (fun c63 => ?_) (fun c63 => ?_)
                · refine zwW_p [(1, 0, 2)] (q := 101) (ls' := [(2, 37), (0, a), (0, kL2), (0, v12), (0, v13)]) (st' := [(2, 37)]) (by decide +kernel) rfl ?_
                  refine zwW_gc IhL2 (kd := 13) (bn := 95) (n := 97) (c := 365) (nx := 104) (by decide +kernel) ?_
                  refine zwW_p [(1, 2, 0)] (q := 105) (ls' := [(2, 37), (0, a), (0, kL2), (0, v12), (0, v13)]) (st' := [(0, kL2), (2, 365)]) (by decide +kernel) rfl ?_
                  refine zwW_al IhL2 (a1 := 365) (a2 := 365) (kd := 20) (n := 8) (t := 0) (lo := 0) (hi := 2) (nx := 106) (by decide +kernel) (by first | decide | exact ⟨by decide, by decide⟩) (by first | omega | exact ⟨by omega, by omega⟩) ?_
                  intro v64 ev64 lv64 uv64
                  refine zwW_p [(0, 2, 0)] (q := 107) (ls' := [(2, 37), (0, a), (0, kL2), (0, v12), (0, v13)]) (st' := [(0, 2), (0, v64)]) (by decide +kernel) rfl ?_
                  refine zwic_ne (q := 147) (nx := 110) (by decide +kernel) (fun c65 => ?_) (fun c65 => ?_)
                  · refine zwW_inc (i := 2) (c := 1) (x := kL2) (nx := 150) (by decide +kernel) rfl (by first | omega | exact ⟨by omega, by omega⟩) (ls' := [(2, 37), (0, a), (0, (kL2 + 1)), (0, v12), (0, v13)]) rfl ?_
                    refine zwW_p [(24, 6, 0)] (q := 6) (ls' := [(2, 37), (0, a), (0, (kL2 + 1)), (0, v12), (0, v13)]) (st' := []) (by decide +kernel) rfl ?_
                    exact IHL2 ((100 - (kL2 + 1))).toNat (by omega) (kL2 + 1) (0, v12) (0, v13) hL2 rfl (by omega) IhL2 RhL2
                  · refine zwW_p [(1, 0, 2)] (q := 111) (ls' := [(2, 37), (0, a), (0, kL2), (0, v12), (0, v13)]) (st' := [(2, 37)]) (by decide +kernel) rfl ?_
                    refine zwW_gc IhL2 (kd := 13) (bn := 66) (n := 97) (c := 177) (nx := 114) (by decide +kernel) ?_
                    refine zwW_p [(1, 4, 0), (1, 0, 2)] (q := 117) (ls' := [(2, 37), (0, a), (0, kL2), (0, v12), (0, v13)]) (st' := [(2, 37), (0, v13), (2, 177)]) (by decide +kernel) rfl ?_
                    refine zwW_gc IhL2 (kd := 13) (bn := 66) (n := 97) (c := 177) (nx := 120) (by decide +kernel) ?_
                    refine zwW_p [(1, 4, 0)] (q := 122) (ls' := [(2, 37), (0, a), (0, kL2), (0, v12), (0, v13)]) (st' := [(0, v13), (2, 177), (0, v13), (2, 177)]) (by decide +kernel) rfl ?_
                    refine zwW_al IhL2 (a1 := 177) (a2 := 177) (kd := 20) (n := 8) (t := 0) (lo := -2147483648) (hi := 2147483647) (nx := 123) (by decide +kernel) (by first | decide | exact ⟨by decide, by decide⟩) (by first | omega | exact ⟨by omega, by omega⟩) ?_
                    intro v66 ev66 lv66 uv66
                    refine zwW_p [(0, 5, 0)] (q := 124) (ls' := [(2, 37), (0, a), (0, kL2), (0, v12), (0, v13)]) (st' := [(0, 5), (0, v66), (0, v13), (2, 177)]) (by decide +kernel) rfl ?_
                    refine zwW_adw (nx := 125) (by decide +kernel) ?_
                    intro v67 ev67 lv67 uv67
                    refine zwW_p [(0, 9999, 0)] (q := 128) (ls' := [(2, 37), (0, a), (0, kL2), (0, v12), (0, v13)]) (st' := [(0, 9999), (0, v67), (0, v13), (2, 177)]) (by decide +kernel) rfl ?_
                    refine zwic_le (q := 137) (nx := 131) (by decide +kernel) (fun c68 => ?_) (fun c68 => ?_)
                    · refine zwW_p [(1, 0, 2)] (q := 138) (ls' := [(2, 37), (0, a), (0, kL2), (0, v12), (0, v13)]) (st' := [(2, 37), (0, v13), (2, 177)]) (by decide +kernel) rfl ?_
                      refine zwW_gc IhL2 (kd := 13) (bn := 66) (n := 97) (c := 177) (nx := 141) (by decide +kernel) ?_
                      refine zwW_p [(1, 4, 0)] (q := 143) (ls' := [(2, 37), (0, a), (0, kL2), (0, v12), (0, v13)]) (st' := [(0, v13), (2, 177), (0, v13), (2, 177)]) (by decide +kernel) rfl ?_
                      refine zwW_al IhL2 (a1 := 177) (a2 := 177) (kd := 20) (n := 8) (t := 0) (lo := -2147483648) (hi := 2147483647) (nx := 144) (by decide +kernel) (by first | decide | exact ⟨by decide, by decide⟩) (by first | omega | exact ⟨by omega, by omega⟩) ?_
                      intro v69 ev69 lv69 uv69
                      refine zwW_p [(0, 5, 0)] (q := 145) (ls' := [(2, 37), (0, a), (0, kL2), (0, v12), (0, v13)]) (st' := [(0, 5), (0, v69), (0, v13), (2, 177)]) (by decide +kernel) rfl ?_
                      refine zwW_adw (nx := 146) (by decide +kernel) ?_
                      intro v70 ev70 lv70 uv70
                      refine zwW_as IhL2 (a1 := 177) (a2 := 177) (n := 8) (lo := -2147483648) (hi := 2147483647) (nx := 147) (by decide +kernel) (by first | decide | exact ⟨by decide, by decide⟩) (by first | omega | exact ⟨by omega, by omega⟩) (by first | omega | exact ⟨by omega, by omega⟩) ?_
                      intro h71 eh71 Ih71
                      have Rh71 : zMR ms164 h h71 := RhL2.w (a1 := 177) (a2 := 177) (j1 := 0) (j2 := 8) (by decide +kernel) (by first | decide | exact ⟨by decide, by decide⟩) (by first | omega | exact ⟨by omega, by omega⟩) eh71
                      refine zwW_inc (i := 2) (c := 1) (x := kL2) (nx := 150) (by decide +kernel) rfl (by first | omega | exact ⟨by omega, by omega⟩) (ls' := [(2, 37), (0, a), (0, (kL2 + 1)), (0, v12), (0, v13)]) rfl ?_
                      refine zwW_p [(24, 6, 0)] (q := 6) (ls' := [(2, 37), (0, a), (0, (kL2 + 1)), (0, v12), (0, v13)]) (st' := []) (by decide +kernel) rfl ?_
                      exact IHL2 ((100 - (kL2 + 1))).toNat (by omega) (kL2 + 1) (0, v12) (0, v13) h71 rfl (by omega) Ih71 Rh71
                    · refine zwW_p [(0, 9999, 0), (24, 146, 0)] (q := 146) (ls' := [(2, 37), (0, a), (0, kL2), (0, v12), (0, v13)]) (st' := [(0, 9999), (0, v13), (2, 177)]) (by decide +kernel) rfl ?_
                      refine zwW_as IhL2 (a1 := 177) (a2 := 177) (n := 8) (lo := -2147483648) (hi := 2147483647) (nx := 147) (by decide +kernel) (by first | decide | exact ⟨by decide, by decide⟩) (by first | omega | exact ⟨by omega, by omega⟩) (by first | decide | exact ⟨by decide, by decide⟩) ?_
                      intro h72 eh72 Ih72
                      have Rh72 : zMR ms164 h h72 := RhL2.w (a1 := 177) (a2 := 177) (j1 := 0) (j2 := 8) (by decide +kernel) (by first | decide | exact ⟨by decide, by decide⟩) (by first | omega | exact ⟨by omega, by omega⟩) eh72
                      refine zwW_inc (i := 2) (c := 1) (x := kL2) (nx := 150) (by decide +kernel) rfl (by first | omega | exact ⟨by omega, by omega⟩) (ls' := [(2, 37), (0, a), (0, (kL2 + 1)), (0, v12), (0, v13)]) rfl ?_
                      refine zwW_p [(24, 6, 0)] (q := 6) (ls' := [(2, 37), (0, a), (0, (kL2 + 1)), (0, v12), (0, v13)]) (st' := []) (by decide +kernel) rfl ?_
                      exact IHL2 ((100 - (kL2 + 1))).toNat (by omega) (kL2 + 1) (0, v12) (0, v13) h72 rfl (by omega) Ih72 Rh72
                · refine zwW_p [(1, 0, 2)] (q := 91) (ls' := [(2, 37), (0, a), (0, kL2), (0, v12), (0, v13)]) (st' := [(2, 37)]) (by decide +kernel) rfl ?_
                  refine zwW_gc IhL2 (kd := 13) (bn := 68) (n := 97) (c := 179) (nx := 94) (by decide +kernel) ?_
                  refine zwW_p [(1, 3, 0), (14, 0, 0)] (q := 96) (ls' := [(2, 37), (0, a), (0, kL2), (0, v12), (0, v13)]) (st' := [(0, v12), (2, 179), (0, v12), (2, 179)]) (by decide +kernel) rfl ?_
                  refine zwW_al IhL2 (a1 := 179) (a2 := 179) (kd := 20) (n := 20) (t := 0) (lo := 0) (hi := 9) (nx := 97) (by decide +kernel) (by first | decide | exact ⟨by decide, by decide⟩) (by first | omega | exact ⟨by omega, by omega⟩) ?_
                  intro v73 ev73 lv73 uv73
                  refine zwW_p [(0, 1, 0)] (q := 98) (ls' := [(2, 37), (0, a), (0, kL2), (0, v12), (0, v13)]) (st' := [(0, 1), (0, v73), (0, v12), (2, 179)]) (by decide +kernel) rfl ?_
                  refine zwW_add (nx := 99) (by decide +kernel) (by first | omega | exact ⟨by omega, by omega⟩) ?_
                  refine zwW_as IhL2 (a1 := 179) (a2 := 179) (n := 20) (lo := 0) (hi := 9) (nx := 100) (by decide +kernel) (by first | decide | exact ⟨by decide, by decide⟩) (by first | omega | exact ⟨by omega, by omega⟩) (by first | omega | exact ⟨by omega, by omega⟩) ?_
                  intro h74 eh74 Ih74
                  have Rh74 : zMR ms164 h h74 := RhL2.w (a1 := 179) (a2 := 179) (j1 := 0) (j2 := 20) (by decide +kernel) (by first | decide | exact ⟨by decide, by decide⟩) (by first | omega | exact ⟨by omega, by omega⟩) eh74
                  refine zwW_p [(1, 0, 2)] (q := 101) (ls' := [(2, 37), (0, a), (0, kL2), (0, v12), (0, v13)]) (st' := [(2, 37)]) (by decide +kernel) rfl ?_
                  refine zwW_gc Ih74 (kd := 13) (bn := 95) (n := 97) (c := 365) (nx := 104) (by decide +kernel) ?_
                  refine zwW_p [(1, 2, 0)] (q := 105) (ls' := [(2, 37), (0, a), (0, kL2), (0, v12), (0, v13)]) (st' := [(0, kL2), (2, 365)]) (by decide +kernel) rfl ?_
                  refine zwW_al Ih74 (a1 := 365) (a2 := 365) (kd := 20) (n := 8) (t := 0) (lo := 0) (hi := 2) (nx := 106) (by decide +kernel) (by first | decide | exact ⟨by decide, by decide⟩) (by first | omega | exact ⟨by omega, by omega⟩) ?_
                  intro v75 ev75 lv75 uv75
                  refine zwW_p [(0, 2, 0)] (q := 107) (ls' := [(2, 37), (0, a), (0, kL2), (0, v12), (0, v13)]) (st' := [(0, 2), (0, v75)]) (by decide +kernel) rfl ?_
                  refine zwic_ne (q := 147) (nx := 110) (by decide +kernel) (fun c76 => ?_) (fun c76 => ?_)
                  · refine zwW_inc (i := 2) (c := 1) (x := kL2) (nx := 150) (by decide +kernel) rfl (by first | omega | exact ⟨by omega, by omega⟩) (ls' := [(2, 37), (0, a), (0, (kL2 + 1)), (0, v12), (0, v13)]) rfl ?_
                    refine zwW_p [(24, 6, 0)] (q := 6) (ls' := [(2, 37), (0, a), (0, (kL2 + 1)), (0, v12), (0, v13)]) (st' := []) (by decide +kernel) rfl ?_
                    exact IHL2 ((100 - (kL2 + 1))).toNat (by omega) (kL2 + 1) (0, v12) (0, v13) h74 rfl (by omega) Ih74 Rh74
                  · refine zwW_p [(1, 0, 2)] (q := 111) (ls' := [(2, 37), (0, a), (0, kL2), (0, v12), (0, v13)]) (st' := [(2, 37)]) (by decide +kernel) rfl ?_
                    refine zwW_gc Ih74 (kd := 13) (bn := 66) (n := 97) (c := 177) (nx := 114) (by decide +kernel) ?_
                    refine zwW_p [(1, 4, 0), (1, 0, 2)] (q := 117) (ls' := [(2, 37), (0, a), (0, kL2), (0, v12), (0, v13)]) (st' := [(2, 37), (0, v13), (2, 177)]) (by decide +kernel) rfl ?_
                    refine zwW_gc Ih74 (kd := 13) (bn := 66) (n := 97) (c := 177) (nx := 120) (by decide +kernel) ?_
                    refine zwW_p [(1, 4, 0)] (q := 122) (ls' := [(2, 37), (0, a), (0, kL2), (0, v12), (0, v13)]) (st' := [(0, v13), (2, 177), (0, v13), (2, 177)]) (by decide +kernel) rfl ?_
                    refine zwW_al Ih74 (a1 := 177) (a2 := 177) (kd := 20) (n := 8) (t := 0) (lo := -2147483648) (hi := 2147483647) (nx := 123) (by decide +kernel) (by first | decide | exact ⟨by decide, by decide⟩) (by first | omega | exact ⟨by omega, by omega⟩) ?_
                    intro v77 ev77 lv77 uv77
                    refine zwW_p [(0, 5, 0)] (q := 124) (ls' := [(2, 37), (0, a), (0, kL2), (0, v12), (0, v13)]) (st' := [(0, 5), (0, v77), (0, v13), (2, 177)]) (by decide +kernel) rfl ?_
                    refine zwW_adw (nx := 125) (by decide +kernel) ?_
                    intro v78 ev78 lv78 uv78
                    refine zwW_p [(0, 9999, 0)] (q := 128) (ls' := [(2, 37), (0, a), (0, kL2), (0, v12), (0, v13)]) (st' := [(0, 9999), (0, v78), (0, v13), (2, 177)]) (by decide +kernel) rfl ?_
                    refine zwic_le (q := 137) (nx := 131) (by decide +kernel) (fun c79 => ?_) (fun c79 => ?_)
                    · refine zwW_p [(1, 0, 2)] (q := 138) (ls' := [(2, 37), (0, a), (0, kL2), (0, v12), (0, v13)]) (st' := [(2, 37), (0, v13), (2, 177)]) (by decide +kernel) rfl ?_
                      refine zwW_gc Ih74 (kd := 13) (bn := 66) (n := 97) (c := 177) (nx := 141) (by decide +kernel) ?_
                      refine zwW_p [(1, 4, 0)] (q := 143) (ls' := [(2, 37), (0, a), (0, kL2), (0, v12), (0, v13)]) (st' := [(0, v13), (2, 177), (0, v13), (2, 177)]) (by decide +kernel) rfl ?_
                      refine zwW_al Ih74 (a1 := 177) (a2 := 177) (kd := 20) (n := 8) (t := 0) (lo := -2147483648) (hi := 2147483647) (nx := 144) (by decide +kernel) (by first | decide | exact ⟨by decide, by decide⟩) (by first | omega | exact ⟨by omega, by omega⟩) ?_
                      intro v80 ev80 lv80 uv80
                      refine zwW_p [(0, 5, 0)] (q := 145) (ls' := [(2, 37), (0, a), (0, kL2), (0, v12), (0, v13)]) (st' := [(0, 5), (0, v80), (0, v13), (2, 177)]) (by decide +kernel) rfl ?_
                      refine zwW_adw (nx := 146) (by decide +kernel) ?_
                      intro v81 ev81 lv81 uv81
                      refine zwW_as Ih74 (a1 := 177) (a2 := 177) (n := 8) (lo := -2147483648) (hi := 2147483647) (nx := 147) (by decide +kernel) (by first | decide | exact ⟨by decide, by decide⟩) (by first | omega | exact ⟨by omega, by omega⟩) (by first | omega | exact ⟨by omega, by omega⟩) ?_
                      intro h82 eh82 Ih82
                      have Rh82 : zMR ms164 h h82 := Rh74.w (a1 := 177) (a2 := 177) (j1 := 0) (j2 := 8) (by decide +kernel) (by first | decide | exact ⟨by decide, by decide⟩) (by first | omega | exact ⟨by omega, by omega⟩) eh82
                      refine zwW_inc (i := 2) (c := 1) (x := kL2) (nx := 150) (by decide +kernel) rfl (by first | omega | exact ⟨by omega, by omega⟩) (ls' := [(2, 37), (0, a), (0, (kL2 + 1)), (0, v12), (0, v13)]) rfl ?_
                      refine zwW_p [(24, 6, 0)] (q := 6) (ls' := [(2, 37), (0, a), (0, (kL2 + 1)), (0, v12), (0, v13)]) (st' := []) (by decide +kernel) rfl ?_
                      exact IHL2 ((100 - (kL2 + 1))).toNat (by omega) (kL2 + 1) (0, v12) (0, v13) h82 rfl (by omega) Ih82 Rh82
                    · refine zwW_p [(0, 9999, 0), (24, 146, 0)] (q := 146) (ls' := [(2, 37), (0, a), (0, kL2), (0, v12), (0, v13)]) (st' := [(0, 9999), (0, v13), (2, 177)]) (by decide +kernel) rfl ?_
                      refine zwW_as Ih74 (a1 := 177) (a2 := 177) (n := 8) (lo := -2147483648) (hi := 2147483647) (nx := 147) (by decide +kernel) (by first | decide | exact ⟨by decide, by decide⟩) (by first | omega | exact ⟨by omega, by omega⟩) (by first | decide | exact ⟨by decide, by decide⟩) ?_
                      intro h83 eh83 Ih83
                      have Rh83 : zMR ms164 h h83 := Rh74.w (a1 := 177) (a2 := 177) (j1 := 0) (j2 := 8) (by decide +kernel) (by first | decide | exact ⟨by decide, by decide⟩) (by first | omega | exact ⟨by omega, by omega⟩) eh83
                      refine zwW_inc (i := 2) (c := 1) (x := kL2) (nx := 150) (by decide +kernel) rfl (by first | omega | exact ⟨by omega, by omega⟩) (ls' := [(2, 37), (0, a), (0, (kL2 + 1)), (0, v12), (0, v13)]) rfl ?_
                      refine zwW_p [(24, 6, 0)] (q := 6) (ls' := [(2, 37), (0, a), (0, (kL2 + 1)), (0, v12), (0, v13)]) (st' := []) (by decide +kernel) rfl ?_
                      exact IHL2 ((100 - (kL2 + 1))).toNat (by omega) (kL2 + 1) (0, v12) (0, v13) h83 rfl (by omega) Ih83 Rh83
            · refine zwW_p [(1, 0, 2)] (q := 60) (ls' := [(2, 37), (0, a), (0, kL2), (0, v12), (0, v13)]) (st' := [(2, 37)]) (by decide +kernel) rfl ?_
              refine zwW_gc IhL2 (kd := 13) (bn := 67) (n := 97) (c := 178) (nx := 63) (by decide +kernel) ?_
              refine zwW_p [(1, 3, 0), (14, 0, 0)] (q := 65) (ls' := [(2, 37), (0, a), (0, kL2), (0, v12), (0, v13)]) (st' := [(0, v12), (2, 178), (0, v12), (2, 178)]) (by decide +kernel) rfl ?_
              refine zwW_al IhL2 (a1 := 178) (a2 := 178) (kd := 20) (n := 20) (t := 0) (lo := 0) (hi := 5) (nx := 66) (by decide +kernel) (by first | decide | exact ⟨by decide, by decide⟩) (by first | omega | exact ⟨by omega, by omega⟩) ?_
              intro v84 ev84 lv84 uv84
              refine zwW_p [(0, 1, 0)] (q := 67) (ls' := [(2, 37), (0, a), (0, kL2), (0, v12), (0, v13)]) (st' := [(0, 1), (0, v84), (0, v12), (2, 178)]) (by decide +kernel) rfl ?_
              refine zwW_add (nx := 68) (by decide +kernel) (by first | omega | exact ⟨by omega, by omega⟩) ?_
              refine zwW_as IhL2 (a1 := 178) (a2 := 178) (n := 20) (lo := 0) (hi := 5) (nx := 69) (by decide +kernel) (by first | decide | exact ⟨by decide, by decide⟩) (by first | omega | exact ⟨by omega, by omega⟩) (by first | omega | exact ⟨by omega, by omega⟩) ?_
              intro h85 eh85 Ih85
              have Rh85 : zMR ms164 h h85 := RhL2.w (a1 := 178) (a2 := 178) (j1 := 0) (j2 := 20) (by decide +kernel) (by first | decide | exact ⟨by decide, by decide⟩) (by first | omega | exact ⟨by omega, by omega⟩) eh85
              refine zwW_p [(1, 0, 2)] (q := 70) (ls' := [(2, 37), (0, a), (0, kL2), (0, v12), (0, v13)]) (st' := [(2, 37)]) (by decide +kernel) rfl ?_
              refine zwW_gc Ih85 (kd := 13) (bn := 95) (n := 97) (c := 365) (nx := 73) (by decide +kernel) ?_
              refine zwW_p [(1, 2, 0)] (q := 74) (ls' := [(2, 37), (0, a), (0, kL2), (0, v12), (0, v13)]) (st' := [(0, kL2), (2, 365)]) (by decide +kernel) rfl ?_
              refine zwW_al Ih85 (a1 := 365) (a2 := 365) (kd := 20) (n := 8) (t := 0) (lo := 0) (hi := 2) (nx := 75) (by decide +kernel) (by first | decide | exact ⟨by decide, by decide⟩) (by first | omega | exact ⟨by omega, by omega⟩) ?_
              intro v86 ev86 lv86 uv86
              refine zwW_p [(0, 1, 0)] (q := 76) (ls' := [(2, 37), (0, a), (0, kL2), (0, v12), (0, v13)]) (st' := [(0, 1), (0, v86)]) (by decide +kernel) rfl ?_
              refine zwic_ne (q := 100) (nx := 79) (by decide +kernel) (fun c87 => ?_) (fun c87 => ?_)
              · refine zwW_p [(1, 0, 2)] (q := 101) (ls' := [(2, 37), (0, a), (0, kL2), (0, v12), (0, v13)]) (st' := [(2, 37)]) (by decide +kernel) rfl ?_
                refine zwW_gc Ih85 (kd := 13) (bn := 95) (n := 97) (c := 365) (nx := 104) (by decide +kernel) ?_
                refine zwW_p [(1, 2, 0)] (q := 105) (ls' := [(2, 37), (0, a), (0, kL2), (0, v12), (0, v13)]) (st' := [(0, kL2), (2, 365)]) (by decide +kernel) rfl ?_
                refine zwW_al Ih85 (a1 := 365) (a2 := 365) (kd := 20) (n := 8) (t := 0) (lo := 0) (hi := 2) (nx := 106) (by decide +kernel) (by first | decide | exact ⟨by decide, by decide⟩) (by first | omega | exact ⟨by omega, by omega⟩) ?_
                intro v88 ev88 lv88 uv88
                refine zwW_p [(0, 2, 0)] (q := 107) (ls' := [(2, 37), (0, a), (0, kL2), (0, v12), (0, v13)]) (st' := [(0, 2), (0, v88)]) (by decide +kernel) rfl ?_
                refine zwic_ne (q := 147) (nx := 110) (by decide +kernel) (fun c89 => ?_) (fun c89 => ?_)
                · refine zwW_inc (i := 2) (c := 1) (x := kL2) (nx := 150) (by decide +kernel) rfl (by first | omega | exact ⟨by omega, by omega⟩) (ls' := [(2, 37), (0, a), (0, (kL2 + 1)), (0, v12), (0, v13)]) rfl ?_
                  refine zwW_p [(24, 6, 0)] (q := 6) (ls' := [(2, 37), (0, a), (0, (kL2 + 1)), (0, v12), (0, v13)]) (st' := []) (by decide +kernel) rfl ?_
                  exact IHL2 ((100 - (kL2 + 1))).toNat (by omega) (kL2 + 1) (0, v12) (0, v13) h85 rfl (by omega) Ih85 Rh85
                · refine zwW_p [(1, 0, 2)] (q := 111) (ls' := [(2, 37), (0, a), (0, kL2), (0, v12), (0, v13)]) (st' := [(2, 37)]) (by decide +kernel) rfl ?_
                  refine zwW_gc Ih85 (kd := 13) (bn := 66) (n := 97) (c := 177) (nx := 114) (by decide +kernel) ?_
                  refine zwW_p [(1, 4, 0), (1, 0, 2)] (q := 117) (ls' := [(2, 37), (0, a), (0, kL2), (0, v12), (0, v13)]) (st' := [(2, 37), (0, v13), (2, 177)]) (by decide +kernel) rfl ?_
                  refine zwW_gc Ih85 (kd := 13) (bn := 66) (n := 97) (c := 177) (nx := 120) (by decide +kernel) ?_
                  refine zwW_p [(1, 4, 0)] (q := 122) (ls' := [(2, 37), (0, a), (0, kL2), (0, v12), (0, v13)]) (st' := [(0, v13), (2, 177), (0, v13), (2, 177)]) (by decide +kernel) rfl ?_
                  refine zwW_al Ih85 (a1 := 177) (a2 := 177) (kd := 20) (n := 8) (t := 0) (lo := -2147483648) (hi := 2147483647) (nx := 123) (by decide +kernel) (by first | decide | exact ⟨by decide, by decide⟩) (by first | omega | exact ⟨by omega, by omega⟩) ?_
                  intro v90 ev90 lv90 uv90
                  refine zwW_p [(0, 5, 0)] (q := 124) (ls' := [(2, 37), (0, a), (0, kL2), (0, v12), (0, v13)]) (st' := [(0, 5), (0, v90), (0, v13), (2, 177)]) (by decide +kernel) rfl ?_
                  refine zwW_adw (nx := 125) (by decide +kernel) ?_
                  intro v91 ev91 lv91 uv91
                  refine zwW_p [(0, 9999, 0)] (q := 128) (ls' := [(2, 37), (0, a), (0, kL2), (0, v12), (0, v13)]) (st' := [(0, 9999), (0, v91), (0, v13), (2, 177)]) (by decide +kernel) rfl ?_
                  refine zwic_le (q := 137) (nx := 131) (by decide +kernel) (fun c92 => ?_) (fun c92 => ?_)
                  · refine zwW_p [(1, 0, 2)] (q := 138) (ls' := [(2, 37), (0, a), (0, kL2), (0, v12), (0, v13)]) (st' := [(2, 37), (0, v13), (2, 177)]) (by decide +kernel) rfl ?_
                    refine zwW_gc Ih85 (kd := 13) (bn := 66) (n := 97) (c := 177) (nx := 141) (by decide +kernel) ?_
                    refine zwW_p [(1, 4, 0)] (q := 143) (ls' := [(2, 37), (0, a), (0, kL2), (0, v12), (0, v13)]) (st' := [(0, v13), (2, 177), (0, v13), (2, 177)]) (by decide +kernel) rfl ?_
                    refine zwW_al Ih85 (a1 := 177) (a2 := 177) (kd := 20) (n := 8) (t := 0) (lo := -2147483648) (hi := 2147483647) (nx := 144) (by decide +kernel) (by first | decide | exact ⟨by decide, by decide⟩) (by first | omega | exact ⟨by omega, by omega⟩) ?_
                    intro v93 ev93 lv93 uv93
                    refine zwW_p [(0, 5, 0)] (q := 145) (ls' := [(2, 37), (0, a), (0, kL2), (0, v12), (0, v13)]) (st' := [(0, 5), (0, v93), (0, v13), (2, 177)]) (by decide +kernel) rfl ?_
                    refine zwW_adw (nx := 146) (by decide +kernel) ?_
                    intro v94 ev94 lv94 uv94
                    refine zwW_as Ih85 (a1 := 177) (a2 := 177) (n := 8) (lo := -2147483648) (hi := 2147483647) (nx := 147) (by decide +kernel) (by first | decide | exact ⟨by decide, by decide⟩) (by first | omega | exact ⟨by omega, by omega⟩) (by first | omega | exact ⟨by omega, by omega⟩) ?_
                    intro h95 eh95 Ih95
                    have Rh95 : zMR ms164 h h95 := Rh85.w (a1 := 177) (a2 := 177) (j1 := 0) (j2 := 8) (by decide +kernel) (by first | decide | exact ⟨by decide, by decide⟩) (by first | omega | exact ⟨by omega, by omega⟩) eh95
                    refine zwW_inc (i := 2) (c := 1) (x := kL2) (nx := 150) (by decide +kernel) rfl (by first | omega | exact ⟨by omega, by omega⟩) (ls' := [(2, 37), (0, a), (0, (kL2 + 1)), (0, v12), (0, v13)]) rfl ?_
                    refine zwW_p [(24, 6, 0)] (q := 6) (ls' := [(2, 37), (0, a), (0, (kL2 + 1)), (0, v12), (0, v13)]) (st' := []) (by decide +kernel) rfl ?_
                    exact IHL2 ((100 - (kL2 + 1))).toNat (by omega) (kL2 + 1) (0, v12) (0, v13) h95 rfl (by omega) Ih95 Rh95
                  · refine zwW_p [(0, 9999, 0), (24, 146, 0)] (q := 146) (ls' := [(2, 37), (0, a), (0, kL2), (0, v12), (0, v13)]) (st' := [(0, 9999), (0, v13), (2, 177)]) (by decide +kernel) rfl ?_
                    refine zwW_as Ih85 (a1 := 177) (a2 := 177) (n := 8) (lo := -2147483648) (hi := 2147483647) (nx := 147) (by decide +kernel) (by first | decide | exact ⟨by decide, by decide⟩) (by first | omega | exact ⟨by omega, by omega⟩) (by first | decide | exact ⟨by decide, by decide⟩) ?_
                    intro h96 eh96 Ih96
                    have Rh96 : zMR ms164 h h96 := Rh85.w (a1 := 177) (a2 := 177) (j1 := 0) (j2 := 8) (by decide +kernel) (by first | decide | exact ⟨by decide, by decide⟩) (by first | omega | exact ⟨by omega, by omega⟩) eh96
                    refine zwW_inc (i := 2) (c := 1) (x := kL2) (nx := 150) (by decide +kernel) rfl (by first | omega | exact ⟨by omega, by omega⟩) (ls' := [(2, 37), (0, a), (0, (kL2 + 1)), (0, v12), (0, v13)]) rfl ?_
                    refine zwW_p [(24, 6, 0)] (q := 6) (ls' := [(2, 37), (0, a), (0, (kL2 + 1)), (0, v12), (0, v13)]) (st' := []) (by decide +kernel) rfl ?_
                    exact IHL2 ((100 - (kL2 + 1))).toNat (by omega) (kL2 + 1) (0, v12) (0, v13) h96 rfl (by omega) Ih96 Rh96
              · refine zwW_p [(1, 0, 2)] (q := 80) (ls' := [(2, 37), (0, a), (0, kL2), (0, v12), (0, v13)]) (st' := [(2, 37)]) (by decide +kernel) rfl ?_
                refine zwW_gc Ih85 (kd := 13) (bn := 68) (n := 97) (c := 179) (nx := 83) (by decide +kernel) ?_
                refine zwW_p [(1, 3, 0)] (q := 84) (ls' := [(2, 37), (0, a), (0, kL2), (0, v12), (0, v13)]) (st' := [(0, v12), (2, 179)]) (by decide +kernel) rfl ?_
                refine zwW_al Ih85 (a1 := 179) (a2 := 179) (kd := 20) (n := 20) (t := 0) (lo := 0) (hi := 9) (nx := 85) (by decide +kernel) (by first | decide | exact ⟨by decide, by decide⟩) (by first | omega | exact ⟨by omega, by omega⟩) ?_
                intro v97 ev97 lv97 uv97
                refine zwW_p [(0, 9, 0)] (q := 87) (ls' := [(2, 37), (0, a), (0, kL2), (0, v12), (0, v13)]) (st' := [(0, 9), (0, v97)]) (by decide +kernel) rfl ?_
                refine zwic_ge (q := 100) (nx := 90) (by decide +kernel) (fun c98 => ?_) (fun c98 => ?_)
                · refine zwW_p [(1, 0, 2)] (q := 101) (ls' := [(2, 37), (0, a), (0, kL2), (0, v12), (0, v13)]) (st' := [(2, 37)]) (by decide +kernel) rfl ?_
                  refine zwW_gc Ih85 (kd := 13) (bn := 95) (n := 97) (c := 365) (nx := 104) (by decide +kernel) ?_
                  refine zwW_p [(1, 2, 0)] (q := 105) (ls' := [(2, 37), (0, a), (0, kL2), (0, v12), (0, v13)]) (st' := [(0, kL2), (2, 365)]) (by decide +kernel) rfl ?_
                  refine zwW_al Ih85 (a1 := 365) (a2 := 365) (kd := 20) (n := 8) (t := 0) (lo := 0) (hi := 2) (nx := 106) (by decide +kernel) (by first | decide | exact ⟨by decide, by decide⟩) (by first | omega | exact ⟨by omega, by omega⟩) ?_
                  intro v99 ev99 lv99 uv99
                  refine zwW_p [(0, 2, 0)] (q := 107) (ls' := [(2, 37), (0, a), (0, kL2), (0, v12), (0, v13)]) (st' := [(0, 2), (0, v99)]) (by decide +kernel) rfl ?_
                  refine zwic_ne (q := 147) (nx := 110) (by decide +kernel) (fun c100 => ?_) (fun c100 => ?_)
                  · refine zwW_inc (i := 2) (c := 1) (x := kL2) (nx := 150) (by decide +kernel) rfl (by first | omega | exact ⟨by omega, by omega⟩) (ls' := [(2, 37), (0, a), (0, (kL2 + 1)), (0, v12), (0, v13)]) rfl ?_
                    refine zwW_p [(24, 6, 0)] (q := 6) (ls' := [(2, 37), (0, a), (0, (kL2 + 1)), (0, v12), (0, v13)]) (st' := []) (by decide +kernel) rfl ?_
                    exact IHL2 ((100 - (kL2 + 1))).toNat (by omega) (kL2 + 1) (0, v12) (0, v13) h85 rfl (by omega) Ih85 Rh85
                  · refine zwW_p [(1, 0, 2)] (q := 111) (ls' := [(2, 37), (0, a), (0, kL2), (0, v12), (0, v13)]) (st' := [(2, 37)]) (by decide +kernel) rfl ?_
                    refine zwW_gc Ih85 (kd := 13) (bn := 66) (n := 97) (c := 177) (nx := 114) (by decide +kernel) ?_
                    refine zwW_p [(1, 4, 0), (1, 0, 2)] (q := 117) (ls' := [(2, 37), (0, a), (0, kL2), (0, v12), (0, v13)]) (st' := [(2, 37), (0, v13), (2, 177)]) (by decide +kernel) rfl ?_
                    refine zwW_gc Ih85 (kd := 13) (bn := 66) (n := 97) (c := 177) (nx := 120) (by decide +kernel) ?_
                    refine zwW_p [(1, 4, 0)] (q := 122) (ls' := [(2, 37), (0, a), (0, kL2), (0, v12), (0, v13)]) (st' := [(0, v13), (2, 177), (0, v13), (2, 177)]) (by decide +kernel) rfl ?_
                    refine zwW_al Ih85 (a1 := 177) (a2 := 177) (kd := 20) (n := 8) (t := 0) (lo := -2147483648) (hi := 2147483647) (nx := 123) (by decide +kernel) (by first | decide | exact ⟨by decide, by decide⟩) (by first | omega | exact ⟨by omega, by omega⟩) ?_
                    intro v101 ev101 lv101 uv101
                    refine zwW_p [(0, 5, 0)] (q := 124) (ls' := [(2, 37), (0, a), (0, kL2), (0, v12), (0, v13)]) (st' := [(0, 5), (0, v101), (0, v13), (2, 177)]) (by decide +kernel) rfl ?_
                    refine zwW_adw (nx := 125) (by decide +kernel) ?_
                    intro v102 ev102 lv102 uv102
                    refine zwW_p [(0, 9999, 0)] (q := 128) (ls' := [(2, 37), (0, a), (0, kL2), (0, v12), (0, v13)]) (st' := [(0, 9999), (0, v102), (0, v13), (2, 177)]) (by decide +kernel) rfl ?_
                    refine zwic_le (q := 137) (nx := 131) (by decide +kernel) (fun c103 => ?_) (fun c103 => ?_)
                    · refine zwW_p [(1, 0, 2)] (q := 138) (ls' := [(2, 37), (0, a), (0, kL2), (0, v12), (0, v13)]) (st' := [(2, 37), (0, v13), (2, 177)]) (by decide +kernel) rfl ?_
                      refine zwW_gc Ih85 (kd := 13) (bn := 66) (n := 97) (c := 177) (nx := 141) (by decide +kernel) ?_
                      refine zwW_p [(1, 4, 0)] (q := 143) (ls' := [(2, 37), (0, a), (0, kL2), (0, v12), (0, v13)]) (st' := [(0, v13), (2, 177), (0, v13), (2, 177)]) (by decide +kernel) rfl ?_
                      refine zwW_al Ih85 (a1 := 177) (a2 := 177) (kd := 20) (n := 8) (t := 0) (lo := -2147483648) (hi := 2147483647) (nx := 144) (by decide +kernel) (by first | decide | exact ⟨by decide, by decide⟩) (by first | omega | exact ⟨by omega, by omega⟩) ?_
                      intro v104 ev104 lv104 uv104
                      refine zwW_p [(0, 5, 0)] (q := 145) (ls' := [(2, 37), (0, a), (0, kL2), (0, v12), (0, v13)]) (st' := [(0, 5), (0, v104), (0, v13), (2, 177)]) (by decide +kernel) rfl ?_
                      refine zwW_adw (nx := 146) (by decide +kernel) ?_
                      intro v105 ev105 lv105 uv105
                      refine zwW_as Ih85 (a1 := 177) (a2 := 177) (n := 8) (lo := -2147483648) (hi := 2147483647) (nx := 147) (by decide +kernel) (by first | decide | exact ⟨by decide, by decide⟩) (by first | omega | exact ⟨by omega, by omega⟩) (by first | omega | exact ⟨by omega, by omega⟩) ?_
                      intro h106 eh106 Ih106
                      have Rh106 : zMR ms164 h h106 := Rh85.w (a1 := 177) (a2 := 177) (j1 := 0) (j2 := 8) (by decide +kernel) (by first | decide | exact ⟨by decide, by decide⟩) (by first | omega | exact ⟨by omega, by omega⟩) eh106
                      refine zwW_inc (i := 2) (c := 1) (x := kL2) (nx := 150) (by decide +kernel) rfl (by first | omega | exact ⟨by omega, by omega⟩) (ls' := [(2, 37), (0, a), (0, (kL2 + 1)), (0, v12), (0, v13)]) rfl ?_
                      refine zwW_p [(24, 6, 0)] (q := 6) (ls' := [(2, 37), (0, a), (0, (kL2 + 1)), (0, v12), (0, v13)]) (st' := []) (by decide +kernel) rfl ?_
                      exact IHL2 ((100 - (kL2 + 1))).toNat (by omega) (kL2 + 1) (0, v12) (0, v13) h106 rfl (by omega) Ih106 Rh106
                    · refine zwW_p [(0, 9999, 0), (24, 146, 0)] (q := 146) (ls' := [(2, 37), (0, a), (0, kL2), (0, v12), (0, v13)]) (st' := [(0, 9999), (0, v13), (2, 177)]) (by decide +kernel) rfl ?_
                      refine zwW_as Ih85 (a1 := 177) (a2 := 177) (n := 8) (lo := -2147483648) (hi := 2147483647) (nx := 147) (by decide +kernel) (by first | decide | exact ⟨by decide, by decide⟩) (by first | omega | exact ⟨by omega, by omega⟩) (by first | decide | exact ⟨by decide, by decide⟩) ?_
                      intro h107 eh107 Ih107
                      have Rh107 : zMR ms164 h h107 := Rh85.w (a1 := 177) (a2 := 177) (j1 := 0) (j2 := 8) (by decide +kernel) (by first | decide | exact ⟨by decide, by decide⟩) (by first | omega | exact ⟨by omega, by omega⟩) eh107
                      refine zwW_inc (i := 2) (c := 1) (x := kL2) (nx := 150) (by decide +kernel) rfl (by first | omega | exact ⟨by omega, by omega⟩) (ls' := [(2, 37), (0, a), (0, (kL2 + 1)), (0, v12), (0, v13)]) rfl ?_
                      refine zwW_p [(24, 6, 0)] (q := 6) (ls' := [(2, 37), (0, a), (0, (kL2 + 1)), (0, v12), (0, v13)]) (st' := []) (by decide +kernel) rfl ?_
                      exact IHL2 ((100 - (kL2 + 1))).toNat (by omega) (kL2 + 1) (0, v12) (0, v13) h107 rfl (by omega) Ih107 Rh107
                · refine zwW_p [(1, 0, 2)] (q := 91) (ls' := [(2, 37), (0, a), (0, kL2), (0, v12), (0, v13)]) (st' := [(2, 37)]) (by decide +kernel) rfl ?_
                  refine zwW_gc Ih85 (kd := 13) (bn := 68) (n := 97) (c := 179) (nx := 94) (by decide +kernel) ?_
                  refine zwW_p [(1, 3, 0), (14, 0, 0)] (q := 96) (ls' := [(2, 37), (0, a), (0, kL2), (0, v12), (0, v13)]) (st' := [(0, v12), (2, 179), (0, v12), (2, 179)]) (by decide +kernel) rfl ?_
                  refine zwW_al Ih85 (a1 := 179) (a2 := 179) (kd := 20) (n := 20) (t := 0) (lo := 0) (hi := 9) (nx := 97) (by decide +kernel) (by first | decide | exact ⟨by decide, by decide⟩) (by first | omega | exact ⟨by omega, by omega⟩) ?_
                  intro v108 ev108 lv108 uv108
                  refine zwW_p [(0, 1, 0)] (q := 98) (ls' := [(2, 37), (0, a), (0, kL2), (0, v12), (0, v13)]) (st' := [(0, 1), (0, v108), (0, v12), (2, 179)]) (by decide +kernel) rfl ?_
                  refine zwW_add (nx := 99) (by decide +kernel) (by first | omega | exact ⟨by omega, by omega⟩) ?_
                  refine zwW_as Ih85 (a1 := 179) (a2 := 179) (n := 20) (lo := 0) (hi := 9) (nx := 100) (by decide +kernel) (by first | decide | exact ⟨by decide, by decide⟩) (by first | omega | exact ⟨by omega, by omega⟩) (by first | omega | exact ⟨by omega, by omega⟩) ?_
                  intro h109 eh109 Ih109
                  have Rh109 : zMR ms164 h h109 := Rh85.w (a1 := 179) (a2 := 179) (j1 := 0) (j2 := 20) (by decide +kernel) (by first | decide | exact ⟨by decide, by decide⟩) (by first | omega | exact ⟨by omega, by omega⟩) eh109
                  refine zwW_p [(1, 0, 2)] (q := 101) (ls' := [(2, 37), (0, a), (0, kL2), (0, v12), (0, v13)]) (st' := [(2, 37)]) (by decide +kernel) rfl ?_
                  refine zwW_gc Ih109 (kd := 13) (bn := 95) (n := 97) (c := 365) (nx := 104) (by decide +kernel) ?_
                  refine zwW_p [(1, 2, 0)] (q := 105) (ls' := [(2, 37), (0, a), (0, kL2), (0, v12), (0, v13)]) (st' := [(0, kL2), (2, 365)]) (by decide +kernel) rfl ?_
                  refine zwW_al Ih109 (a1 := 365) (a2 := 365) (kd := 20) (n := 8) (t := 0) (lo := 0) (hi := 2) (nx := 106) (by decide +kernel) (by first | decide | exact ⟨by decide, by decide⟩) (by first | omega | exact ⟨by omega, by omega⟩) ?_
                  intro v110 ev110 lv110 uv110
                  refine zwW_p [(0, 2, 0)] (q := 107) (ls' := [(2, 37), (0, a), (0, kL2), (0, v12), (0, v13)]) (st' := [(0, 2), (0, v110)]) (by decide +kernel) rfl ?_
                  refine zwic_ne (q := 147) (nx := 110) (by decide +kernel) (fun c111 => ?_) (fun c111 => ?_)
                  · refine zwW_inc (i := 2) (c := 1) (x := kL2) (nx := 150) (by decide +kernel) rfl (by first | omega | exact ⟨by omega, by omega⟩) (ls' := [(2, 37), (0, a), (0, (kL2 + 1)), (0, v12), (0, v13)]) rfl ?_
                    refine zwW_p [(24, 6, 0)] (q := 6) (ls' := [(2, 37), (0, a), (0, (kL2 + 1)), (0, v12), (0, v13)]) (st' := []) (by decide +kernel) rfl ?_
                    exact IHL2 ((100 - (kL2 + 1))).toNat (by omega) (kL2 + 1) (0, v12) (0, v13) h109 rfl (by omega) Ih109 Rh109
                  · refine zwW_p [(1, 0, 2)] (q := 111) (ls' := [(2, 37), (0, a), (0, kL2), (0, v12), (0, v13)]) (st' := [(2, 37)]) (by decide +kernel) rfl ?_
                    refine zwW_gc Ih109 (kd := 13) (bn := 66) (n := 97) (c := 177) (nx := 114) (by decide +kernel) ?_
                    refine zwW_p [(1, 4, 0), (1, 0, 2)] (q := 117) (ls' := [(2, 37), (0, a), (0, kL2), (0, v12), (0, v13)]) (st' := [(2, 37), (0, v13), (2, 177)]) (by decide +kernel) rfl ?_
                    refine zwW_gc Ih109 (kd := 13) (bn := 66) (n := 97) (c := 177) (nx := 120) (by decide +kernel) ?_
                    refine zwW_p [(1, 4, 0)] (q := 122) (ls' := [(2, 37), (0, a), (0, kL2), (0, v12), (0, v13)]) (st' := [(0, v13), (2, 177), (0, v13), (2, 177)]) (by decide +kernel) rfl ?_
                    refine zwW_al Ih109 (a1 := 177) (a2 := 177) (kd := 20) (n := 8) (t := 0) (lo := -2147483648) (hi := 2147483647) (nx := 123) (by decide +kernel) (by first | decide | exact ⟨by decide, by decide⟩) (by first | omega | exact ⟨by omega, by omega⟩) ?_
                    intro v112 ev112 lv112 uv112
                    refine zwW_p [(0, 5, 0)] (q := 124) (ls' := [(2, 37), (0, a), (0, kL2), (0, v12), (0, v13)]) (st' := [(0, 5), (0, v112), (0, v13), (2, 177)]) (by decide +kernel) rfl ?_
                    refine zwW_adw (nx := 125) (by decide +kernel) ?_
                    intro v113 ev113 lv113 uv113
                    refine zwW_p [(0, 9999, 0)] (q := 128) (ls' := [(2, 37), (0, a), (0, kL2), (0, v12), (0, v13)]) (st' := [(0, 9999), (0, v113), (0, v13), (2, 177)]) (by decide +kernel) rfl ?_
                    refine zwic_le (q := 137) (nx := 131) (by decide +kernel) (fun c114 => ?_) (fun c114 => ?_)
                    · refine zwW_p [(1, 0, 2)] (q := 138) (ls' := [(2, 37), (0, a), (0, kL2), (0, v12), (0, v13)]) (st' := [(2, 37), (0, v13), (2, 177)]) (by decide +kernel) rfl ?_
                      refine zwW_gc Ih109 (kd := 13) (bn := 66) (n := 97) (c := 177) (nx := 141) (by decide +kernel) ?_
                      refine zwW_p [(1, 4, 0)] (q := 143) (ls' := [(2, 37), (0, a), (0, kL2), (0, v12), (0, v13)]) (st' := [(0, v13), (2, 177), (0, v13), (2, 177)]) (by decide +kernel) rfl ?_
                      refine zwW_al Ih109 (a1 := 177) (a2 := 177) (kd := 20) (n := 8) (t := 0) (lo := -2147483648) (hi := 2147483647) (nx := 144) (by decide +kernel) (by first | decide | exact ⟨by decide, by decide⟩) (by first | omega | exact ⟨by omega, by omega⟩) ?_
                      intro v115 ev115 lv115 uv115
                      refine zwW_p [(0, 5, 0)] (q := 145) (ls' := [(2, 37), (0, a), (0, kL2), (0, v12), (0, v13)]) (st' := [(0, 5), (0, v115), (0, v13), (2, 177)]) (by decide +kernel) rfl ?_
                      refine zwW_adw (nx := 146) (by decide +kernel) ?_
                      intro v116 ev116 lv116 uv116
                      refine zwW_as Ih109 (a1 := 177) (a2 := 177) (n := 8) (lo := -2147483648) (hi := 2147483647) (nx := 147) (by decide +kernel) (by first | decide | exact ⟨by decide, by decide⟩) (by first | omega | exact ⟨by omega, by omega⟩) (by first | omega | exact ⟨by omega, by omega⟩) ?_
                      intro h117 eh117 Ih117
                      have Rh117 : zMR ms164 h h117 := Rh109.w (a1 := 177) (a2 := 177) (j1 := 0) (j2 := 8) (by decide +kernel) (by first | decide | exact ⟨by decide, by decide⟩) (by first | omega | exact ⟨by omega, by omega⟩) eh117
                      refine zwW_inc (i := 2) (c := 1) (x := kL2) (nx := 150) (by decide +kernel) rfl (by first | omega | exact ⟨by omega, by omega⟩) (ls' := [(2, 37), (0, a), (0, (kL2 + 1)), (0, v12), (0, v13)]) rfl ?_
                      refine zwW_p [(24, 6, 0)] (q := 6) (ls' := [(2, 37), (0, a), (0, (kL2 + 1)), (0, v12), (0, v13)]) (st' := []) (by decide +kernel) rfl ?_
                      exact IHL2 ((100 - (kL2 + 1))).toNat (by omega) (kL2 + 1) (0, v12) (0, v13) h117 rfl (by omega) Ih117 Rh117
                    · refine zwW_p [(0, 9999, 0), (24, 146, 0)] (q := 146) (ls' := [(2, 37), (0, a), (0, kL2), (0, v12), (0, v13)]) (st' := [(0, 9999), (0, v13), (2, 177)]) (by decide +kernel) rfl ?_
                      refine zwW_as Ih109 (a1 := 177) (a2 := 177) (n := 8) (lo := -2147483648) (hi := 2147483647) (nx := 147) (by decide +kernel) (by first | decide | exact ⟨by decide, by decide⟩) (by first | omega | exact ⟨by omega, by omega⟩) (by first | decide | exact ⟨by decide, by decide⟩) ?_
                      intro h118 eh118 Ih118
                      have Rh118 : zMR ms164 h h118 := Rh109.w (a1 := 177) (a2 := 177) (j1 := 0) (j2 := 8) (by decide +kernel) (by first | decide | exact ⟨by decide, by decide⟩) (by first | omega | exact ⟨by omega, by omega⟩) eh118
                      refine zwW_inc (i := 2) (c := 1) (x := kL2) (nx := 150) (by decide +kernel) rfl (by first | omega | exact ⟨by omega, by omega⟩) (ls' := [(2, 37), (0, a), (0, (kL2 + 1)), (0, v12), (0, v13)]) rfl ?_
                      refine zwW_p [(24, 6, 0)] (q := 6) (ls' := [(2, 37), (0, a), (0, (kL2 + 1)), (0, v12), (0, v13)]) (st' := []) (by decide +kernel) rfl ?_
                      exact IHL2 ((100 - (kL2 + 1))).toNat (by omega) (kL2 + 1) (0, v12) (0, v13) h118 rfl (by omega) Ih118 Rh118
        · refine zwW_p [(24, 147, 0)] (q := 147) (ls' := [(2, 37), (0, a), (0, kL2), w3L2, w4L2]) (st' := []) (by decide +kernel) rfl ?_
          refine zwW_inc (i := 2) (c := 1) (x := kL2) (nx := 150) (by decide +kernel) rfl (by first | omega | exact ⟨by omega, by omega⟩) (ls' := [(2, 37), (0, a), (0, (kL2 + 1)), w3L2, w4L2]) rfl ?_
          refine zwW_p [(24, 6, 0)] (q := 6) (ls' := [(2, 37), (0, a), (0, (kL2 + 1)), w3L2, w4L2]) (st' := []) (by decide +kernel) rfl ?_
          exact IHL2 ((100 - (kL2 + 1))).toNat (by omega) (kL2 + 1) w3L2 w4L2 hL2 rfl (by omega) IhL2 RhL2
  exact L2 _ 0 (9, 0) (9, 0) h1 rfl (by omega) Ih1 Rh1
def ms74 : Zms := [(176, 176, 0, 20), (177, 177, 0, 8), (178, 178, 0, 20), (179, 179, 0, 20)]
-- WheelLandModel.best(II)I
theorem m74 {sc : List Int} (h : Hp) (I : zI h) (a b : Int) (hA : zAM h) : zwC sc 4 74 [(2, 37), (0, a), (0, b)] h (zwRt 0 (fun x g => zI g ∧ zMR ms74 h g ∧ (-2147483648 ≤ x ∧ x ≤ 2147483647))) := by
  refine zwC_of (D := 3) 7 (by decide +kernel) rfl (ls := [(2, 37), (0, a), (0, b), (9, 0), (9, 0), (9, 0), (9, 0)]) rfl ?_
  have R : zMR ms74 h h := zMR.rf _ _
  have B0 := I.b (a1 := 37) (a2 := 37) (j1 := 2) (j2 := 3) (lo := 0) (hi := 20) (by decide +kernel) (r := 37) (j := 2) (by decide) (by decide) (by decide) (by decide)
  refine zwW_p [(1, 1, 0)] (q := 1) (ls' := [(2, 37), (0, a), (0, b), (9, 0), (9, 0), (9, 0), (9, 0)]) (st' := [(0, a)]) (by decide +kernel) rfl ?_
  refine zwif_lt (q := 26) (nx := 4) (by decide +kernel) (fun c1 => ?_) (fun c1 => ?_)
  · refine zwW_p [(0, -1, 0)] (q := 27) (ls' := [(2, 37), (0, a), (0, b), (9, 0), (9, 0), (9, 0), (9, 0)]) (st' := [(0, -1)]) (by decide +kernel) rfl ?_
    refine zwW_ret (nx := 28) (a := 0) (b := 0) (by decide +kernel) rfl (Or.inl rfl) ?_
    exact ⟨I, R, by omega⟩
  · refine zwW_p [(1, 2, 0), (7, 0, 0), (0, 0, 1), (0, 2, 1)] (q := 10) (ls' := [(2, 37), (0, a), (0, b), (9, 0), (9, 0), (9, 0), (9, 0)]) (st' := [(1, 2), (1, 0), (1, b)]) (by decide +kernel) rfl ?_
    refine zwW_cs (k' := 101) (n := 3) (nx := 13) (as := [(1, b), (1, 0), (1, 2)]) (st' := []) (by decide +kernel) rfl (m101 h b 0 2) rfl ?_
    rintro x _ ⟨rfl, ⟨rfl, c2⟩ | ⟨rfl, c2⟩⟩
    · refine zwif_eq (q := 26) (nx := 16) (by decide +kernel) (fun c3 => ?_) (fun c3 => ?_)
      · exfalso; omega
      · refine zwW_p [(1, 0, 2)] (q := 17) (ls' := [(2, 37), (0, a), (0, b), (9, 0), (9, 0), (9, 0), (9, 0)]) (st' := [(2, 37)]) (by decide +kernel) rfl ?_
        refine zwW_gs I (kd := 13) (bn := 0) (n := 97) (t := 0) (lo := 0) (hi := 156) (nx := 20) (by decide +kernel) ?_
        intro v4 ev4 lv4 uv4
        refine zwW_p [(0, 156, 0)] (q := 23) (ls' := [(2, 37), (0, a), (0, b), (9, 0), (9, 0), (9, 0), (9, 0)]) (st' := [(0, 156), (0, v4)]) (by decide +kernel) rfl ?_
        refine zwic_ne (q := 28) (nx := 26) (by decide +kernel) (fun c5 => ?_) (fun c5 => ?_)
        · refine zwW_p [(0, 0, 0), (2, 3, 0), (1, 0, 2), (0, 0, 0)] (q := 32) (ls' := [(2, 37), (0, a), (0, b), (0, 0), (9, 0), (9, 0), (9, 0)]) (st' := [(0, 0), (2, 37)]) (by decide +kernel) rfl ?_
          refine zwW_cm I (op := 60) (k' := 164) (n := 1) (kd := 13) (m := 97) (nx := 35) (r := 37) (tl := [(0, 0)]) (st' := []) (by decide +kernel) rfl (by decide +kernel) rfl (m164 h I 0 (by omega) (hA.mr R (by decide +kernel) (by omega))) ?_
          rintro v6 h8 ⟨Ih8, Qh8, f7⟩
          have Rh8 : zMR ms74 h h8 := R.tr Qh8 (by decide +kernel)
          refine zwW_p [(2, 4, 0), (0, 1, 0), (2, 5, 0)] (q := 40) (ls' := [(2, 37), (0, a), (0, b), (0, 0), (0, v6), (0, 1), (9, 0)]) (st' := []) (by decide +kernel) rfl ?_
          have L9 : ∀ (n : Nat) (zL9 mL9 qL9 : Int) (w6L9 : Vl) (hL9 : Hp), n = ((2147483648 - qL9)).toNat → (0 ≤ qL9 ∧ qL9 ≤ 2147483647) → (-2147483648 ≤ zL9 ∧ zL9 ≤ 2147483647) → (-2147483648 ≤ mL9 ∧ mL9 ≤ 2147483647) → zI hL9 → zMR ms74 h hL9 → zwW sc (3) 74 40 [(2, 37), (0, a), (0, b), (0, zL9), (0, mL9), (0, qL9), w6L9] [] hL9 (zwRt 0 (fun x g => zI g ∧ zMR ms74 h g ∧ (-2147483648 ≤ x ∧ x ≤ 2147483647))) := by
            intro n
            induction n using Nat.strongRecOn with
            | ind n IHL9 =>
              intro zL9 mL9 qL9 w6L9 hL9 hnL9 iL9_0 iL9_1 iL9_2 IhL9 RhL9
              refine zwW_p [(1, 5, 0), (0, 1, 0), (1, 0, 2)] (q := 44) (ls' := [(2, 37), (0, a), (0, b), (0, zL9), (0, mL9), (0, qL9), w6L9]) (st' := [(2, 37), (0, 1), (0, qL9)]) (by decide +kernel) rfl ?_
              refine zwW_gs IhL9 (kd := 13) (bn := 96) (n := 97) (t := 0) (lo := 0) (hi := 8) (nx := 47) (by decide +kernel) ?_
              intro v10 ev10 lv10 uv10
              refine zwW_any2 (a := 8) (nx := 48) (by decide +kernel) rfl (by first | omega | exact ⟨by omega, by omega⟩) (Or.inr (by first | decide | exact ⟨by decide, by decide⟩)) ?_
              intro v11 lv11 uv11
              refine zwic_ge (q := 116) (nx := 51) (by decide +kernel) (fun c12 => ?_) (fun c12 => ?_)
              · refine zwW_p [(1, 2, 0)] (q := 117) (ls' := [(2, 37), (0, a), (0, b), (0, zL9), (0, mL9), (0, qL9), w6L9]) (st' := [(0, b)]) (by decide +kernel) rfl ?_
                refine zwif_ne (q := 124) (nx := 120) (by decide +kernel) (fun c13 => ?_) (fun c13 => ?_)
                · refine zwW_p [(1, 2, 0), (0, 1, 0)] (q := 126) (ls' := [(2, 37), (0, a), (0, b), (0, zL9), (0, mL9), (0, qL9), w6L9]) (st' := [(0, 1), (0, b)]) (by decide +kernel) rfl ?_
                  refine zwic_ne (q := 134) (nx := 129) (by decide +kernel) (fun c14 => ?_) (fun c14 => ?_)
                  · refine zwW_p [(1, 0, 2), (1, 3, 0)] (q := 136) (ls' := [(2, 37), (0, a), (0, b), (0, zL9), (0, mL9), (0, qL9), w6L9]) (st' := [(0, zL9), (2, 37)]) (by decide +kernel) rfl ?_
                    refine zwW_cm IhL9 (op := 60) (k' := 165) (n := 1) (kd := 13) (m := 97) (nx := 139) (r := 37) (tl := [(0, zL9)]) (st' := []) (by decide +kernel) rfl (by decide +kernel) rfl (m165 hL9 IhL9 zL9 (by omega)) ?_
                    rintro v15 _ ⟨rfl, f16⟩
                    refine zwW_ret (nx := 140) (a := 0) (b := 0) (by decide +kernel) rfl (Or.inl rfl) ?_
                    exact ⟨IhL9, RhL9, by omega⟩
                  · refine zwW_p [(1, 4, 0), (24, 139, 0)] (q := 139) (ls' := [(2, 37), (0, a), (0, b), (0, zL9), (0, mL9), (0, qL9), w6L9]) (st' := [(0, mL9)]) (by decide +kernel) rfl ?_
                    refine zwW_ret (nx := 140) (a := 0) (b := 0) (by decide +kernel) rfl (Or.inl rfl) ?_
                    exact ⟨IhL9, RhL9, by omega⟩
                · refine zwW_p [(1, 3, 0), (24, 139, 0)] (q := 139) (ls' := [(2, 37), (0, a), (0, b), (0, zL9), (0, mL9), (0, qL9), w6L9]) (st' := [(0, zL9)]) (by decide +kernel) rfl ?_
                  refine zwW_ret (nx := 140) (a := 0) (b := 0) (by decide +kernel) rfl (Or.inl rfl) ?_
                  exact ⟨IhL9, RhL9, by omega⟩
              · refine zwW_p [(1, 0, 2), (1, 5, 0)] (q := 54) (ls' := [(2, 37), (0, a), (0, b), (0, zL9), (0, mL9), (0, qL9), w6L9]) (st' := [(0, qL9), (2, 37)]) (by decide +kernel) rfl ?_
                refine zwW_cm IhL9 (op := 60) (k' := 165) (n := 1) (kd := 13) (m := 97) (nx := 57) (r := 37) (tl := [(0, qL9)]) (st' := []) (by decide +kernel) rfl (by decide +kernel) rfl (m165 hL9 IhL9 qL9 (by omega)) ?_
                rintro v17 _ ⟨rfl, f18⟩
                refine zwW_p [(1, 1, 0)] (q := 58) (ls' := [(2, 37), (0, a), (0, b), (0, zL9), (0, mL9), (0, qL9), w6L9]) (st' := [(0, a), (0, v17)]) (by decide +kernel) rfl ?_
                refine zwic_le (q := 64) (nx := 61) (by decide +kernel) (fun c19 => ?_) (fun c19 => ?_)
                · refine zwW_p [(1, 0, 2), (1, 5, 0)] (q := 67) (ls' := [(2, 37), (0, a), (0, b), (0, zL9), (0, mL9), (0, qL9), w6L9]) (st' := [(0, qL9), (2, 37)]) (by decide +kernel) rfl ?_
                  refine zwW_cm IhL9 (op := 60) (k' := 164) (n := 1) (kd := 13) (m := 97) (nx := 70) (r := 37) (tl := [(0, qL9)]) (st' := []) (by decide +kernel) rfl (by decide +kernel) rfl (m164 hL9 IhL9 qL9 (by omega) (hA.mr RhL9 (by decide +kernel) (by omega))) ?_
                  rintro v20 h22 ⟨Ih22, Qh22, f21⟩
                  have Rh22 : zMR ms74 h h22 := RhL9.tr Qh22 (by decide +kernel)
                  refine zwW_p [(2, 6, 0), (1, 6, 0), (1, 4, 0)] (q := 76) (ls' := [(2, 37), (0, a), (0, b), (0, zL9), (0, mL9), (0, qL9), (0, v20)]) (st' := [(0, mL9), (0, v20)]) (by decide +kernel) rfl ?_
                  refine zwic_lt (q := 110) (nx := 79) (by decide +kernel) (fun c23 => ?_) (fun c23 => ?_)
                  · refine zwW_inc (i := 5) (c := 1) (x := qL9) (nx := 113) (by decide +kernel) rfl (by first | omega | exact ⟨by omega, by omega⟩) (ls' := [(2, 37), (0, a), (0, b), (0, zL9), (0, mL9), (0, (qL9 + 1)), (0, v20)]) rfl ?_
                    refine zwW_p [(24, 40, 0)] (q := 40) (ls' := [(2, 37), (0, a), (0, b), (0, zL9), (0, mL9), (0, (qL9 + 1)), (0, v20)]) (st' := []) (by decide +kernel) rfl ?_
                    exact IHL9 ((2147483648 - (qL9 + 1))).toNat (by omega) zL9 mL9 (qL9 + 1) (0, v20) h22 rfl (by omega) (by omega) (by omega) Ih22 Rh22
                  · refine zwW_p [(1, 6, 0), (1, 4, 0)] (q := 83) (ls' := [(2, 37), (0, a), (0, b), (0, zL9), (0, mL9), (0, qL9), (0, v20)]) (st' := [(0, mL9), (0, v20)]) (by decide +kernel) rfl ?_
                    refine zwic_ne (q := 103) (nx := 86) (by decide +kernel) (fun c24 => ?_) (fun c24 => ?_)
                    · refine zwW_p [(1, 5, 0), (2, 3, 0), (1, 6, 0), (2, 4, 0)] (q := 110) (ls' := [(2, 37), (0, a), (0, b), (0, qL9), (0, v20), (0, qL9), (0, v20)]) (st' := []) (by decide +kernel) rfl ?_
                      refine zwW_inc (i := 5) (c := 1) (x := qL9) (nx := 113) (by decide +kernel) rfl (by first | omega | exact ⟨by omega, by omega⟩) (ls' := [(2, 37), (0, a), (0, b), (0, qL9), (0, v20), (0, (qL9 + 1)), (0, v20)]) rfl ?_
                      refine zwW_p [(24, 40, 0)] (q := 40) (ls' := [(2, 37), (0, a), (0, b), (0, qL9), (0, v20), (0, (qL9 + 1)), (0, v20)]) (st' := []) (by decide +kernel) rfl ?_
                      exact IHL9 ((2147483648 - (qL9 + 1))).toNat (by omega) qL9 v20 (qL9 + 1) (0, v20) h22 rfl (by omega) (by omega) (by omega) Ih22 Rh22
                    · refine zwW_p [(1, 0, 2), (1, 5, 0)] (q := 89) (ls' := [(2, 37), (0, a), (0, b), (0, zL9), (0, mL9), (0, qL9), (0, v20)]) (st' := [(0, qL9), (2, 37)]) (by decide +kernel) rfl ?_
                      refine zwW_cm Ih22 (op := 60) (k' := 165) (n := 1) (kd := 13) (m := 97) (nx := 92) (r := 37) (tl := [(0, qL9)]) (st' := []) (by decide +kernel) rfl (by decide +kernel) rfl (m165 h22 Ih22 qL9 (by omega)) ?_
                      rintro v25 _ ⟨rfl, f26⟩
                      refine zwW_p [(1, 0, 2), (1, 3, 0)] (q := 94) (ls' := [(2, 37), (0, a), (0, b), (0, zL9), (0, mL9), (0, qL9), (0, v20)]) (st' := [(0, zL9), (2, 37), (0, v25)]) (by decide +kernel) rfl ?_
                      refine zwW_cm Ih22 (op := 60) (k' := 165) (n := 1) (kd := 13) (m := 97) (nx := 97) (r := 37) (tl := [(0, zL9)]) (st' := [(0, v25)]) (by decide +kernel) rfl (by decide +kernel) rfl (m165 h22 Ih22 zL9 (by omega)) ?_
                      rintro v27 _ ⟨rfl, f28⟩
                      refine zwic_lt (q := 103) (nx := 100) (by decide +kernel) (fun c29 => ?_) (fun c29 => ?_)
                      · refine zwW_p [(1, 5, 0), (2, 3, 0), (1, 6, 0), (2, 4, 0)] (q := 110) (ls' := [(2, 37), (0, a), (0, b), (0, qL9), (0, v20), (0, qL9), (0, v20)]) (st' := []) (by decide +kernel) rfl ?_
                        refine zwW_inc (i := 5) (c := 1) (x := qL9) (nx := 113) (by decide +kernel) rfl (by first | omega | exact ⟨by omega, by omega⟩) (ls' := [(2, 37), (0, a), (0, b), (0, qL9), (0, v20), (0, (qL9 + 1)), (0, v20)]) rfl ?_
                        refine zwW_p [(24, 40, 0)] (q := 40) (ls' := [(2, 37), (0, a), (0, b), (0, qL9), (0, v20), (0, (qL9 + 1)), (0, v20)]) (st' := []) (by decide +kernel) rfl ?_
                        exact IHL9 ((2147483648 - (qL9 + 1))).toNat (by omega) qL9 v20 (qL9 + 1) (0, v20) h22 rfl (by omega) (by omega) (by omega) Ih22 Rh22
                      · refine zwW_p [(24, 110, 0)] (q := 110) (ls' := [(2, 37), (0, a), (0, b), (0, zL9), (0, mL9), (0, qL9), (0, v20)]) (st' := []) (by decide +kernel) rfl ?_
                        refine zwW_inc (i := 5) (c := 1) (x := qL9) (nx := 113) (by decide +kernel) rfl (by first | omega | exact ⟨by omega, by omega⟩) (ls' := [(2, 37), (0, a), (0, b), (0, zL9), (0, mL9), (0, (qL9 + 1)), (0, v20)]) rfl ?_
                        refine zwW_p [(24, 40, 0)] (q := 40) (ls' := [(2, 37), (0, a), (0, b), (0, zL9), (0, mL9), (0, (qL9 + 1)), (0, v20)]) (st' := []) (by decide +kernel) rfl ?_
                        exact IHL9 ((2147483648 - (qL9 + 1))).toNat (by omega) zL9 mL9 (qL9 + 1) (0, v20) h22 rfl (by omega) (by omega) (by omega) Ih22 Rh22
                · refine zwW_p [(24, 110, 0)] (q := 110) (ls' := [(2, 37), (0, a), (0, b), (0, zL9), (0, mL9), (0, qL9), w6L9]) (st' := []) (by decide +kernel) rfl ?_
                  refine zwW_inc (i := 5) (c := 1) (x := qL9) (nx := 113) (by decide +kernel) rfl (by first | omega | exact ⟨by omega, by omega⟩) (ls' := [(2, 37), (0, a), (0, b), (0, zL9), (0, mL9), (0, (qL9 + 1)), w6L9]) rfl ?_
                  refine zwW_p [(24, 40, 0)] (q := 40) (ls' := [(2, 37), (0, a), (0, b), (0, zL9), (0, mL9), (0, (qL9 + 1)), w6L9]) (st' := []) (by decide +kernel) rfl ?_
                  exact IHL9 ((2147483648 - (qL9 + 1))).toNat (by omega) zL9 mL9 (qL9 + 1) w6L9 hL9 rfl (by omega) (by omega) (by omega) IhL9 RhL9
          exact L9 _ 0 v6 1 (9, 0) h8 rfl (by omega) (by omega) (by omega) Ih8 Rh8
        · refine zwW_p [(0, -1, 0)] (q := 27) (ls' := [(2, 37), (0, a), (0, b), (9, 0), (9, 0), (9, 0), (9, 0)]) (st' := [(0, -1)]) (by decide +kernel) rfl ?_
          refine zwW_ret (nx := 28) (a := 0) (b := 0) (by decide +kernel) rfl (Or.inl rfl) ?_
          exact ⟨I, R, by omega⟩
    · refine zwif_eq (q := 26) (nx := 16) (by decide +kernel) (fun c30 => ?_) (fun c30 => ?_)
      · refine zwW_p [(0, -1, 0)] (q := 27) (ls' := [(2, 37), (0, a), (0, b), (9, 0), (9, 0), (9, 0), (9, 0)]) (st' := [(0, -1)]) (by decide +kernel) rfl ?_
        refine zwW_ret (nx := 28) (a := 0) (b := 0) (by decide +kernel) rfl (Or.inl rfl) ?_
        exact ⟨I, R, by omega⟩
      · exfalso; omega
-- WheelLandModel.hungry(I)I
theorem m76 {sc : List Int} (h : Hp) (I : zI h) (a : Int) : zwC sc 2 76 [(2, 37), (0, a)] h (zwRt 0 (fun x g => h = g ∧ (-2147483648 ≤ x ∧ x ≤ 2147483647))) := by
  refine zwC_of (D := 1) 4 (by decide +kernel) rfl (ls := [(2, 37), (0, a), (9, 0), (9, 0)]) rfl ?_
  refine zwW_p [(1, 1, 0), (7, 0, 0), (0, 1, 1), (0, 99, 1)] (q := 6) (ls' := [(2, 37), (0, a), (9, 0), (9, 0)]) (st' := [(1, 99), (1, 1), (1, a)]) (by decide +kernel) rfl ?_
  refine zwW_cs (k' := 101) (n := 3) (nx := 9) (as := [(1, a), (1, 1), (1, 99)]) (st' := []) (by decide +kernel) rfl (m101 h a 1 99) rfl ?_
  rintro x _ ⟨rfl, ⟨rfl, c1⟩ | ⟨rfl, c1⟩⟩
  · refine zwif_ne (q := 14) (nx := 12) (by decide +kernel) (fun c2 => ?_) (fun c2 => ?_)
    · refine zwW_p [(0, 0, 0), (2, 2, 0), (0, 0, 0), (2, 3, 0)] (q := 18) (ls' := [(2, 37), (0, a), (0, 0), (0, 0)]) (st' := []) (by decide +kernel) rfl ?_
      have L3 : ∀ (n : Nat) (nL3 qL3 : Int), n = ((100 - qL3)).toNat → (0 ≤ qL3 ∧ qL3 ≤ 20) → (-2147483648 ≤ nL3 ∧ nL3 ≤ 2147483647) → zwW sc (1) 76 18 [(2, 37), (0, a), (0, nL3), (0, qL3)] [] h (zwRt 0 (fun x g => h = g ∧ (-2147483648 ≤ x ∧ x ≤ 2147483647))) := by
        intro n
        induction n using Nat.strongRecOn with
        | ind n IHL3 =>
          intro nL3 qL3 hnL3 iL3_0 iL3_1
          refine zwW_p [(1, 3, 0), (1, 0, 2)] (q := 20) (ls' := [(2, 37), (0, a), (0, nL3), (0, qL3)]) (st' := [(2, 37), (0, qL3)]) (by decide +kernel) rfl ?_
          refine zwW_gs I (kd := 13) (bn := 2) (n := 97) (t := 0) (lo := 0) (hi := 20) (nx := 23) (by decide +kernel) ?_
          intro v4 ev4 lv4 uv4
          refine zwic_ge (q := 59) (nx := 26) (by decide +kernel) (fun c5 => ?_) (fun c5 => ?_)
          · refine zwW_p [(1, 2, 0)] (q := 60) (ls' := [(2, 37), (0, a), (0, nL3), (0, qL3)]) (st' := [(0, nL3)]) (by decide +kernel) rfl ?_
            refine zwW_ret (nx := 61) (a := 0) (b := 0) (by decide +kernel) rfl (Or.inl rfl) ?_
            exact ⟨rfl, by omega⟩
          · refine zwW_p [(1, 2, 0), (1, 0, 2)] (q := 28) (ls' := [(2, 37), (0, a), (0, nL3), (0, qL3)]) (st' := [(2, 37), (0, nL3)]) (by decide +kernel) rfl ?_
            refine zwW_gc I (kd := 13) (bn := 25) (n := 97) (c := 84) (nx := 31) (by decide +kernel) ?_
            refine zwW_p [(1, 3, 0)] (q := 32) (ls' := [(2, 37), (0, a), (0, nL3), (0, qL3)]) (st' := [(0, qL3), (2, 84), (0, nL3)]) (by decide +kernel) rfl ?_
            refine zwW_al I (a1 := 84) (a2 := 84) (kd := 20) (n := 20) (t := 0) (lo := -2147483648) (hi := 2147483647) (nx := 33) (by decide +kernel) (by first | decide | exact ⟨by decide, by decide⟩) (by first | omega | exact ⟨by omega, by omega⟩) ?_
            intro v6 ev6 lv6 uv6
            refine zwW_p [(1, 0, 2)] (q := 34) (ls' := [(2, 37), (0, a), (0, nL3), (0, qL3)]) (st' := [(2, 37), (0, v6), (0, nL3)]) (by decide +kernel) rfl ?_
            refine zwW_gc I (kd := 13) (bn := 24) (n := 97) (c := 83) (nx := 37) (by decide +kernel) ?_
            refine zwW_p [(1, 3, 0)] (q := 38) (ls' := [(2, 37), (0, a), (0, nL3), (0, qL3)]) (st' := [(0, qL3), (2, 83), (0, v6), (0, nL3)]) (by decide +kernel) rfl ?_
            refine zwW_al I (a1 := 83) (a2 := 83) (kd := 20) (n := 20) (t := 0) (lo := 0) (hi := 9) (nx := 39) (by decide +kernel) (by first | decide | exact ⟨by decide, by decide⟩) (by first | omega | exact ⟨by omega, by omega⟩) ?_
            intro v7 ev7 lv7 uv7
            refine zwW_p [(1, 1, 0)] (q := 40) (ls' := [(2, 37), (0, a), (0, nL3), (0, qL3)]) (st' := [(0, a), (0, v7), (0, v6), (0, nL3)]) (by decide +kernel) rfl ?_
            refine zwW_mulp (A := 9) (B := 99) (nx := 41) (by decide +kernel) (by first | omega | exact ⟨by omega, by omega⟩) (by first | omega | exact ⟨by omega, by omega⟩) (by decide) ?_
            intro v8 ev8 lv8 uv8
            refine zwic_ge (q := 50) (nx := 44) (by decide +kernel) (fun c9 => ?_) (fun c9 => ?_)
            · refine zwW_p [(0, 0, 0)] (q := 51) (ls' := [(2, 37), (0, a), (0, nL3), (0, qL3)]) (st' := [(0, 0), (0, nL3)]) (by decide +kernel) rfl ?_
              refine zwW_any2 (a := 6) (nx := 52) (by decide +kernel) rfl (by first | omega | exact ⟨by omega, by omega⟩) (Or.inr (by first | decide | exact ⟨by decide, by decide⟩)) ?_
              intro v10 lv10 uv10
              refine zwW_p [(2, 2, 0)] (q := 53) (ls' := [(2, 37), (0, a), (0, v10), (0, qL3)]) (st' := []) (by decide +kernel) rfl ?_
              refine zwW_inc (i := 3) (c := 1) (x := qL3) (nx := 56) (by decide +kernel) rfl (by first | omega | exact ⟨by omega, by omega⟩) (ls' := [(2, 37), (0, a), (0, v10), (0, (qL3 + 1))]) rfl ?_
              refine zwW_p [(24, 18, 0)] (q := 18) (ls' := [(2, 37), (0, a), (0, v10), (0, (qL3 + 1))]) (st' := []) (by decide +kernel) rfl ?_
              exact IHL3 ((100 - (qL3 + 1))).toNat (by omega) v10 (qL3 + 1) rfl (by omega) (by omega)
            · refine zwW_p [(0, 1, 0), (1, 3, 0)] (q := 46) (ls' := [(2, 37), (0, a), (0, nL3), (0, qL3)]) (st' := [(0, qL3), (0, 1), (0, nL3)]) (by decide +kernel) rfl ?_
              refine zwW_any2 (a := 8) (nx := 47) (by decide +kernel) rfl (by first | omega | exact ⟨by omega, by omega⟩) (Or.inr (by first | decide | exact ⟨by decide, by decide⟩)) ?_
              intro v11 lv11 uv11
              refine zwW_p [(24, 51, 0)] (q := 51) (ls' := [(2, 37), (0, a), (0, nL3), (0, qL3)]) (st' := [(0, v11), (0, nL3)]) (by decide +kernel) rfl ?_
              refine zwW_any2 (a := 6) (nx := 52) (by decide +kernel) rfl (by first | omega | exact ⟨by omega, by omega⟩) (Or.inr (by first | decide | exact ⟨by decide, by decide⟩)) ?_
              intro v12 lv12 uv12
              refine zwW_p [(2, 2, 0)] (q := 53) (ls' := [(2, 37), (0, a), (0, v12), (0, qL3)]) (st' := []) (by decide +kernel) rfl ?_
              refine zwW_inc (i := 3) (c := 1) (x := qL3) (nx := 56) (by decide +kernel) rfl (by first | omega | exact ⟨by omega, by omega⟩) (ls' := [(2, 37), (0, a), (0, v12), (0, (qL3 + 1))]) rfl ?_
              refine zwW_p [(24, 18, 0)] (q := 18) (ls' := [(2, 37), (0, a), (0, v12), (0, (qL3 + 1))]) (st' := []) (by decide +kernel) rfl ?_
              exact IHL3 ((100 - (qL3 + 1))).toNat (by omega) v12 (qL3 + 1) rfl (by omega) (by omega)
      exact L3 _ 0 0 rfl (by omega) (by omega)
    · exfalso; omega
  · refine zwif_ne (q := 14) (nx := 12) (by decide +kernel) (fun c13 => ?_) (fun c13 => ?_)
    · exfalso; omega
    · refine zwW_p [(0, -1, 0)] (q := 13) (ls' := [(2, 37), (0, a), (9, 0), (9, 0)]) (st' := [(0, -1)]) (by decide +kernel) rfl ?_
      refine zwW_ret (nx := 14) (a := 0) (b := 0) (by decide +kernel) rfl (Or.inl rfl) ?_
      exact ⟨rfl, by omega⟩
def ms78 : Zms := [(168, 168, 0, 13), (169, 169, 0, 420)]
-- WheelLandModel.keeps(II)I
theorem m78 {sc : List Int} (h : Hp) (I : zI h) (a b : Int) (hA : zAM h) (hW : zCW h) : zwC sc 5 78 [(2, 37), (0, a), (0, b)] h (zwRt 0 (fun x g => zI g ∧ zMR ms78 h g ∧ (-2147483648 ≤ x ∧ x ≤ 2147483647))) := by
  refine zwC_of (D := 4) 6 (by decide +kernel) rfl (ls := [(2, 37), (0, a), (0, b), (9, 0), (9, 0), (9, 0)]) rfl ?_
  have R : zMR ms78 h h := zMR.rf _ _
  have B0 := I.b (a1 := 37) (a2 := 37) (j1 := 2) (j2 := 3) (lo := 0) (hi := 20) (by decide +kernel) (r := 37) (j := 2) (by decide) (by decide) (by decide) (by decide)
  refine zwW_p [(1, 0, 2), (1, 1, 0)] (q := 2) (ls' := [(2, 37), (0, a), (0, b), (9, 0), (9, 0), (9, 0)]) (st' := [(0, a), (2, 37)]) (by decide +kernel) rfl ?_
  refine zwW_cm I (op := 60) (k' := 111) (n := 1) (kd := 13) (m := 97) (nx := 5) (r := 37) (tl := [(0, a)]) (st' := []) (by decide +kernel) rfl (by decide +kernel) rfl (m111 h I a) ?_
  rintro x _ ⟨rfl, ⟨rfl, c1⟩ | ⟨rfl, c1⟩⟩
  · refine zwif_eq (q := 30) (nx := 8) (by decide +kernel) (fun c2 => ?_) (fun c2 => ?_)
    · exfalso; omega
    · refine zwW_p [(1, 2, 0), (7, 0, 0), (0, 1, 1), (0, 99, 1)] (q := 14) (ls' := [(2, 37), (0, a), (0, b), (9, 0), (9, 0), (9, 0)]) (st' := [(1, 99), (1, 1), (1, b)]) (by decide +kernel) rfl ?_
      refine zwW_cs (k' := 101) (n := 3) (nx := 17) (as := [(1, b), (1, 1), (1, 99)]) (st' := []) (by decide +kernel) rfl (m101 h b 1 99) rfl ?_
      rintro x _ ⟨rfl, ⟨rfl, c3⟩ | ⟨rfl, c3⟩⟩
      · refine zwif_eq (q := 30) (nx := 20) (by decide +kernel) (fun c4 => ?_) (fun c4 => ?_)
        · exfalso; omega
        · refine zwW_p [(1, 0, 2)] (q := 21) (ls' := [(2, 37), (0, a), (0, b), (9, 0), (9, 0), (9, 0)]) (st' := [(2, 37)]) (by decide +kernel) rfl ?_
          refine zwW_gs I (kd := 13) (bn := 0) (n := 97) (t := 0) (lo := 0) (hi := 156) (nx := 24) (by decide +kernel) ?_
          intro v5 ev5 lv5 uv5
          refine zwW_p [(0, 156, 0)] (q := 27) (ls' := [(2, 37), (0, a), (0, b), (9, 0), (9, 0), (9, 0)]) (st' := [(0, 156), (0, v5)]) (by decide +kernel) rfl ?_
          refine zwic_ne (q := 32) (nx := 30) (by decide +kernel) (fun c6 => ?_) (fun c6 => ?_)
          · refine zwW_p [(1, 0, 2)] (q := 33) (ls' := [(2, 37), (0, a), (0, b), (9, 0), (9, 0), (9, 0)]) (st' := [(2, 37)]) (by decide +kernel) rfl ?_
            refine zwW_gc I (kd := 13) (bn := 20) (n := 97) (c := 79) (nx := 36) (by decide +kernel) ?_
            refine zwW_p [(1, 1, 0)] (q := 37) (ls' := [(2, 37), (0, a), (0, b), (9, 0), (9, 0), (9, 0)]) (st' := [(0, a), (2, 79)]) (by decide +kernel) rfl ?_
            refine zwW_al I (a1 := 79) (a2 := 79) (kd := 20) (n := 20) (t := 0) (lo := 0) (hi := 7) (nx := 38) (by decide +kernel) (by first | decide | exact ⟨by decide, by decide⟩) (by first | omega | exact ⟨by omega, by omega⟩) ?_
            intro v7 ev7 lv7 uv7
            refine zwW_p [(2, 3, 0), (1, 0, 2)] (q := 40) (ls' := [(2, 37), (0, a), (0, b), (0, v7), (9, 0), (9, 0)]) (st' := [(2, 37)]) (by decide +kernel) rfl ?_
            refine zwW_gc I (kd := 13) (bn := 21) (n := 97) (c := 80) (nx := 43) (by decide +kernel) ?_
            refine zwW_p [(1, 1, 0)] (q := 44) (ls' := [(2, 37), (0, a), (0, b), (0, v7), (9, 0), (9, 0)]) (st' := [(0, a), (2, 80)]) (by decide +kernel) rfl ?_
            refine zwW_al I (a1 := 80) (a2 := 80) (kd := 20) (n := 20) (t := 0) (lo := 0) (hi := 5) (nx := 45) (by decide +kernel) (by first | decide | exact ⟨by decide, by decide⟩) (by first | omega | exact ⟨by omega, by omega⟩) ?_
            intro v8 ev8 lv8 uv8
            refine zwW_p [(7, 0, 0), (1, 0, 2)] (q := 47) (ls' := [(2, 37), (0, a), (0, b), (0, v7), (9, 0), (9, 0)]) (st' := [(2, 37), (1, v8)]) (by decide +kernel) rfl ?_
            refine zwW_gc I (kd := 13) (bn := 3) (n := 97) (c := 38) (nx := 50) (by decide +kernel) ?_
            refine zwW_p [(1, 3, 0)] (q := 51) (ls' := [(2, 37), (0, a), (0, b), (0, v7), (9, 0), (9, 0)]) (st' := [(0, v7), (2, 38), (1, v8)]) (by decide +kernel) rfl ?_
            refine zwW_ro I (a := 38) (n := 8) (kd := 26) (base := 39) (step := 1) (nx := 52) (by decide +kernel) rfl (by first | omega | exact ⟨by omega, by omega⟩) ?_
            rw [show ((39 : Nat) : Int) + ((1 : Nat) : Int) * v7 = (39 + v7) by omega]
            refine zwW_p [(1, 0, 2)] (q := 53) (ls' := [(2, 37), (0, a), (0, b), (0, v7), (9, 0), (9, 0)]) (st' := [(2, 37), (2, (39 + v7)), (1, v8)]) (by decide +kernel) rfl ?_
            refine zwW_gs I (kd := 13) (bn := 0) (n := 97) (t := 0) (lo := 0) (hi := 156) (nx := 56) (by decide +kernel) ?_
            intro v9 ev9 lv9 uv9
            refine zwW_cs (k' := 174) (n := 1) (nx := 59) (as := [(0, v9)]) (st' := [(2, (39 + v7)), (1, v8)]) (by decide +kernel) rfl (m174 h v9 (by omega) (by omega)) rfl ?_
            rintro v10 _ ⟨rfl, f11, f12, f13, f14⟩
            refine zwW_al I (a1 := 39) (a2 := 46) (kd := 20) (n := 4) (t := 0) (lo := 0) (hi := 40) (nx := 60) (by decide +kernel) (by first | omega | exact ⟨by omega, by omega⟩) (by first | omega | exact ⟨by omega, by omega⟩) ?_
            intro v15 ev15 lv15 uv15
            refine zwW_p [(7, 0, 0)] (q := 61) (ls' := [(2, 37), (0, a), (0, b), (0, v7), (9, 0), (9, 0)]) (st' := [(1, v15), (1, v8)]) (by decide +kernel) rfl ?_
            refine zwW_lmulp (A := 5) (B := 40) (nx := 62) (by decide +kernel) (by first | omega | exact ⟨by omega, by omega⟩) (by first | omega | exact ⟨by omega, by omega⟩) (by decide) ?_
            intro v16 ev16 lv16 uv16
            refine zwW_p [(0, 10, 0), (1, 0, 2)] (q := 65) (ls' := [(2, 37), (0, a), (0, b), (0, v7), (9, 0), (9, 0)]) (st' := [(2, 37), (0, 10), (1, v16)]) (by decide +kernel) rfl ?_
            refine zwW_gc I (kd := 13) (bn := 22) (n := 97) (c := 81) (nx := 68) (by decide +kernel) ?_
            refine zwW_p [(1, 1, 0)] (q := 69) (ls' := [(2, 37), (0, a), (0, b), (0, v7), (9, 0), (9, 0)]) (st' := [(0, a), (2, 81), (0, 10), (1, v16)]) (by decide +kernel) rfl ?_
            refine zwW_al I (a1 := 81) (a2 := 81) (kd := 20) (n := 20) (t := 0) (lo := 0) (hi := 9) (nx := 70) (by decide +kernel) (by first | decide | exact ⟨by decide, by decide⟩) (by first | omega | exact ⟨by omega, by omega⟩) ?_
            intro v17 ev17 lv17 uv17
            refine zwW_add (nx := 71) (by decide +kernel) (by first | omega | exact ⟨by omega, by omega⟩) ?_
            refine zwW_p [(7, 0, 0)] (q := 72) (ls' := [(2, 37), (0, a), (0, b), (0, v7), (9, 0), (9, 0)]) (st' := [(1, (10 + v17)), (1, v16)]) (by decide +kernel) rfl ?_
            refine zwW_lmulp (A := 200) (B := 19) (nx := 73) (by decide +kernel) (by first | omega | exact ⟨by omega, by omega⟩) (by first | omega | exact ⟨by omega, by omega⟩) (by decide) ?_
            intro v18 ev18 lv18 uv18
            refine zwW_p [(1, 0, 2)] (q := 74) (ls' := [(2, 37), (0, a), (0, b), (0, v7), (9, 0), (9, 0)]) (st' := [(2, 37), (1, v18)]) (by decide +kernel) rfl ?_
            refine zwW_gc I (kd := 13) (bn := 26) (n := 97) (c := 85) (nx := 77) (by decide +kernel) ?_
            refine zwW_p [(1, 1, 0)] (q := 78) (ls' := [(2, 37), (0, a), (0, b), (0, v7), (9, 0), (9, 0)]) (st' := [(0, a), (2, 85), (1, v18)]) (by decide +kernel) rfl ?_
            refine zwW_al I (a1 := 85) (a2 := 85) (kd := 20) (n := 20) (t := 0) (lo := 0) (hi := 60) (nx := 79) (by decide +kernel) (by first | decide | exact ⟨by decide, by decide⟩) (by first | omega | exact ⟨by omega, by omega⟩) ?_
            intro v19 ev19 lv19 uv19
            refine zwW_p [(0, 20, 0)] (q := 81) (ls' := [(2, 37), (0, a), (0, b), (0, v7), (9, 0), (9, 0)]) (st' := [(0, 20), (0, v19), (1, v18)]) (by decide +kernel) rfl ?_
            refine zwW_add (nx := 82) (by decide +kernel) (by first | omega | exact ⟨by omega, by omega⟩) ?_
            refine zwW_p [(7, 0, 0)] (q := 83) (ls' := [(2, 37), (0, a), (0, b), (0, v7), (9, 0), (9, 0)]) (st' := [(1, (v19 + 20)), (1, v18)]) (by decide +kernel) rfl ?_
            refine zwW_ldiv (nx := 84) (by decide +kernel) (by omega) (by omega) (by omega) ?_
            obtain ⟨v20, ev20⟩ : ∃ z, z = v18 / (v19 + 20) := ⟨_, rfl⟩
            rw [← ev20]
            have lv20 : 0 ≤ v20 := by rw [ev20]; exact Int.ediv_nonneg (by omega) (by omega)
            have uv20 : v20 ≤ v18 := by rw [ev20]; exact Int.ediv_le_self _ (by omega)
            refine zwW_p [(2, 4, 1), (1, 4, 1), (1, 0, 2)] (q := 89) (ls' := [(2, 37), (0, a), (0, b), (0, v7), (1, v20), (9, 0)]) (st' := [(2, 37), (1, v20)]) (by decide +kernel) rfl ?_
            refine zwW_gc I (kd := 13) (bn := 7) (n := 97) (c := 66) (nx := 92) (by decide +kernel) ?_
            refine zwW_p [(1, 3, 0)] (q := 93) (ls' := [(2, 37), (0, a), (0, b), (0, v7), (1, v20), (9, 0)]) (st' := [(0, v7), (2, 66), (1, v20)]) (by decide +kernel) rfl ?_
            refine zwW_al I (a1 := 66) (a2 := 66) (kd := 20) (n := 8) (t := 0) (lo := -2147483648) (hi := 2147483647) (nx := 94) (by decide +kernel) (by first | decide | exact ⟨by decide, by decide⟩) (by first | omega | exact ⟨by omega, by omega⟩) ?_
            intro v21 ev21 lv21 uv21
            refine zwW_p [(7, 0, 0), (1, 0, 2)] (q := 96) (ls' := [(2, 37), (0, a), (0, b), (0, v7), (1, v20), (9, 0)]) (st' := [(2, 37), (1, v21), (1, v20)]) (by decide +kernel) rfl ?_
            refine zwW_gc I (kd := 13) (bn := 26) (n := 97) (c := 85) (nx := 99) (by decide +kernel) ?_
            refine zwW_p [(1, 1, 0)] (q := 100) (ls' := [(2, 37), (0, a), (0, b), (0, v7), (1, v20), (9, 0)]) (st' := [(0, a), (2, 85), (1, v21), (1, v20)]) (by decide +kernel) rfl ?_
            refine zwW_al I (a1 := 85) (a2 := 85) (kd := 20) (n := 20) (t := 0) (lo := 0) (hi := 60) (nx := 101) (by decide +kernel) (by first | decide | exact ⟨by decide, by decide⟩) (by first | omega | exact ⟨by omega, by omega⟩) ?_
            intro v22 ev22 lv22 uv22
            refine zwW_p [(7, 0, 0)] (q := 102) (ls' := [(2, 37), (0, a), (0, b), (0, v7), (1, v20), (9, 0)]) (st' := [(1, v22), (1, v21), (1, v20)]) (by decide +kernel) rfl ?_
            refine zwW_lmw (nx := 103) (by decide +kernel) ?_
            intro v23 ev23 lv23 uv23
            refine zwlc_le (q := 124) (nx := 107) (m := 104) (by decide +kernel) (by decide +kernel) (fun c24 => ?_) (fun c24 => ?_)
            · refine zwW_p [(1, 0, 2), (1, 1, 0), (1, 0, 2)] (q := 127) (ls' := [(2, 37), (0, a), (0, b), (0, v7), (1, v20), (9, 0)]) (st' := [(2, 37), (0, a), (2, 37)]) (by decide +kernel) rfl ?_
              refine zwW_gc I (kd := 13) (bn := 23) (n := 97) (c := 82) (nx := 130) (by decide +kernel) ?_
              refine zwW_p [(1, 1, 0)] (q := 131) (ls' := [(2, 37), (0, a), (0, b), (0, v7), (1, v20), (9, 0)]) (st' := [(0, a), (2, 82), (0, a), (2, 37)]) (by decide +kernel) rfl ?_
              refine zwW_al I (a1 := 82) (a2 := 82) (kd := 20) (n := 20) (t := 0) (lo := 0) (hi := 5) (nx := 132) (by decide +kernel) (by first | decide | exact ⟨by decide, by decide⟩) (by first | omega | exact ⟨by omega, by omega⟩) ?_
              intro v25 ev25 lv25 uv25
              refine zwW_p [(1, 0, 2)] (q := 133) (ls' := [(2, 37), (0, a), (0, b), (0, v7), (1, v20), (9, 0)]) (st' := [(2, 37), (0, v25), (0, a), (2, 37)]) (by decide +kernel) rfl ?_
              refine zwW_gc I (kd := 13) (bn := 26) (n := 97) (c := 85) (nx := 136) (by decide +kernel) ?_
              refine zwW_p [(1, 1, 0)] (q := 137) (ls' := [(2, 37), (0, a), (0, b), (0, v7), (1, v20), (9, 0)]) (st' := [(0, a), (2, 85), (0, v25), (0, a), (2, 37)]) (by decide +kernel) rfl ?_
              refine zwW_al I (a1 := 85) (a2 := 85) (kd := 20) (n := 20) (t := 0) (lo := 0) (hi := 60) (nx := 138) (by decide +kernel) (by first | decide | exact ⟨by decide, by decide⟩) (by first | omega | exact ⟨by omega, by omega⟩) ?_
              intro v26 ev26 lv26 uv26
              refine zwW_p [(1, 0, 2), (1, 1, 0), (1, 0, 2)] (q := 141) (ls' := [(2, 37), (0, a), (0, b), (0, v7), (1, v20), (9, 0)]) (st' := [(2, 37), (0, a), (2, 37), (0, v26), (0, v25), (0, a), (2, 37)]) (by decide +kernel) rfl ?_
              refine zwW_gc I (kd := 13) (bn := 22) (n := 97) (c := 81) (nx := 144) (by decide +kernel) ?_
              refine zwW_p [(1, 1, 0)] (q := 145) (ls' := [(2, 37), (0, a), (0, b), (0, v7), (1, v20), (9, 0)]) (st' := [(0, a), (2, 81), (0, a), (2, 37), (0, v26), (0, v25), (0, a), (2, 37)]) (by decide +kernel) rfl ?_
              refine zwW_al I (a1 := 81) (a2 := 81) (kd := 20) (n := 20) (t := 0) (lo := 0) (hi := 9) (nx := 146) (by decide +kernel) (by first | decide | exact ⟨by decide, by decide⟩) (by first | omega | exact ⟨by omega, by omega⟩) ?_
              intro v27 ev27 lv27 uv27
              refine zwW_cm I (op := 60) (k' := 175) (n := 2) (kd := 13) (m := 97) (nx := 149) (r := 37) (tl := [(0, a), (0, v27)]) (st' := [(0, v26), (0, v25), (0, a), (2, 37)]) (by decide +kernel) rfl (by decide +kernel) rfl (m175 h I a v27 (by omega) (by omega)) ?_
              rintro v28 _ ⟨rfl, f29, f30⟩
              refine zwW_p [(1, 4, 1)] (q := 151) (ls' := [(2, 37), (0, a), (0, b), (0, v7), (1, v20), (9, 0)]) (st' := [(1, v20), (0, v28), (0, v26), (0, v25), (0, a), (2, 37)]) (by decide +kernel) rfl ?_
              refine zwW_l2i (nx := 152) (by decide +kernel) (by first | omega | exact ⟨by omega, by omega⟩) ?_
              refine zwW_p [(0, 0, 0)] (q := 153) (ls' := [(2, 37), (0, a), (0, b), (0, v7), (1, v20), (9, 0)]) (st' := [(0, 0), (0, v20), (0, v28), (0, v26), (0, v25), (0, a), (2, 37)]) (by decide +kernel) rfl ?_
              refine zwW_cmv I (op := 60) (k' := 176) (n := 6) (kd := 13) (m := 97) (nx := 156) (r := 37) (tl := [(0, a), (0, v25), (0, v26), (0, v28), (0, v20), (0, 0)]) (st' := []) (by decide +kernel) rfl (by decide +kernel) rfl (m176 h I a v25 v26 v28 v20 0 (by omega) (by omega) (by omega) (by omega) (by omega) (by omega) (by omega)) ?_
              rintro h31 ⟨Ih31, Qh31⟩
              have Rh31 : zMR ms78 h h31 := R.tr Qh31 (by decide +kernel)
              refine zwW_p [(1, 0, 2), (0, 1, 0)] (q := 158) (ls' := [(2, 37), (0, a), (0, b), (0, v7), (1, v20), (9, 0)]) (st' := [(0, 1), (2, 37)]) (by decide +kernel) rfl ?_
              refine zwW_cm Ih31 (op := 60) (k' := 137) (n := 1) (kd := 13) (m := 97) (nx := 161) (r := 37) (tl := [(0, 1)]) (st' := []) (by decide +kernel) rfl (by decide +kernel) rfl (m137 h31 Ih31 1 (by omega) (by omega) (hW.mr I Rh31 (by decide +kernel))) ?_
              rintro v32 h34 ⟨Ih34, Qh34, f33⟩
              have Rh34 : zMR ms78 h h34 := Rh31.tr Qh34 (by decide +kernel)
              refine zwW_cs (k' := 129) (n := 1) (nx := 164) (as := [(0, v32)]) (st' := []) (by decide +kernel) rfl (m129 h34 v32 (by omega)) rfl ?_
              rintro v35 _ ⟨rfl, f36, f37, f38⟩
              refine zwW_p [(1, 0, 2)] (q := 165) (ls' := [(2, 37), (0, a), (0, b), (0, v7), (1, v20), (9, 0)]) (st' := [(2, 37), (0, v35)]) (by decide +kernel) rfl ?_
              have H165 := Rh34.f (a1 := 37) (a2 := 37) (j1 := 2) (j2 := 3) (by decide +kernel) (r := 37) (j := 2) (by first | decide | exact ⟨by decide, by decide⟩) (by first | decide | exact ⟨by decide, by decide⟩)
              have A165 := hA a.toNat (by omega)
              refine zwW_gc Ih34 (kd := 13) (bn := 24) (n := 97) (c := 83) (nx := 168) (by decide +kernel) ?_
              refine zwW_p [(1, 1, 0)] (q := 169) (ls' := [(2, 37), (0, a), (0, b), (0, v7), (1, v20), (9, 0)]) (st' := [(0, a), (2, 83), (0, v35)]) (by decide +kernel) rfl ?_
              refine zwW_al Ih34 (a1 := 83) (a2 := 83) (kd := 20) (n := 20) (t := 0) (lo := 0) (hi := 9) (nx := 170) (by decide +kernel) (by first | decide | exact ⟨by decide, by decide⟩) (by first | omega | exact ⟨by omega, by omega⟩) ?_
              intro v39 ev39 lv39 uv39
              refine zwW_p [(1, 2, 0)] (q := 171) (ls' := [(2, 37), (0, a), (0, b), (0, v7), (1, v20), (9, 0)]) (st' := [(0, b), (0, v39), (0, v35)]) (by decide +kernel) rfl ?_
              have B171 := Rh34.f (a1 := 83) (a2 := 83) (j1 := 0) (j2 := 20) (by decide +kernel) (r := 83) (j := a.toNat) (by first | decide | exact ⟨by decide, by decide⟩) (by first | omega | exact ⟨by omega, by omega⟩)
              refine zwW_mulp (A := 9) (B := 99) (nx := 172) (by decide +kernel) (by first | omega | exact ⟨by omega, by omega⟩) (by first | omega | exact ⟨by omega, by omega⟩) (by decide) ?_
              intro v40 ev40 lv40 uv40
              have P172 : 0 < v40 := by rw [ev40]; exact Int.mul_pos (by omega) (by omega)
              refine zwW_any2 (a := 3) (nx := 173) (by decide +kernel) rfl (by first | omega | exact ⟨by omega, by omega⟩) (Or.inl (by omega)) ?_
              intro v41 lv41 uv41
              refine zwW_ret (nx := 174) (a := 0) (b := 0) (by decide +kernel) rfl (Or.inl rfl) ?_
              exact ⟨Ih34, Rh34, by omega⟩
            · refine zwW_p [(1, 0, 2)] (q := 108) (ls' := [(2, 37), (0, a), (0, b), (0, v7), (1, v20), (9, 0)]) (st' := [(2, 37)]) (by decide +kernel) rfl ?_
              refine zwW_gc I (kd := 13) (bn := 7) (n := 97) (c := 66) (nx := 111) (by decide +kernel) ?_
              refine zwW_p [(1, 3, 0)] (q := 112) (ls' := [(2, 37), (0, a), (0, b), (0, v7), (1, v20), (9, 0)]) (st' := [(0, v7), (2, 66)]) (by decide +kernel) rfl ?_
              refine zwW_al I (a1 := 66) (a2 := 66) (kd := 20) (n := 8) (t := 0) (lo := -2147483648) (hi := 2147483647) (nx := 113) (by decide +kernel) (by first | decide | exact ⟨by decide, by decide⟩) (by first | omega | exact ⟨by omega, by omega⟩) ?_
              intro v42 ev42 lv42 uv42
              refine zwW_p [(7, 0, 0), (1, 0, 2)] (q := 115) (ls' := [(2, 37), (0, a), (0, b), (0, v7), (1, v20), (9, 0)]) (st' := [(2, 37), (1, v42)]) (by decide +kernel) rfl ?_
              refine zwW_gc I (kd := 13) (bn := 26) (n := 97) (c := 85) (nx := 118) (by decide +kernel) ?_
              refine zwW_p [(1, 1, 0)] (q := 119) (ls' := [(2, 37), (0, a), (0, b), (0, v7), (1, v20), (9, 0)]) (st' := [(0, a), (2, 85), (1, v42)]) (by decide +kernel) rfl ?_
              refine zwW_al I (a1 := 85) (a2 := 85) (kd := 20) (n := 20) (t := 0) (lo := 0) (hi := 60) (nx := 120) (by decide +kernel) (by first | decide | exact ⟨by decide, by decide⟩) (by first | omega | exact ⟨by omega, by omega⟩) ?_
              intro v43 ev43 lv43 uv43
              refine zwW_p [(7, 0, 0)] (q := 121) (ls' := [(2, 37), (0, a), (0, b), (0, v7), (1, v20), (9, 0)]) (st' := [(1, v43), (1, v42)]) (by decide +kernel) rfl ?_
              refine zwW_lmw (nx := 122) (by decide +kernel) ?_
              intro v44 ev44 lv44 uv44
              refine zwW_p [(2, 4, 1), (1, 0, 2), (1, 1, 0), (1, 0, 2)] (q := 127) (ls' := [(2, 37), (0, a), (0, b), (0, v7), (1, v44), (9, 0)]) (st' := [(2, 37), (0, a), (2, 37)]) (by decide +kernel) rfl ?_
              refine zwW_gc I (kd := 13) (bn := 23) (n := 97) (c := 82) (nx := 130) (by decide +kernel) ?_
              refine zwW_p [(1, 1, 0)] (q := 131) (ls' := [(2, 37), (0, a), (0, b), (0, v7), (1, v44), (9, 0)]) (st' := [(0, a), (2, 82), (0, a), (2, 37)]) (by decide +kernel) rfl ?_
              refine zwW_al I (a1 := 82) (a2 := 82) (kd := 20) (n := 20) (t := 0) (lo := 0) (hi := 5) (nx := 132) (by decide +kernel) (by first | decide | exact ⟨by decide, by decide⟩) (by first | omega | exact ⟨by omega, by omega⟩) ?_
              intro v45 ev45 lv45 uv45
              refine zwW_p [(1, 0, 2)] (q := 133) (ls' := [(2, 37), (0, a), (0, b), (0, v7), (1, v44), (9, 0)]) (st' := [(2, 37), (0, v45), (0, a), (2, 37)]) (by decide +kernel) rfl ?_
              refine zwW_gc I (kd := 13) (bn := 26) (n := 97) (c := 85) (nx := 136) (by decide +kernel) ?_
              refine zwW_p [(1, 1, 0)] (q := 137) (ls' := [(2, 37), (0, a), (0, b), (0, v7), (1, v44), (9, 0)]) (st' := [(0, a), (2, 85), (0, v45), (0, a), (2, 37)]) (by decide +kernel) rfl ?_
              refine zwW_al I (a1 := 85) (a2 := 85) (kd := 20) (n := 20) (t := 0) (lo := 0) (hi := 60) (nx := 138) (by decide +kernel) (by first | decide | exact ⟨by decide, by decide⟩) (by first | omega | exact ⟨by omega, by omega⟩) ?_
              intro v46 ev46 lv46 uv46
              refine zwW_p [(1, 0, 2), (1, 1, 0), (1, 0, 2)] (q := 141) (ls' := [(2, 37), (0, a), (0, b), (0, v7), (1, v44), (9, 0)]) (st' := [(2, 37), (0, a), (2, 37), (0, v46), (0, v45), (0, a), (2, 37)]) (by decide +kernel) rfl ?_
              refine zwW_gc I (kd := 13) (bn := 22) (n := 97) (c := 81) (nx := 144) (by decide +kernel) ?_
              refine zwW_p [(1, 1, 0)] (q := 145) (ls' := [(2, 37), (0, a), (0, b), (0, v7), (1, v44), (9, 0)]) (st' := [(0, a), (2, 81), (0, a), (2, 37), (0, v46), (0, v45), (0, a), (2, 37)]) (by decide +kernel) rfl ?_
              refine zwW_al I (a1 := 81) (a2 := 81) (kd := 20) (n := 20) (t := 0) (lo := 0) (hi := 9) (nx := 146) (by decide +kernel) (by first | decide | exact ⟨by decide, by decide⟩) (by first | omega | exact ⟨by omega, by omega⟩) ?_
              intro v47 ev47 lv47 uv47
              refine zwW_cm I (op := 60) (k' := 175) (n := 2) (kd := 13) (m := 97) (nx := 149) (r := 37) (tl := [(0, a), (0, v47)]) (st' := [(0, v46), (0, v45), (0, a), (2, 37)]) (by decide +kernel) rfl (by decide +kernel) rfl (m175 h I a v47 (by omega) (by omega)) ?_
              rintro v48 _ ⟨rfl, f49, f50⟩
              refine zwW_p [(1, 4, 1)] (q := 151) (ls' := [(2, 37), (0, a), (0, b), (0, v7), (1, v44), (9, 0)]) (st' := [(1, v44), (0, v48), (0, v46), (0, v45), (0, a), (2, 37)]) (by decide +kernel) rfl ?_
              refine zwW_l2x (nx := 152) (by decide +kernel) ?_
              intro v51 ev51 lv51 uv51
              refine zwW_p [(0, 0, 0)] (q := 153) (ls' := [(2, 37), (0, a), (0, b), (0, v7), (1, v44), (9, 0)]) (st' := [(0, 0), (0, v51), (0, v48), (0, v46), (0, v45), (0, a), (2, 37)]) (by decide +kernel) rfl ?_
              refine zwW_cmv I (op := 60) (k' := 176) (n := 6) (kd := 13) (m := 97) (nx := 156) (r := 37) (tl := [(0, a), (0, v45), (0, v46), (0, v48), (0, v51), (0, 0)]) (st' := []) (by decide +kernel) rfl (by decide +kernel) rfl (m176 h I a v45 v46 v48 v51 0 (by omega) (by omega) (by omega) (by omega) (by omega) (by omega) (by omega)) ?_
              rintro h52 ⟨Ih52, Qh52⟩
              have Rh52 : zMR ms78 h h52 := R.tr Qh52 (by decide +kernel)
              refine zwW_p [(1, 0, 2), (0, 1, 0)] (q := 158) (ls' := [(2, 37), (0, a), (0, b), (0, v7), (1, v44), (9, 0)]) (st' := [(0, 1), (2, 37)]) (by decide +kernel) rfl ?_
              refine zwW_cm Ih52 (op := 60) (k' := 137) (n := 1) (kd := 13) (m := 97) (nx := 161) (r := 37) (tl := [(0, 1)]) (st' := []) (by decide +kernel) rfl (by decide +kernel) rfl (m137 h52 Ih52 1 (by omega) (by omega) (hW.mr I Rh52 (by decide +kernel))) ?_
              rintro v53 h55 ⟨Ih55, Qh55, f54⟩
              have Rh55 : zMR ms78 h h55 := Rh52.tr Qh55 (by decide +kernel)
              refine zwW_cs (k' := 129) (n := 1) (nx := 164) (as := [(0, v53)]) (st' := []) (by decide +kernel) rfl (m129 h55 v53 (by omega)) rfl ?_
              rintro v56 _ ⟨rfl, f57, f58, f59⟩
              refine zwW_p [(1, 0, 2)] (q := 165) (ls' := [(2, 37), (0, a), (0, b), (0, v7), (1, v44), (9, 0)]) (st' := [(2, 37), (0, v56)]) (by decide +kernel) rfl ?_
              have H165 := Rh55.f (a1 := 37) (a2 := 37) (j1 := 2) (j2 := 3) (by decide +kernel) (r := 37) (j := 2) (by first | decide | exact ⟨by decide, by decide⟩) (by first | decide | exact ⟨by decide, by decide⟩)
              have A165 := hA a.toNat (by omega)
              refine zwW_gc Ih55 (kd := 13) (bn := 24) (n := 97) (c := 83) (nx := 168) (by decide +kernel) ?_
              refine zwW_p [(1, 1, 0)] (q := 169) (ls' := [(2, 37), (0, a), (0, b), (0, v7), (1, v44), (9, 0)]) (st' := [(0, a), (2, 83), (0, v56)]) (by decide +kernel) rfl ?_
              refine zwW_al Ih55 (a1 := 83) (a2 := 83) (kd := 20) (n := 20) (t := 0) (lo := 0) (hi := 9) (nx := 170) (by decide +kernel) (by first | decide | exact ⟨by decide, by decide⟩) (by first | omega | exact ⟨by omega, by omega⟩) ?_
              intro v60 ev60 lv60 uv60
              refine zwW_p [(1, 2, 0)] (q := 171) (ls' := [(2, 37), (0, a), (0, b), (0, v7), (1, v44), (9, 0)]) (st' := [(0, b), (0, v60), (0, v56)]) (by decide +kernel) rfl ?_
              have B171 := Rh55.f (a1 := 83) (a2 := 83) (j1 := 0) (j2 := 20) (by decide +kernel) (r := 83) (j := a.toNat) (by first | decide | exact ⟨by decide, by decide⟩) (by first | omega | exact ⟨by omega, by omega⟩)
              refine zwW_mulp (A := 9) (B := 99) (nx := 172) (by decide +kernel) (by first | omega | exact ⟨by omega, by omega⟩) (by first | omega | exact ⟨by omega, by omega⟩) (by decide) ?_
              intro v61 ev61 lv61 uv61
              have P172 : 0 < v61 := by rw [ev61]; exact Int.mul_pos (by omega) (by omega)
              refine zwW_any2 (a := 3) (nx := 173) (by decide +kernel) rfl (by first | omega | exact ⟨by omega, by omega⟩) (Or.inl (by omega)) ?_
              intro v62 lv62 uv62
              refine zwW_ret (nx := 174) (a := 0) (b := 0) (by decide +kernel) rfl (Or.inl rfl) ?_
              exact ⟨Ih55, Rh55, by omega⟩
          · refine zwW_p [(0, -1, 0)] (q := 31) (ls' := [(2, 37), (0, a), (0, b), (9, 0), (9, 0), (9, 0)]) (st' := [(0, -1)]) (by decide +kernel) rfl ?_
            refine zwW_ret (nx := 32) (a := 0) (b := 0) (by decide +kernel) rfl (Or.inl rfl) ?_
            exact ⟨I, R, by omega⟩
      · refine zwif_eq (q := 30) (nx := 20) (by decide +kernel) (fun c63 => ?_) (fun c63 => ?_)
        · refine zwW_p [(0, -1, 0)] (q := 31) (ls' := [(2, 37), (0, a), (0, b), (9, 0), (9, 0), (9, 0)]) (st' := [(0, -1)]) (by decide +kernel) rfl ?_
          refine zwW_ret (nx := 32) (a := 0) (b := 0) (by decide +kernel) rfl (Or.inl rfl) ?_
          exact ⟨I, R, by omega⟩
        · exfalso; omega
  · refine zwif_eq (q := 30) (nx := 8) (by decide +kernel) (fun c64 => ?_) (fun c64 => ?_)
    · refine zwW_p [(0, -1, 0)] (q := 31) (ls' := [(2, 37), (0, a), (0, b), (9, 0), (9, 0), (9, 0)]) (st' := [(0, -1)]) (by decide +kernel) rfl ?_
      refine zwW_ret (nx := 32) (a := 0) (b := 0) (by decide +kernel) rfl (Or.inl rfl) ?_
      exact ⟨I, R, by omega⟩
    · exfalso; omega
-- WheelLandModel.told(II)I
theorem m80 {sc : List Int} (h : Hp) (I : zI h) (a b : Int) : zwC sc 2 80 [(2, 37), (0, a), (0, b)] h (zwRt 0 (fun x g => h = g ∧ (-2147483648 ≤ x ∧ x ≤ 2147483647))) := by
  refine zwC_of (D := 1) 3 (by decide +kernel) rfl (ls := [(2, 37), (0, a), (0, b)]) rfl ?_
  refine zwW_p [(1, 1, 0), (7, 0, 0), (0, 0, 1), (1, 0, 2)] (q := 4) (ls' := [(2, 37), (0, a), (0, b)]) (st' := [(2, 37), (1, 0), (1, a)]) (by decide +kernel) rfl ?_
  refine zwW_gs I (kd := 13) (bn := 0) (n := 97) (t := 0) (lo := 0) (hi := 156) (nx := 7) (by decide +kernel) ?_
  intro v1 ev1 lv1 uv1
  refine zwW_p [(0, 1, 0)] (q := 8) (ls' := [(2, 37), (0, a), (0, b)]) (st' := [(0, 1), (0, v1), (1, 0), (1, a)]) (by decide +kernel) rfl ?_
  refine zwW_sub (nx := 9) (by decide +kernel) (by first | omega | exact ⟨by omega, by omega⟩) ?_
  refine zwW_p [(7, 0, 0)] (q := 10) (ls' := [(2, 37), (0, a), (0, b)]) (st' := [(1, (v1 - 1)), (1, 0), (1, a)]) (by decide +kernel) rfl ?_
  refine zwW_cs (k' := 101) (n := 3) (nx := 13) (as := [(1, a), (1, 0), (1, (v1 - 1))]) (st' := []) (by decide +kernel) rfl (m101 h a 0 (v1 - 1)) rfl ?_
  rintro x _ ⟨rfl, ⟨rfl, c2⟩ | ⟨rfl, c2⟩⟩
  · refine zwif_eq (q := 39) (nx := 16) (by decide +kernel) (fun c3 => ?_) (fun c3 => ?_)
    · exfalso; omega
    · refine zwW_p [(1, 2, 0), (7, 0, 0), (0, 0, 1), (0, 5, 1)] (q := 22) (ls' := [(2, 37), (0, a), (0, b)]) (st' := [(1, 5), (1, 0), (1, b)]) (by decide +kernel) rfl ?_
      refine zwW_cs (k' := 101) (n := 3) (nx := 25) (as := [(1, b), (1, 0), (1, 5)]) (st' := []) (by decide +kernel) rfl (m101 h b 0 5) rfl ?_
      rintro x _ ⟨rfl, ⟨rfl, c4⟩ | ⟨rfl, c4⟩⟩
      · refine zwif_eq (q := 39) (nx := 28) (by decide +kernel) (fun c5 => ?_) (fun c5 => ?_)
        · exfalso; omega
        · refine zwW_p [(1, 0, 2)] (q := 29) (ls' := [(2, 37), (0, a), (0, b)]) (st' := [(2, 37)]) (by decide +kernel) rfl ?_
          refine zwW_gc I (kd := 13) (bn := 91) (n := 97) (c := 205) (nx := 32) (by decide +kernel) ?_
          refine zwW_p [(1, 1, 0)] (q := 33) (ls' := [(2, 37), (0, a), (0, b)]) (st' := [(0, a), (2, 205)]) (by decide +kernel) rfl ?_
          refine zwW_ro I (a := 205) (n := 156) (kd := 26) (base := 206) (step := 1) (nx := 34) (by decide +kernel) rfl (by first | omega | exact ⟨by omega, by omega⟩) ?_
          rw [show ((206 : Nat) : Int) + ((1 : Nat) : Int) * a = (206 + a) by omega]
          refine zwW_p [(1, 2, 0)] (q := 35) (ls' := [(2, 37), (0, a), (0, b)]) (st' := [(0, b), (2, (206 + a))]) (by decide +kernel) rfl ?_
          refine zwW_al I (a1 := 206) (a2 := 361) (kd := 20) (n := 6) (t := 0) (lo := -2147483648) (hi := 2147483647) (nx := 36) (by decide +kernel) (by first | omega | exact ⟨by omega, by omega⟩) (by first | omega | exact ⟨by omega, by omega⟩) ?_
          intro v6 ev6 lv6 uv6
          refine zwW_p [(24, 40, 0)] (q := 40) (ls' := [(2, 37), (0, a), (0, b)]) (st' := [(0, v6)]) (by decide +kernel) rfl ?_
          refine zwW_ret (nx := 41) (a := 0) (b := 0) (by decide +kernel) rfl (Or.inl rfl) ?_
          exact ⟨rfl, by omega⟩
      · refine zwif_eq (q := 39) (nx := 28) (by decide +kernel) (fun c7 => ?_) (fun c7 => ?_)
        · refine zwW_p [(0, -1, 0)] (q := 40) (ls' := [(2, 37), (0, a), (0, b)]) (st' := [(0, -1)]) (by decide +kernel) rfl ?_
          refine zwW_ret (nx := 41) (a := 0) (b := 0) (by decide +kernel) rfl (Or.inl rfl) ?_
          exact ⟨rfl, by omega⟩
        · exfalso; omega
  · refine zwif_eq (q := 39) (nx := 16) (by decide +kernel) (fun c8 => ?_) (fun c8 => ?_)
    · refine zwW_p [(0, -1, 0)] (q := 40) (ls' := [(2, 37), (0, a), (0, b)]) (st' := [(0, -1)]) (by decide +kernel) rfl ?_
      refine zwW_ret (nx := 41) (a := 0) (b := 0) (by decide +kernel) rfl (Or.inl rfl) ?_
      exact ⟨rfl, by omega⟩
    · exfalso; omega
-- WheelLandModel.is(II)I
theorem m84 {sc : List Int} (h : Hp) (I : zI h) (a b : Int) : zwC sc 3 84 [(2, 37), (0, a), (0, b)] h (zwRt 0 (fun x g => h = g ∧ (-2147483648 ≤ x ∧ x ≤ 2147483647))) := by
  refine zwC_of (D := 2) 3 (by decide +kernel) rfl (ls := [(2, 37), (0, a), (0, b)]) rfl ?_
  refine zwW_p [(1, 0, 2), (1, 1, 0)] (q := 2) (ls' := [(2, 37), (0, a), (0, b)]) (st' := [(0, a), (2, 37)]) (by decide +kernel) rfl ?_
  refine zwW_cm I (op := 60) (k' := 104) (n := 1) (kd := 13) (m := 97) (nx := 5) (r := 37) (tl := [(0, a)]) (st' := []) (by decide +kernel) rfl (by decide +kernel) rfl (m104 h I a) ?_
  rintro x _ ⟨rfl, ⟨rfl, c1⟩ | ⟨rfl, c1⟩⟩
  · refine zwif_ne (q := 10) (nx := 8) (by decide +kernel) (fun c2 => ?_) (fun c2 => ?_)
    · refine zwW_p [(1, 2, 0)] (q := 11) (ls' := [(2, 37), (0, a), (0, b)]) (st' := [(0, b)]) (by decide +kernel) rfl ?_
      refine zwW_sw (d := 145) (os := [0, 68, 1, 75, 2, 82, 3, 89, 4, 96, 5, 103, 6, 110, 7, 117, 8, 124, 9, 131, 10, 138]) (by decide +kernel) ?_
      refine ⟨fun c3 => ?_, fun c3 => ?_⟩
      · show zwW _ _ _ 68 _ _ _ _
        refine zwW_p [(1, 0, 2)] (q := 69) (ls' := [(2, 37), (0, a), (0, b)]) (st' := [(2, 37)]) (by decide +kernel) rfl ?_
        refine zwW_gc I (kd := 13) (bn := 7) (n := 97) (c := 66) (nx := 72) (by decide +kernel) ?_
        refine zwW_p [(1, 1, 0)] (q := 73) (ls' := [(2, 37), (0, a), (0, b)]) (st' := [(0, a), (2, 66)]) (by decide +kernel) rfl ?_
        refine zwW_al I (a1 := 66) (a2 := 66) (kd := 20) (n := 8) (t := 0) (lo := -2147483648) (hi := 2147483647) (nx := 74) (by decide +kernel) (by first | decide | exact ⟨by decide, by decide⟩) (by first | omega | exact ⟨by omega, by omega⟩) ?_
        intro v4 ev4 lv4 uv4
        refine zwW_ret (nx := 75) (a := 0) (b := 0) (by decide +kernel) rfl (Or.inl rfl) ?_
        exact ⟨rfl, by omega⟩
      refine ⟨fun c5 => ?_, fun c5 => ?_⟩
      · show zwW _ _ _ 75 _ _ _ _
        refine zwW_p [(1, 0, 2)] (q := 76) (ls' := [(2, 37), (0, a), (0, b)]) (st' := [(2, 37)]) (by decide +kernel) rfl ?_
        refine zwW_gc I (kd := 13) (bn := 8) (n := 97) (c := 67) (nx := 79) (by decide +kernel) ?_
        refine zwW_p [(1, 1, 0)] (q := 80) (ls' := [(2, 37), (0, a), (0, b)]) (st' := [(0, a), (2, 67)]) (by decide +kernel) rfl ?_
        refine zwW_al I (a1 := 67) (a2 := 67) (kd := 20) (n := 8) (t := 0) (lo := -2147483648) (hi := 2147483647) (nx := 81) (by decide +kernel) (by first | decide | exact ⟨by decide, by decide⟩) (by first | omega | exact ⟨by omega, by omega⟩) ?_
        intro v6 ev6 lv6 uv6
        refine zwW_ret (nx := 82) (a := 0) (b := 0) (by decide +kernel) rfl (Or.inl rfl) ?_
        exact ⟨rfl, by omega⟩
      refine ⟨fun c7 => ?_, fun c7 => ?_⟩
      · show zwW _ _ _ 82 _ _ _ _
        refine zwW_p [(1, 0, 2)] (q := 83) (ls' := [(2, 37), (0, a), (0, b)]) (st' := [(2, 37)]) (by decide +kernel) rfl ?_
        refine zwW_gc I (kd := 13) (bn := 9) (n := 97) (c := 68) (nx := 86) (by decide +kernel) ?_
        refine zwW_p [(1, 1, 0)] (q := 87) (ls' := [(2, 37), (0, a), (0, b)]) (st' := [(0, a), (2, 68)]) (by decide +kernel) rfl ?_
        refine zwW_al I (a1 := 68) (a2 := 68) (kd := 20) (n := 8) (t := 0) (lo := -2147483648) (hi := 2147483647) (nx := 88) (by decide +kernel) (by first | decide | exact ⟨by decide, by decide⟩) (by first | omega | exact ⟨by omega, by omega⟩) ?_
        intro v8 ev8 lv8 uv8
        refine zwW_ret (nx := 89) (a := 0) (b := 0) (by decide +kernel) rfl (Or.inl rfl) ?_
        exact ⟨rfl, by omega⟩
      refine ⟨fun c9 => ?_, fun c9 => ?_⟩
      · show zwW _ _ _ 89 _ _ _ _
        refine zwW_p [(1, 0, 2)] (q := 90) (ls' := [(2, 37), (0, a), (0, b)]) (st' := [(2, 37)]) (by decide +kernel) rfl ?_
        refine zwW_gc I (kd := 13) (bn := 10) (n := 97) (c := 69) (nx := 93) (by decide +kernel) ?_
        refine zwW_p [(1, 1, 0)] (q := 94) (ls' := [(2, 37), (0, a), (0, b)]) (st' := [(0, a), (2, 69)]) (by decide +kernel) rfl ?_
        refine zwW_al I (a1 := 69) (a2 := 69) (kd := 20) (n := 8) (t := 0) (lo := -2147483648) (hi := 2147483647) (nx := 95) (by decide +kernel) (by first | decide | exact ⟨by decide, by decide⟩) (by first | omega | exact ⟨by omega, by omega⟩) ?_
        intro v10 ev10 lv10 uv10
        refine zwW_ret (nx := 96) (a := 0) (b := 0) (by decide +kernel) rfl (Or.inl rfl) ?_
        exact ⟨rfl, by omega⟩
      refine ⟨fun c11 => ?_, fun c11 => ?_⟩
      · show zwW _ _ _ 96 _ _ _ _
        refine zwW_p [(1, 0, 2)] (q := 97) (ls' := [(2, 37), (0, a), (0, b)]) (st' := [(2, 37)]) (by decide +kernel) rfl ?_
        refine zwW_gc I (kd := 13) (bn := 11) (n := 97) (c := 70) (nx := 100) (by decide +kernel) ?_
        refine zwW_p [(1, 1, 0)] (q := 101) (ls' := [(2, 37), (0, a), (0, b)]) (st' := [(0, a), (2, 70)]) (by decide +kernel) rfl ?_
        refine zwW_al I (a1 := 70) (a2 := 70) (kd := 20) (n := 8) (t := 0) (lo := -2147483648) (hi := 2147483647) (nx := 102) (by decide +kernel) (by first | decide | exact ⟨by decide, by decide⟩) (by first | omega | exact ⟨by omega, by omega⟩) ?_
        intro v12 ev12 lv12 uv12
        refine zwW_ret (nx := 103) (a := 0) (b := 0) (by decide +kernel) rfl (Or.inl rfl) ?_
        exact ⟨rfl, by omega⟩
      refine ⟨fun c13 => ?_, fun c13 => ?_⟩
      · show zwW _ _ _ 103 _ _ _ _
        refine zwW_p [(1, 0, 2)] (q := 104) (ls' := [(2, 37), (0, a), (0, b)]) (st' := [(2, 37)]) (by decide +kernel) rfl ?_
        refine zwW_gc I (kd := 13) (bn := 12) (n := 97) (c := 71) (nx := 107) (by decide +kernel) ?_
        refine zwW_p [(1, 1, 0)] (q := 108) (ls' := [(2, 37), (0, a), (0, b)]) (st' := [(0, a), (2, 71)]) (by decide +kernel) rfl ?_
        refine zwW_al I (a1 := 71) (a2 := 71) (kd := 20) (n := 8) (t := 0) (lo := -2147483648) (hi := 2147483647) (nx := 109) (by decide +kernel) (by first | decide | exact ⟨by decide, by decide⟩) (by first | omega | exact ⟨by omega, by omega⟩) ?_
        intro v14 ev14 lv14 uv14
        refine zwW_ret (nx := 110) (a := 0) (b := 0) (by decide +kernel) rfl (Or.inl rfl) ?_
        exact ⟨rfl, by omega⟩
      refine ⟨fun c15 => ?_, fun c15 => ?_⟩
      · show zwW _ _ _ 110 _ _ _ _
        refine zwW_p [(1, 0, 2)] (q := 111) (ls' := [(2, 37), (0, a), (0, b)]) (st' := [(2, 37)]) (by decide +kernel) rfl ?_
        refine zwW_gc I (kd := 13) (bn := 13) (n := 97) (c := 72) (nx := 114) (by decide +kernel) ?_
        refine zwW_p [(1, 1, 0)] (q := 115) (ls' := [(2, 37), (0, a), (0, b)]) (st' := [(0, a), (2, 72)]) (by decide +kernel) rfl ?_
        refine zwW_al I (a1 := 72) (a2 := 72) (kd := 20) (n := 8) (t := 0) (lo := -2147483648) (hi := 2147483647) (nx := 116) (by decide +kernel) (by first | decide | exact ⟨by decide, by decide⟩) (by first | omega | exact ⟨by omega, by omega⟩) ?_
        intro v16 ev16 lv16 uv16
        refine zwW_ret (nx := 117) (a := 0) (b := 0) (by decide +kernel) rfl (Or.inl rfl) ?_
        exact ⟨rfl, by omega⟩
      refine ⟨fun c17 => ?_, fun c17 => ?_⟩
      · show zwW _ _ _ 117 _ _ _ _
        refine zwW_p [(1, 0, 2)] (q := 118) (ls' := [(2, 37), (0, a), (0, b)]) (st' := [(2, 37)]) (by decide +kernel) rfl ?_
        refine zwW_gc I (kd := 13) (bn := 14) (n := 97) (c := 73) (nx := 121) (by decide +kernel) ?_
        refine zwW_p [(1, 1, 0)] (q := 122) (ls' := [(2, 37), (0, a), (0, b)]) (st' := [(0, a), (2, 73)]) (by decide +kernel) rfl ?_
        refine zwW_al I (a1 := 73) (a2 := 73) (kd := 20) (n := 8) (t := 0) (lo := -2147483648) (hi := 2147483647) (nx := 123) (by decide +kernel) (by first | decide | exact ⟨by decide, by decide⟩) (by first | omega | exact ⟨by omega, by omega⟩) ?_
        intro v18 ev18 lv18 uv18
        refine zwW_ret (nx := 124) (a := 0) (b := 0) (by decide +kernel) rfl (Or.inl rfl) ?_
        exact ⟨rfl, by omega⟩
      refine ⟨fun c19 => ?_, fun c19 => ?_⟩
      · show zwW _ _ _ 124 _ _ _ _
        refine zwW_p [(1, 0, 2)] (q := 125) (ls' := [(2, 37), (0, a), (0, b)]) (st' := [(2, 37)]) (by decide +kernel) rfl ?_
        refine zwW_gc I (kd := 13) (bn := 15) (n := 97) (c := 74) (nx := 128) (by decide +kernel) ?_
        refine zwW_p [(1, 1, 0)] (q := 129) (ls' := [(2, 37), (0, a), (0, b)]) (st' := [(0, a), (2, 74)]) (by decide +kernel) rfl ?_
        refine zwW_al I (a1 := 74) (a2 := 74) (kd := 20) (n := 8) (t := 0) (lo := 0) (hi := 9999) (nx := 130) (by decide +kernel) (by first | decide | exact ⟨by decide, by decide⟩) (by first | omega | exact ⟨by omega, by omega⟩) ?_
        intro v20 ev20 lv20 uv20
        refine zwW_ret (nx := 131) (a := 0) (b := 0) (by decide +kernel) rfl (Or.inl rfl) ?_
        exact ⟨rfl, by omega⟩
      refine ⟨fun c21 => ?_, fun c21 => ?_⟩
      · show zwW _ _ _ 131 _ _ _ _
        refine zwW_p [(1, 0, 2)] (q := 132) (ls' := [(2, 37), (0, a), (0, b)]) (st' := [(2, 37)]) (by decide +kernel) rfl ?_
        refine zwW_gc I (kd := 13) (bn := 17) (n := 97) (c := 76) (nx := 135) (by decide +kernel) ?_
        refine zwW_p [(1, 1, 0)] (q := 136) (ls' := [(2, 37), (0, a), (0, b)]) (st' := [(0, a), (2, 76)]) (by decide +kernel) rfl ?_
        refine zwW_al I (a1 := 76) (a2 := 76) (kd := 20) (n := 8) (t := 0) (lo := -2147483648) (hi := 2147483647) (nx := 137) (by decide +kernel) (by first | decide | exact ⟨by decide, by decide⟩) (by first | omega | exact ⟨by omega, by omega⟩) ?_
        intro v22 ev22 lv22 uv22
        refine zwW_ret (nx := 138) (a := 0) (b := 0) (by decide +kernel) rfl (Or.inl rfl) ?_
        exact ⟨rfl, by omega⟩
      refine ⟨fun c23 => ?_, fun c23 => ?_⟩
      · show zwW _ _ _ 138 _ _ _ _
        refine zwW_p [(1, 0, 2)] (q := 139) (ls' := [(2, 37), (0, a), (0, b)]) (st' := [(2, 37)]) (by decide +kernel) rfl ?_
        refine zwW_gc I (kd := 13) (bn := 18) (n := 97) (c := 77) (nx := 142) (by decide +kernel) ?_
        refine zwW_p [(1, 1, 0)] (q := 143) (ls' := [(2, 37), (0, a), (0, b)]) (st' := [(0, a), (2, 77)]) (by decide +kernel) rfl ?_
        refine zwW_al I (a1 := 77) (a2 := 77) (kd := 20) (n := 8) (t := 0) (lo := -2147483648) (hi := 2147483647) (nx := 144) (by decide +kernel) (by first | decide | exact ⟨by decide, by decide⟩) (by first | omega | exact ⟨by omega, by omega⟩) ?_
        intro v24 ev24 lv24 uv24
        refine zwW_ret (nx := 145) (a := 0) (b := 0) (by decide +kernel) rfl (Or.inl rfl) ?_
        exact ⟨rfl, by omega⟩
      show zwW _ _ _ 145 _ _ _ _
      refine zwW_p [(0, -1, 0)] (q := 146) (ls' := [(2, 37), (0, a), (0, b)]) (st' := [(0, -1)]) (by decide +kernel) rfl ?_
      refine zwW_ret (nx := 147) (a := 0) (b := 0) (by decide +kernel) rfl (Or.inl rfl) ?_
      exact ⟨rfl, by omega⟩
    · exfalso; omega
  · refine zwif_ne (q := 10) (nx := 8) (by decide +kernel) (fun c25 => ?_) (fun c25 => ?_)
    · exfalso; omega
    · refine zwW_p [(0, -1, 0)] (q := 9) (ls' := [(2, 37), (0, a), (0, b)]) (st' := [(0, -1)]) (by decide +kernel) rfl ?_
      refine zwW_ret (nx := 10) (a := 0) (b := 0) (by decide +kernel) rfl (Or.inl rfl) ?_
      exact ⟨rfl, by omega⟩
-- WheelLandModel.has(II)I
theorem m86 {sc : List Int} (h : Hp) (I : zI h) (a b : Int) : zwC sc 3 86 [(2, 37), (0, a), (0, b)] h (zwRt 0 (fun x g => h = g ∧ (-2147483648 ≤ x ∧ x ≤ 2147483647))) := by
  refine zwC_of (D := 2) 3 (by decide +kernel) rfl (ls := [(2, 37), (0, a), (0, b)]) rfl ?_
  refine zwW_p [(1, 0, 2), (1, 1, 0)] (q := 2) (ls' := [(2, 37), (0, a), (0, b)]) (st' := [(0, a), (2, 37)]) (by decide +kernel) rfl ?_
  refine zwW_cm I (op := 60) (k' := 111) (n := 1) (kd := 13) (m := 97) (nx := 5) (r := 37) (tl := [(0, a)]) (st' := []) (by decide +kernel) rfl (by decide +kernel) rfl (m111 h I a) ?_
  rintro x _ ⟨rfl, ⟨rfl, c1⟩ | ⟨rfl, c1⟩⟩
  · refine zwif_ne (q := 12) (nx := 8) (by decide +kernel) (fun c2 => ?_) (fun c2 => ?_)
    · refine zwW_p [(1, 2, 0)] (q := 13) (ls' := [(2, 37), (0, a), (0, b)]) (st' := [(0, b)]) (by decide +kernel) rfl ?_
      refine zwW_sw (d := 161) (os := [0, 72, 1, 79, 2, 86, 3, 93, 4, 100, 5, 107, 6, 114, 7, 121, 8, 128, 9, 135, 10, 142]) (by decide +kernel) ?_
      refine ⟨fun c3 => ?_, fun c3 => ?_⟩
      · show zwW _ _ _ 72 _ _ _ _
        refine zwW_p [(1, 0, 2)] (q := 73) (ls' := [(2, 37), (0, a), (0, b)]) (st' := [(2, 37)]) (by decide +kernel) rfl ?_
        refine zwW_gc I (kd := 13) (bn := 20) (n := 97) (c := 79) (nx := 76) (by decide +kernel) ?_
        refine zwW_p [(1, 1, 0)] (q := 77) (ls' := [(2, 37), (0, a), (0, b)]) (st' := [(0, a), (2, 79)]) (by decide +kernel) rfl ?_
        refine zwW_al I (a1 := 79) (a2 := 79) (kd := 20) (n := 20) (t := 0) (lo := 0) (hi := 7) (nx := 78) (by decide +kernel) (by first | decide | exact ⟨by decide, by decide⟩) (by first | omega | exact ⟨by omega, by omega⟩) ?_
        intro v4 ev4 lv4 uv4
        refine zwW_ret (nx := 79) (a := 0) (b := 0) (by decide +kernel) rfl (Or.inl rfl) ?_
        exact ⟨rfl, by omega⟩
      refine ⟨fun c5 => ?_, fun c5 => ?_⟩
      · show zwW _ _ _ 79 _ _ _ _
        refine zwW_p [(1, 0, 2)] (q := 80) (ls' := [(2, 37), (0, a), (0, b)]) (st' := [(2, 37)]) (by decide +kernel) rfl ?_
        refine zwW_gc I (kd := 13) (bn := 21) (n := 97) (c := 80) (nx := 83) (by decide +kernel) ?_
        refine zwW_p [(1, 1, 0)] (q := 84) (ls' := [(2, 37), (0, a), (0, b)]) (st' := [(0, a), (2, 80)]) (by decide +kernel) rfl ?_
        refine zwW_al I (a1 := 80) (a2 := 80) (kd := 20) (n := 20) (t := 0) (lo := 0) (hi := 5) (nx := 85) (by decide +kernel) (by first | decide | exact ⟨by decide, by decide⟩) (by first | omega | exact ⟨by omega, by omega⟩) ?_
        intro v6 ev6 lv6 uv6
        refine zwW_ret (nx := 86) (a := 0) (b := 0) (by decide +kernel) rfl (Or.inl rfl) ?_
        exact ⟨rfl, by omega⟩
      refine ⟨fun c7 => ?_, fun c7 => ?_⟩
      · show zwW _ _ _ 86 _ _ _ _
        refine zwW_p [(1, 0, 2)] (q := 87) (ls' := [(2, 37), (0, a), (0, b)]) (st' := [(2, 37)]) (by decide +kernel) rfl ?_
        refine zwW_gc I (kd := 13) (bn := 22) (n := 97) (c := 81) (nx := 90) (by decide +kernel) ?_
        refine zwW_p [(1, 1, 0)] (q := 91) (ls' := [(2, 37), (0, a), (0, b)]) (st' := [(0, a), (2, 81)]) (by decide +kernel) rfl ?_
        refine zwW_al I (a1 := 81) (a2 := 81) (kd := 20) (n := 20) (t := 0) (lo := 0) (hi := 9) (nx := 92) (by decide +kernel) (by first | decide | exact ⟨by decide, by decide⟩) (by first | omega | exact ⟨by omega, by omega⟩) ?_
        intro v8 ev8 lv8 uv8
        refine zwW_ret (nx := 93) (a := 0) (b := 0) (by decide +kernel) rfl (Or.inl rfl) ?_
        exact ⟨rfl, by omega⟩
      refine ⟨fun c9 => ?_, fun c9 => ?_⟩
      · show zwW _ _ _ 93 _ _ _ _
        refine zwW_p [(1, 0, 2)] (q := 94) (ls' := [(2, 37), (0, a), (0, b)]) (st' := [(2, 37)]) (by decide +kernel) rfl ?_
        refine zwW_gc I (kd := 13) (bn := 23) (n := 97) (c := 82) (nx := 97) (by decide +kernel) ?_
        refine zwW_p [(1, 1, 0)] (q := 98) (ls' := [(2, 37), (0, a), (0, b)]) (st' := [(0, a), (2, 82)]) (by decide +kernel) rfl ?_
        refine zwW_al I (a1 := 82) (a2 := 82) (kd := 20) (n := 20) (t := 0) (lo := 0) (hi := 5) (nx := 99) (by decide +kernel) (by first | decide | exact ⟨by decide, by decide⟩) (by first | omega | exact ⟨by omega, by omega⟩) ?_
        intro v10 ev10 lv10 uv10
        refine zwW_ret (nx := 100) (a := 0) (b := 0) (by decide +kernel) rfl (Or.inl rfl) ?_
        exact ⟨rfl, by omega⟩
      refine ⟨fun c11 => ?_, fun c11 => ?_⟩
      · show zwW _ _ _ 100 _ _ _ _
        refine zwW_p [(1, 0, 2)] (q := 101) (ls' := [(2, 37), (0, a), (0, b)]) (st' := [(2, 37)]) (by decide +kernel) rfl ?_
        refine zwW_gc I (kd := 13) (bn := 24) (n := 97) (c := 83) (nx := 104) (by decide +kernel) ?_
        refine zwW_p [(1, 1, 0)] (q := 105) (ls' := [(2, 37), (0, a), (0, b)]) (st' := [(0, a), (2, 83)]) (by decide +kernel) rfl ?_
        refine zwW_al I (a1 := 83) (a2 := 83) (kd := 20) (n := 20) (t := 0) (lo := 0) (hi := 9) (nx := 106) (by decide +kernel) (by first | decide | exact ⟨by decide, by decide⟩) (by first | omega | exact ⟨by omega, by omega⟩) ?_
        intro v12 ev12 lv12 uv12
        refine zwW_ret (nx := 107) (a := 0) (b := 0) (by decide +kernel) rfl (Or.inl rfl) ?_
        exact ⟨rfl, by omega⟩
      refine ⟨fun c13 => ?_, fun c13 => ?_⟩
      · show zwW _ _ _ 107 _ _ _ _
        refine zwW_p [(1, 0, 2)] (q := 108) (ls' := [(2, 37), (0, a), (0, b)]) (st' := [(2, 37)]) (by decide +kernel) rfl ?_
        refine zwW_gc I (kd := 13) (bn := 25) (n := 97) (c := 84) (nx := 111) (by decide +kernel) ?_
        refine zwW_p [(1, 1, 0)] (q := 112) (ls' := [(2, 37), (0, a), (0, b)]) (st' := [(0, a), (2, 84)]) (by decide +kernel) rfl ?_
        refine zwW_al I (a1 := 84) (a2 := 84) (kd := 20) (n := 20) (t := 0) (lo := -2147483648) (hi := 2147483647) (nx := 113) (by decide +kernel) (by first | decide | exact ⟨by decide, by decide⟩) (by first | omega | exact ⟨by omega, by omega⟩) ?_
        intro v14 ev14 lv14 uv14
        refine zwW_ret (nx := 114) (a := 0) (b := 0) (by decide +kernel) rfl (Or.inl rfl) ?_
        exact ⟨rfl, by omega⟩
      refine ⟨fun c15 => ?_, fun c15 => ?_⟩
      · show zwW _ _ _ 114 _ _ _ _
        refine zwW_p [(1, 0, 2)] (q := 115) (ls' := [(2, 37), (0, a), (0, b)]) (st' := [(2, 37)]) (by decide +kernel) rfl ?_
        refine zwW_gc I (kd := 13) (bn := 26) (n := 97) (c := 85) (nx := 118) (by decide +kernel) ?_
        refine zwW_p [(1, 1, 0)] (q := 119) (ls' := [(2, 37), (0, a), (0, b)]) (st' := [(0, a), (2, 85)]) (by decide +kernel) rfl ?_
        refine zwW_al I (a1 := 85) (a2 := 85) (kd := 20) (n := 20) (t := 0) (lo := 0) (hi := 60) (nx := 120) (by decide +kernel) (by first | decide | exact ⟨by decide, by decide⟩) (by first | omega | exact ⟨by omega, by omega⟩) ?_
        intro v16 ev16 lv16 uv16
        refine zwW_ret (nx := 121) (a := 0) (b := 0) (by decide +kernel) rfl (Or.inl rfl) ?_
        exact ⟨rfl, by omega⟩
      refine ⟨fun c17 => ?_, fun c17 => ?_⟩
      · show zwW _ _ _ 121 _ _ _ _
        refine zwW_p [(1, 0, 2)] (q := 122) (ls' := [(2, 37), (0, a), (0, b)]) (st' := [(2, 37)]) (by decide +kernel) rfl ?_
        refine zwW_gc I (kd := 13) (bn := 27) (n := 97) (c := 86) (nx := 125) (by decide +kernel) ?_
        refine zwW_p [(1, 1, 0)] (q := 126) (ls' := [(2, 37), (0, a), (0, b)]) (st' := [(0, a), (2, 86)]) (by decide +kernel) rfl ?_
        refine zwW_al I (a1 := 86) (a2 := 86) (kd := 20) (n := 20) (t := 0) (lo := -2147483648) (hi := 2147483647) (nx := 127) (by decide +kernel) (by first | decide | exact ⟨by decide, by decide⟩) (by first | omega | exact ⟨by omega, by omega⟩) ?_
        intro v18 ev18 lv18 uv18
        refine zwW_ret (nx := 128) (a := 0) (b := 0) (by decide +kernel) rfl (Or.inl rfl) ?_
        exact ⟨rfl, by omega⟩
      refine ⟨fun c19 => ?_, fun c19 => ?_⟩
      · show zwW _ _ _ 128 _ _ _ _
        refine zwW_p [(1, 0, 2)] (q := 129) (ls' := [(2, 37), (0, a), (0, b)]) (st' := [(2, 37)]) (by decide +kernel) rfl ?_
        refine zwW_gc I (kd := 13) (bn := 28) (n := 97) (c := 87) (nx := 132) (by decide +kernel) ?_
        refine zwW_p [(1, 1, 0)] (q := 133) (ls' := [(2, 37), (0, a), (0, b)]) (st' := [(0, a), (2, 87)]) (by decide +kernel) rfl ?_
        refine zwW_al I (a1 := 87) (a2 := 87) (kd := 20) (n := 20) (t := 0) (lo := -2147483648) (hi := 2147483647) (nx := 134) (by decide +kernel) (by first | decide | exact ⟨by decide, by decide⟩) (by first | omega | exact ⟨by omega, by omega⟩) ?_
        intro v20 ev20 lv20 uv20
        refine zwW_ret (nx := 135) (a := 0) (b := 0) (by decide +kernel) rfl (Or.inl rfl) ?_
        exact ⟨rfl, by omega⟩
      refine ⟨fun c21 => ?_, fun c21 => ?_⟩
      · show zwW _ _ _ 135 _ _ _ _
        refine zwW_p [(1, 0, 2)] (q := 136) (ls' := [(2, 37), (0, a), (0, b)]) (st' := [(2, 37)]) (by decide +kernel) rfl ?_
        refine zwW_gc I (kd := 13) (bn := 29) (n := 97) (c := 88) (nx := 139) (by decide +kernel) ?_
        refine zwW_p [(1, 1, 0)] (q := 140) (ls' := [(2, 37), (0, a), (0, b)]) (st' := [(0, a), (2, 88)]) (by decide +kernel) rfl ?_
        refine zwW_al I (a1 := 88) (a2 := 88) (kd := 20) (n := 20) (t := 0) (lo := -2147483648) (hi := 2147483647) (nx := 141) (by decide +kernel) (by first | decide | exact ⟨by decide, by decide⟩) (by first | omega | exact ⟨by omega, by omega⟩) ?_
        intro v22 ev22 lv22 uv22
        refine zwW_ret (nx := 142) (a := 0) (b := 0) (by decide +kernel) rfl (Or.inl rfl) ?_
        exact ⟨rfl, by omega⟩
      refine ⟨fun c23 => ?_, fun c23 => ?_⟩
      · show zwW _ _ _ 142 _ _ _ _
        refine zwW_p [(1, 0, 2), (1, 1, 0)] (q := 144) (ls' := [(2, 37), (0, a), (0, b)]) (st' := [(0, a), (2, 37)]) (by decide +kernel) rfl ?_
        refine zwW_cm I (op := 60) (k' := 112) (n := 1) (kd := 13) (m := 97) (nx := 147) (r := 37) (tl := [(0, a)]) (st' := []) (by decide +kernel) rfl (by decide +kernel) rfl (m112 h I a (by omega) (by omega)) ?_
        rintro x _ ⟨rfl, ⟨rfl, c24⟩ | ⟨rfl, c24⟩⟩
        · refine zwif_eq (q := 159) (nx := 150) (by decide +kernel) (fun c25 => ?_) (fun c25 => ?_)
          · exfalso; omega
          · refine zwW_p [(1, 0, 2)] (q := 151) (ls' := [(2, 37), (0, a), (0, b)]) (st' := [(2, 37)]) (by decide +kernel) rfl ?_
            refine zwW_gc I (kd := 13) (bn := 33) (n := 97) (c := 92) (nx := 154) (by decide +kernel) ?_
            refine zwW_p [(1, 1, 0)] (q := 155) (ls' := [(2, 37), (0, a), (0, b)]) (st' := [(0, a), (2, 92)]) (by decide +kernel) rfl ?_
            refine zwW_al I (a1 := 92) (a2 := 92) (kd := 20) (n := 20) (t := 0) (lo := -2147483648) (hi := 2147483647) (nx := 156) (by decide +kernel) (by first | decide | exact ⟨by decide, by decide⟩) (by first | omega | exact ⟨by omega, by omega⟩) ?_
            intro v26 ev26 lv26 uv26
            refine zwW_p [(24, 160, 0)] (q := 160) (ls' := [(2, 37), (0, a), (0, b)]) (st' := [(0, v26)]) (by decide +kernel) rfl ?_
            refine zwW_ret (nx := 161) (a := 0) (b := 0) (by decide +kernel) rfl (Or.inl rfl) ?_
            exact ⟨rfl, by omega⟩
        · refine zwif_eq (q := 159) (nx := 150) (by decide +kernel) (fun c27 => ?_) (fun c27 => ?_)
          · refine zwW_p [(0, -1, 0)] (q := 160) (ls' := [(2, 37), (0, a), (0, b)]) (st' := [(0, -1)]) (by decide +kernel) rfl ?_
            refine zwW_ret (nx := 161) (a := 0) (b := 0) (by decide +kernel) rfl (Or.inl rfl) ?_
            exact ⟨rfl, by omega⟩
          · exfalso; omega
      show zwW _ _ _ 161 _ _ _ _
      refine zwW_p [(0, -2147483648, 0)] (q := 164) (ls' := [(2, 37), (0, a), (0, b)]) (st' := [(0, -2147483648)]) (by decide +kernel) rfl ?_
      refine zwW_ret (nx := 165) (a := 0) (b := 0) (by decide +kernel) rfl (Or.inl rfl) ?_
      exact ⟨rfl, by omega⟩
    · exfalso; omega
  · refine zwif_ne (q := 12) (nx := 8) (by decide +kernel) (fun c28 => ?_) (fun c28 => ?_)
    · exfalso; omega
    · refine zwW_p [(0, -2147483648, 0)] (q := 11) (ls' := [(2, 37), (0, a), (0, b)]) (st' := [(0, -2147483648)]) (by decide +kernel) rfl ?_
      refine zwW_ret (nx := 12) (a := 0) (b := 0) (by decide +kernel) rfl (Or.inl rfl) ?_
      exact ⟨rfl, by omega⟩
-- WheelLandModel.count(I)I
theorem m88 {sc : List Int} (h : Hp) (I : zI h) (a : Int) : zwC sc 1 88 [(2, 37), (0, a)] h (zwRt 0 (fun x g => h = g ∧ (-2147483648 ≤ x ∧ x ≤ 2147483647))) := by
  refine zwC_of (D := 0) 2 (by decide +kernel) rfl (ls := [(2, 37), (0, a)]) rfl ?_
  refine zwW_p [(1, 1, 0)] (q := 1) (ls' := [(2, 37), (0, a)]) (st' := [(0, a)]) (by decide +kernel) rfl ?_
  refine zwW_sw (d := 106) (os := [0, 56, 1, 61, 2, 66, 3, 71, 4, 76, 5, 81, 6, 86, 7, 91, 8, 96, 9, 101]) (by decide +kernel) ?_
  refine ⟨fun c1 => ?_, fun c1 => ?_⟩
  · show zwW _ _ _ 56 _ _ _ _
    refine zwW_p [(1, 0, 2)] (q := 57) (ls' := [(2, 37), (0, a)]) (st' := [(2, 37)]) (by decide +kernel) rfl ?_
    refine zwW_gs I (kd := 13) (bn := 0) (n := 97) (t := 0) (lo := 0) (hi := 156) (nx := 60) (by decide +kernel) ?_
    intro v2 ev2 lv2 uv2
    refine zwW_ret (nx := 61) (a := 0) (b := 0) (by decide +kernel) rfl (Or.inl rfl) ?_
    exact ⟨rfl, by omega⟩
  refine ⟨fun c3 => ?_, fun c3 => ?_⟩
  · show zwW _ _ _ 61 _ _ _ _
    refine zwW_p [(1, 0, 2)] (q := 62) (ls' := [(2, 37), (0, a)]) (st' := [(2, 37)]) (by decide +kernel) rfl ?_
    refine zwW_gs I (kd := 13) (bn := 1) (n := 97) (t := 0) (lo := 0) (hi := 8) (nx := 65) (by decide +kernel) ?_
    intro v4 ev4 lv4 uv4
    refine zwW_ret (nx := 66) (a := 0) (b := 0) (by decide +kernel) rfl (Or.inl rfl) ?_
    exact ⟨rfl, by omega⟩
  refine ⟨fun c5 => ?_, fun c5 => ?_⟩
  · show zwW _ _ _ 66 _ _ _ _
    refine zwW_p [(1, 0, 2)] (q := 67) (ls' := [(2, 37), (0, a)]) (st' := [(2, 37)]) (by decide +kernel) rfl ?_
    refine zwW_gs I (kd := 13) (bn := 2) (n := 97) (t := 0) (lo := 0) (hi := 20) (nx := 70) (by decide +kernel) ?_
    intro v6 ev6 lv6 uv6
    refine zwW_ret (nx := 71) (a := 0) (b := 0) (by decide +kernel) rfl (Or.inl rfl) ?_
    exact ⟨rfl, by omega⟩
  refine ⟨fun c7 => ?_, fun c7 => ?_⟩
  · show zwW _ _ _ 71 _ _ _ _
    refine zwW_p [(1, 0, 2)] (q := 72) (ls' := [(2, 37), (0, a)]) (st' := [(2, 37)]) (by decide +kernel) rfl ?_
    refine zwW_gs I (kd := 13) (bn := 64) (n := 97) (t := 0) (lo := 0) (hi := 300) (nx := 75) (by decide +kernel) ?_
    intro v8 ev8 lv8 uv8
    refine zwW_ret (nx := 76) (a := 0) (b := 0) (by decide +kernel) rfl (Or.inl rfl) ?_
    exact ⟨rfl, by omega⟩
  refine ⟨fun c9 => ?_, fun c9 => ?_⟩
  · show zwW _ _ _ 76 _ _ _ _
    refine zwW_p [(1, 0, 2)] (q := 77) (ls' := [(2, 37), (0, a)]) (st' := [(2, 37)]) (by decide +kernel) rfl ?_
    refine zwW_gs I (kd := 13) (bn := 52) (n := 97) (t := 0) (lo := 0) (hi := 8) (nx := 80) (by decide +kernel) ?_
    intro v10 ev10 lv10 uv10
    refine zwW_ret (nx := 81) (a := 0) (b := 0) (by decide +kernel) rfl (Or.inl rfl) ?_
    exact ⟨rfl, by omega⟩
  refine ⟨fun c11 => ?_, fun c11 => ?_⟩
  · show zwW _ _ _ 81 _ _ _ _
    refine zwW_p [(1, 0, 2)] (q := 82) (ls' := [(2, 37), (0, a)]) (st' := [(2, 37)]) (by decide +kernel) rfl ?_
    refine zwW_gs I (kd := 13) (bn := 78) (n := 97) (t := 0) (lo := 0) (hi := 200) (nx := 85) (by decide +kernel) ?_
    intro v12 ev12 lv12 uv12
    refine zwW_ret (nx := 86) (a := 0) (b := 0) (by decide +kernel) rfl (Or.inl rfl) ?_
    exact ⟨rfl, by omega⟩
  refine ⟨fun c13 => ?_, fun c13 => ?_⟩
  · show zwW _ _ _ 86 _ _ _ _
    refine zwW_p [(1, 0, 2)] (q := 87) (ls' := [(2, 37), (0, a)]) (st' := [(2, 37)]) (by decide +kernel) rfl ?_
    refine zwW_gs I (kd := 13) (bn := 41) (n := 97) (t := 0) (lo := 0) (hi := 400) (nx := 90) (by decide +kernel) ?_
    intro v14 ev14 lv14 uv14
    refine zwW_ret (nx := 91) (a := 0) (b := 0) (by decide +kernel) rfl (Or.inl rfl) ?_
    exact ⟨rfl, by omega⟩
  refine ⟨fun c15 => ?_, fun c15 => ?_⟩
  · show zwW _ _ _ 91 _ _ _ _
    refine zwW_p [(1, 0, 2)] (q := 92) (ls' := [(2, 37), (0, a)]) (st' := [(2, 37)]) (by decide +kernel) rfl ?_
    refine zwW_gs I (kd := 13) (bn := 86) (n := 97) (t := 0) (lo := 0) (hi := 6) (nx := 95) (by decide +kernel) ?_
    intro v16 ev16 lv16 uv16
    refine zwW_ret (nx := 96) (a := 0) (b := 0) (by decide +kernel) rfl (Or.inl rfl) ?_
    exact ⟨rfl, by omega⟩
  refine ⟨fun c17 => ?_, fun c17 => ?_⟩
  · show zwW _ _ _ 96 _ _ _ _
    refine zwW_p [(1, 0, 2)] (q := 97) (ls' := [(2, 37), (0, a)]) (st' := [(2, 37)]) (by decide +kernel) rfl ?_
    refine zwW_gs I (kd := 13) (bn := 96) (n := 97) (t := 0) (lo := 0) (hi := 8) (nx := 100) (by decide +kernel) ?_
    intro v18 ev18 lv18 uv18
    refine zwW_ret (nx := 101) (a := 0) (b := 0) (by decide +kernel) rfl (Or.inl rfl) ?_
    exact ⟨rfl, by omega⟩
  refine ⟨fun c19 => ?_, fun c19 => ?_⟩
  · show zwW _ _ _ 101 _ _ _ _
    refine zwW_p [(1, 0, 2)] (q := 102) (ls' := [(2, 37), (0, a)]) (st' := [(2, 37)]) (by decide +kernel) rfl ?_
    refine zwW_gs I (kd := 13) (bn := 38) (n := 97) (t := 0) (lo := -2147483648) (hi := 2147483647) (nx := 105) (by decide +kernel) ?_
    intro v20 ev20 lv20 uv20
    refine zwW_ret (nx := 106) (a := 0) (b := 0) (by decide +kernel) rfl (Or.inl rfl) ?_
    exact ⟨rfl, by omega⟩
  show zwW _ _ _ 106 _ _ _ _
  refine zwW_p [(0, -1, 0)] (q := 107) (ls' := [(2, 37), (0, a)]) (st' := [(0, -1)]) (by decide +kernel) rfl ?_
  refine zwW_ret (nx := 108) (a := 0) (b := 0) (by decide +kernel) rfl (Or.inl rfl) ?_
  exact ⟨rfl, by omega⟩
-- WheelLandModel.why(II)I
theorem m34 {sc : List Int} (h : Hp) (I : zI h) (a b : Int) (hW : zCW h) : zwC sc 2 34 [(2, 37), (0, a), (0, b)] h (zwRt 0 (fun x g => h = g ∧ (-2147483648 ≤ x ∧ x ≤ 2147483647))) := by
  refine zwC_of (D := 1) 3 (by decide +kernel) rfl (ls := [(2, 37), (0, a), (0, b)]) rfl ?_
  refine zwW_p [(1, 1, 0), (7, 0, 0), (0, 0, 1), (0, 4, 1)] (q := 6) (ls' := [(2, 37), (0, a), (0, b)]) (st' := [(1, 4), (1, 0), (1, a)]) (by decide +kernel) rfl ?_
  refine zwW_cs (k' := 101) (n := 3) (nx := 9) (as := [(1, a), (1, 0), (1, 4)]) (st' := []) (by decide +kernel) rfl (m101 h a 0 4) rfl ?_
  rintro x _ ⟨rfl, ⟨rfl, c1⟩ | ⟨rfl, c1⟩⟩
  · refine zwif_eq (q := 33) (nx := 12) (by decide +kernel) (fun c2 => ?_) (fun c2 => ?_)
    · exfalso; omega
    · refine zwW_p [(1, 2, 0), (7, 0, 0), (0, 0, 1), (0, 155, 1)] (q := 18) (ls' := [(2, 37), (0, a), (0, b)]) (st' := [(1, 155), (1, 0), (1, b)]) (by decide +kernel) rfl ?_
      refine zwW_cs (k' := 101) (n := 3) (nx := 21) (as := [(1, b), (1, 0), (1, 155)]) (st' := []) (by decide +kernel) rfl (m101 h b 0 155) rfl ?_
      rintro x _ ⟨rfl, ⟨rfl, c3⟩ | ⟨rfl, c3⟩⟩
      · refine zwif_eq (q := 33) (nx := 24) (by decide +kernel) (fun c4 => ?_) (fun c4 => ?_)
        · exfalso; omega
        · refine zwW_p [(1, 0, 2), (1, 1, 0), (1, 2, 0)] (q := 27) (ls' := [(2, 37), (0, a), (0, b)]) (st' := [(0, b), (0, a), (2, 37)]) (by decide +kernel) rfl ?_
          refine zwW_cm I (op := 60) (k' := 126) (n := 2) (kd := 13) (m := 97) (nx := 30) (r := 37) (tl := [(0, a), (0, b)]) (st' := []) (by decide +kernel) rfl (by decide +kernel) rfl (m126 h I a b (by omega) (by omega) hW.2) ?_
          rintro v5 _ ⟨rfl, f6, f7, f8⟩
          refine zwW_p [(24, 34, 0)] (q := 34) (ls' := [(2, 37), (0, a), (0, b)]) (st' := [(0, v5)]) (by decide +kernel) rfl ?_
          refine zwW_ret (nx := 35) (a := 0) (b := 0) (by decide +kernel) rfl (Or.inl rfl) ?_
          exact ⟨rfl, by omega⟩
      · refine zwif_eq (q := 33) (nx := 24) (by decide +kernel) (fun c9 => ?_) (fun c9 => ?_)
        · refine zwW_p [(0, -1, 0)] (q := 34) (ls' := [(2, 37), (0, a), (0, b)]) (st' := [(0, -1)]) (by decide +kernel) rfl ?_
          refine zwW_ret (nx := 35) (a := 0) (b := 0) (by decide +kernel) rfl (Or.inl rfl) ?_
          exact ⟨rfl, by omega⟩
        · exfalso; omega
  · refine zwif_eq (q := 33) (nx := 12) (by decide +kernel) (fun c10 => ?_) (fun c10 => ?_)
    · refine zwW_p [(0, -1, 0)] (q := 34) (ls' := [(2, 37), (0, a), (0, b)]) (st' := [(0, -1)]) (by decide +kernel) rfl ?_
      refine zwW_ret (nx := 35) (a := 0) (b := 0) (by decide +kernel) rfl (Or.inl rfl) ?_
      exact ⟨rfl, by omega⟩
    · exfalso; omega
def ms32 : Zms := [(37, 37, 53, 54), (164, 164, 0, 12), (165, 165, 0, 12)]
-- WheelLandModel.force(II)I
theorem m32 {sc : List Int} (h : Hp) (I : zI h) (a b : Int) (hW : zCW h) : zwC sc 2 32 [(2, 37), (0, a), (0, b)] h (zwRt 0 (fun x g => zI g ∧ zMR ms32 h g ∧ (-2147483648 ≤ x ∧ x ≤ 2147483647) ∧ (zCW g))) := by
  refine zwC_of (D := 1) 3 (by decide +kernel) rfl (ls := [(2, 37), (0, a), (0, b)]) rfl ?_
  have R : zMR ms32 h h := zMR.rf _ _
  refine zwW_p [(1, 1, 0), (7, 0, 0), (0, 0, 1), (1, 0, 2)] (q := 4) (ls' := [(2, 37), (0, a), (0, b)]) (st' := [(2, 37), (1, 0), (1, a)]) (by decide +kernel) rfl ?_
  refine zwW_gs I (kd := 13) (bn := 52) (n := 97) (t := 0) (lo := 0) (hi := 8) (nx := 7) (by decide +kernel) ?_
  intro v1 ev1 lv1 uv1
  refine zwW_p [(0, 1, 0)] (q := 8) (ls' := [(2, 37), (0, a), (0, b)]) (st' := [(0, 1), (0, v1), (1, 0), (1, a)]) (by decide +kernel) rfl ?_
  refine zwW_sub (nx := 9) (by decide +kernel) (by first | omega | exact ⟨by omega, by omega⟩) ?_
  refine zwW_p [(7, 0, 0)] (q := 10) (ls' := [(2, 37), (0, a), (0, b)]) (st' := [(1, (v1 - 1)), (1, 0), (1, a)]) (by decide +kernel) rfl ?_
  refine zwW_cs (k' := 101) (n := 3) (nx := 13) (as := [(1, a), (1, 0), (1, (v1 - 1))]) (st' := []) (by decide +kernel) rfl (m101 h a 0 (v1 - 1)) rfl ?_
  rintro x _ ⟨rfl, ⟨rfl, c2⟩ | ⟨rfl, c2⟩⟩
  · refine zwif_eq (q := 41) (nx := 16) (by decide +kernel) (fun c3 => ?_) (fun c3 => ?_)
    · exfalso; omega
    · refine zwW_p [(1, 2, 0), (7, 0, 0), (1, 0, 2)] (q := 19) (ls' := [(2, 37), (0, a), (0, b)]) (st' := [(2, 37), (1, b)]) (by decide +kernel) rfl ?_
      refine zwW_gs I (kd := 13) (bn := 0) (n := 97) (t := 0) (lo := 0) (hi := 156) (nx := 22) (by decide +kernel) ?_
      intro v4 ev4 lv4 uv4
      refine zwW_p [(7, 0, 0), (0, 155, 1)] (q := 26) (ls' := [(2, 37), (0, a), (0, b)]) (st' := [(1, 155), (1, v4), (1, b)]) (by decide +kernel) rfl ?_
      refine zwW_cs (k' := 101) (n := 3) (nx := 29) (as := [(1, b), (1, v4), (1, 155)]) (st' := []) (by decide +kernel) rfl (m101 h b v4 155) rfl ?_
      rintro x _ ⟨rfl, ⟨rfl, c5⟩ | ⟨rfl, c5⟩⟩
      · refine zwif_eq (q := 41) (nx := 32) (by decide +kernel) (fun c6 => ?_) (fun c6 => ?_)
        · exfalso; omega
        · refine zwW_p [(1, 0, 2)] (q := 33) (ls' := [(2, 37), (0, a), (0, b)]) (st' := [(2, 37)]) (by decide +kernel) rfl ?_
          refine zwW_gs I (kd := 13) (bn := 53) (n := 97) (t := 0) (lo := 0) (hi := 12) (nx := 36) (by decide +kernel) ?_
          intro v7 ev7 lv7 uv7
          refine zwW_p [(0, 12, 0)] (q := 38) (ls' := [(2, 37), (0, a), (0, b)]) (st' := [(0, 12), (0, v7)]) (by decide +kernel) rfl ?_
          refine zwic_ne (q := 43) (nx := 41) (by decide +kernel) (fun c8 => ?_) (fun c8 => ?_)
          · refine zwW_p [(1, 0, 2)] (q := 44) (ls' := [(2, 37), (0, a), (0, b)]) (st' := [(2, 37)]) (by decide +kernel) rfl ?_
            refine zwW_gc I (kd := 13) (bn := 50) (n := 97) (c := 164) (nx := 47) (by decide +kernel) ?_
            refine zwW_p [(1, 0, 2)] (q := 48) (ls' := [(2, 37), (0, a), (0, b)]) (st' := [(2, 37), (2, 164)]) (by decide +kernel) rfl ?_
            refine zwW_gs I (kd := 13) (bn := 53) (n := 97) (t := 0) (lo := 0) (hi := 12) (nx := 51) (by decide +kernel) ?_
            intro v9 ev9 lv9 uv9
            refine zwW_p [(1, 1, 0)] (q := 52) (ls' := [(2, 37), (0, a), (0, b)]) (st' := [(0, a), (0, v9), (2, 164)]) (by decide +kernel) rfl ?_
            refine zwW_as I (a1 := 164) (a2 := 164) (n := 12) (lo := 0) (hi := 7) (nx := 53) (by decide +kernel) (by first | decide | exact ⟨by decide, by decide⟩) (by first | omega | exact ⟨by omega, by omega⟩) (by first | omega | exact ⟨by omega, by omega⟩) ?_
            intro h10 eh10 Ih10
            have th10_37_52 : fld h10 37 52 = fld h 37 52 := by rw [eh10]; exact fld_wr (by omega)
            have th10_37_53 : fld h10 37 53 = fld h 37 53 := by rw [eh10]; exact fld_wr (by omega)
            have Ah10_164 : ∀ j : Nat, fld h10 164 j = if j = v9.toNat then a else fld h 164 j := by
              intro j
              by_cases hq : j = v9.toNat
              · rw [if_pos hq, hq, eh10]; exact fld_wr_eq (I.s (a1 := 164) (a2 := 164) (k := 20) (n := 12) (by decide +kernel) (by decide) (by decide)) (by omega)
              · rw [if_neg hq, eh10]; exact (fld_wr (Or.inr hq)).trans rfl
            have Rh10 : zMR ms32 h h10 := R.w (a1 := 164) (a2 := 164) (j1 := 0) (j2 := 12) (by decide +kernel) (by first | decide | exact ⟨by decide, by decide⟩) (by first | omega | exact ⟨by omega, by omega⟩) eh10
            refine zwW_p [(1, 0, 2)] (q := 54) (ls' := [(2, 37), (0, a), (0, b)]) (st' := [(2, 37)]) (by decide +kernel) rfl ?_
            refine zwW_gc Ih10 (kd := 13) (bn := 51) (n := 97) (c := 165) (nx := 57) (by decide +kernel) ?_
            refine zwW_p [(1, 0, 2)] (q := 58) (ls' := [(2, 37), (0, a), (0, b)]) (st' := [(2, 37), (2, 165)]) (by decide +kernel) rfl ?_
            refine zwW_gs Ih10 (kd := 13) (bn := 53) (n := 97) (t := 0) (lo := 0) (hi := 12) (nx := 61) (by decide +kernel) ?_
            intro v11 ev11 lv11 uv11
            refine zwW_p [(1, 2, 0)] (q := 62) (ls' := [(2, 37), (0, a), (0, b)]) (st' := [(0, b), (0, v11), (2, 165)]) (by decide +kernel) rfl ?_
            refine zwW_as Ih10 (a1 := 165) (a2 := 165) (n := 12) (lo := 0) (hi := 155) (nx := 63) (by decide +kernel) (by first | decide | exact ⟨by decide, by decide⟩) (by first | omega | exact ⟨by omega, by omega⟩) (by first | omega | exact ⟨by omega, by omega⟩) ?_
            intro h12 eh12 Ih12
            have th12_37_52 : fld h12 37 52 = fld h10 37 52 := by rw [eh12]; exact fld_wr (by omega)
            have th12_37_53 : fld h12 37 53 = fld h10 37 53 := by rw [eh12]; exact fld_wr (by omega)
            have Ah12_164 : ∀ j : Nat, fld h12 164 j = if j = v9.toNat then a else fld h 164 j := fun j => by rw [eh12]; exact (fld_wr (by omega)).trans (Ah10_164 j)
            have Rh12 : zMR ms32 h h12 := Rh10.w (a1 := 165) (a2 := 165) (j1 := 0) (j2 := 12) (by decide +kernel) (by first | decide | exact ⟨by decide, by decide⟩) (by first | omega | exact ⟨by omega, by omega⟩) eh12
            refine zwW_p [(1, 0, 2), (12, 0, 0)] (q := 65) (ls' := [(2, 37), (0, a), (0, b)]) (st' := [(2, 37), (2, 37)]) (by decide +kernel) rfl ?_
            refine zwW_gs Ih12 (kd := 13) (bn := 53) (n := 97) (t := 0) (lo := 0) (hi := 12) (nx := 68) (by decide +kernel) ?_
            intro v13 ev13 lv13 uv13
            refine zwW_p [(0, 1, 0)] (q := 69) (ls' := [(2, 37), (0, a), (0, b)]) (st' := [(0, 1), (0, v13), (2, 37)]) (by decide +kernel) rfl ?_
            refine zwW_add (nx := 70) (by decide +kernel) (by first | omega | exact ⟨by omega, by omega⟩) ?_
            refine zwW_ps Ih12 (kd := 13) (bn := 53) (n := 97) (lo := 0) (hi := 12) (nx := 73) (by decide +kernel) (by first | omega | exact ⟨by omega, by omega⟩) ?_
            intro h14 eh14 Ih14
            have th14_37_52 : fld h14 37 52 = fld h12 37 52 := by rw [eh14]; exact fld_wr (by decide)
            have th14_37_53 : fld h14 37 53 = (v13 + 1) := by rw [eh14]; exact fld_wr_eq (Ih12.s (a1 := 37) (a2 := 37) (k := 13) (n := 97) (by decide +kernel) (by decide) (by decide)) (by decide)
            have Ah14_164 : ∀ j : Nat, fld h14 164 j = if j = v9.toNat then a else fld h 164 j := fun j => by rw [eh14]; exact (fld_wr (by omega)).trans (Ah12_164 j)
            have Rh14 : zMR ms32 h h14 := Rh12.w (a1 := 37) (a2 := 37) (j1 := 53) (j2 := 54) (by decide +kernel) (by first | decide | exact ⟨by decide, by decide⟩) (by first | decide | exact ⟨by decide, by decide⟩) eh14
            refine zwW_p [(1, 0, 2)] (q := 74) (ls' := [(2, 37), (0, a), (0, b)]) (st' := [(2, 37)]) (by decide +kernel) rfl ?_
            refine zwW_gs Ih14 (kd := 13) (bn := 53) (n := 97) (t := 0) (lo := 0) (hi := 12) (nx := 77) (by decide +kernel) ?_
            intro v15 ev15 lv15 uv15
            refine zwW_ret (nx := 78) (a := 0) (b := 0) (by decide +kernel) rfl (Or.inl rfl) ?_
            refine ⟨Ih14, Rh14, by omega, hW.mr1 I Rh14 (by decide +kernel) (fun k hk => ?_)⟩
            rw [Ah14_164 k]
            have := hW.2 k
            split <;> omega
          · refine zwW_p [(0, -1, 0)] (q := 42) (ls' := [(2, 37), (0, a), (0, b)]) (st' := [(0, -1)]) (by decide +kernel) rfl ?_
            refine zwW_ret (nx := 43) (a := 0) (b := 0) (by decide +kernel) rfl (Or.inl rfl) ?_
            exact ⟨I, R, by omega, hW⟩
      · refine zwif_eq (q := 41) (nx := 32) (by decide +kernel) (fun c16 => ?_) (fun c16 => ?_)
        · refine zwW_p [(0, -1, 0)] (q := 42) (ls' := [(2, 37), (0, a), (0, b)]) (st' := [(0, -1)]) (by decide +kernel) rfl ?_
          refine zwW_ret (nx := 43) (a := 0) (b := 0) (by decide +kernel) rfl (Or.inl rfl) ?_
          exact ⟨I, R, by omega, hW⟩
        · exfalso; omega
  · refine zwif_eq (q := 41) (nx := 16) (by decide +kernel) (fun c17 => ?_) (fun c17 => ?_)
    · refine zwW_p [(0, -1, 0)] (q := 42) (ls' := [(2, 37), (0, a), (0, b)]) (st' := [(0, -1)]) (by decide +kernel) rfl ?_
      refine zwW_ret (nx := 43) (a := 0) (b := 0) (by decide +kernel) rfl (Or.inl rfl) ?_
      exact ⟨I, R, by omega, hW⟩
    · exfalso; omega
