/-! contracts of methods -/
-- WheelLandModel.in(JJJ)Z
theorem m101 {sc : List Int} (h : Hp) (a b c : Int) : zwC sc 1 101 [(1, a), (1, b), (1, c)] h (zwRt 0 (fun x g => h = g ∧ ((x = 1 ∧ (b ≤ a ∧ a ≤ c)) ∨ (x = 0 ∧ (a < b ∨ c < a))))) := by
  refine zwC_of (D := 0) 6 (by decide +kernel) rfl (ls := [(1, a), (9, 0), (1, b), (9, 0), (1, c), (9, 0)]) rfl ?_
  refine zwW_p [(1, 0, 1), (1, 2, 1)] (q := 2) (ls' := [(1, a), (9, 0), (1, b), (9, 0), (1, c), (9, 0)]) (st' := [(1, b), (1, a)]) (by decide +kernel) rfl ?_
  refine zwlc_lt (q := 17) (nx := 6) (m := 3) (by decide +kernel) (by decide +kernel) (fun c1 => ?_) (fun c1 => ?_)
  · refine zwW_p [(0, 0, 0)] (q := 18) (ls' := [(1, a), (9, 0), (1, b), (9, 0), (1, c), (9, 0)]) (st' := [(0, 0)]) (by decide +kernel) rfl ?_
    refine zwW_ret (nx := 19) (a := 1) (b := 0) (by decide +kernel) rfl (Or.inr (Or.inl ⟨rfl, Or.inl rfl⟩)) ?_
    exact ⟨rfl, Or.inr ⟨rfl, by omega⟩⟩
  · refine zwW_p [(1, 0, 1), (1, 4, 1)] (q := 9) (ls' := [(1, a), (9, 0), (1, b), (9, 0), (1, c), (9, 0)]) (st' := [(1, c), (1, a)]) (by decide +kernel) rfl ?_
    refine zwlc_gt (q := 17) (nx := 13) (m := 10) (by decide +kernel) (by decide +kernel) (fun c2 => ?_) (fun c2 => ?_)
    · refine zwW_p [(0, 0, 0)] (q := 18) (ls' := [(1, a), (9, 0), (1, b), (9, 0), (1, c), (9, 0)]) (st' := [(0, 0)]) (by decide +kernel) rfl ?_
      refine zwW_ret (nx := 19) (a := 1) (b := 0) (by decide +kernel) rfl (Or.inr (Or.inl ⟨rfl, Or.inl rfl⟩)) ?_
      exact ⟨rfl, Or.inr ⟨rfl, by omega⟩⟩
    · refine zwW_p [(0, 1, 0), (24, 18, 0)] (q := 18) (ls' := [(1, a), (9, 0), (1, b), (9, 0), (1, c), (9, 0)]) (st' := [(0, 1)]) (by decide +kernel) rfl ?_
      refine zwW_ret (nx := 19) (a := 1) (b := 0) (by decide +kernel) rfl (Or.inr (Or.inl ⟨rfl, Or.inr rfl⟩)) ?_
      exact ⟨rfl, Or.inl ⟨rfl, by omega⟩⟩
-- WheelLandModel.isVillage(I)Z
theorem m104 {sc : List Int} (h : Hp) (I : zI h) (a : Int) : zwC sc 2 104 [(2, 37), (0, a)] h (zwRt 0 (fun x g => h = g ∧ ((x = 1 ∧ (0 ≤ a ∧ a < fld h 37 1 ∧ a ≤ 7)) ∨ (x = 0 ∧ (a < 0 ∨ fld h 37 1 ≤ a))))) := by
  refine zwC_of (D := 1) 2 (by decide +kernel) rfl (ls := [(2, 37), (0, a)]) rfl ?_
  refine zwW_p [(1, 1, 0), (7, 0, 0), (0, 0, 1), (1, 0, 2)] (q := 4) (ls' := [(2, 37), (0, a)]) (st' := [(2, 37), (1, 0), (1, a)]) (by decide +kernel) rfl ?_
  refine zwW_gs I (kd := 13) (bn := 1) (n := 97) (t := 0) (lo := 0) (hi := 8) (nx := 7) (by decide +kernel) ?_
  intro v1 ev1 lv1 uv1
  refine zwW_p [(0, 1, 0)] (q := 8) (ls' := [(2, 37), (0, a)]) (st' := [(0, 1), (0, v1), (1, 0), (1, a)]) (by decide +kernel) rfl ?_
  refine zwW_sub (nx := 9) (by decide +kernel) (by first | omega | exact ⟨by omega, by omega⟩) ?_
  refine zwW_p [(7, 0, 0)] (q := 10) (ls' := [(2, 37), (0, a)]) (st' := [(1, (v1 - 1)), (1, 0), (1, a)]) (by decide +kernel) rfl ?_
  refine zwW_cs (k' := 101) (n := 3) (nx := 13) (as := [(1, a), (1, 0), (1, (v1 - 1))]) (st' := []) (by decide +kernel) rfl (m101 h a 0 (v1 - 1)) rfl ?_
  rintro x _ ⟨rfl, ⟨rfl, c2⟩ | ⟨rfl, c2⟩⟩
  · refine zwW_ret (nx := 14) (a := 1) (b := 0) (by decide +kernel) rfl (Or.inr (Or.inl ⟨rfl, by omega⟩)) ?_
    exact ⟨rfl, Or.inl ⟨rfl, by omega⟩⟩
  · refine zwW_ret (nx := 14) (a := 1) (b := 0) (by decide +kernel) rfl (Or.inr (Or.inl ⟨rfl, by omega⟩)) ?_
    exact ⟨rfl, Or.inr ⟨rfl, by omega⟩⟩
-- WheelLandModel.isHouse(I)Z
theorem m111 {sc : List Int} (h : Hp) (I : zI h) (a : Int) : zwC sc 2 111 [(2, 37), (0, a)] h (zwRt 0 (fun x g => h = g ∧ ((x = 1 ∧ (0 ≤ a ∧ a < fld h 37 2 ∧ a ≤ 19)) ∨ (x = 0 ∧ (a < 0 ∨ fld h 37 2 ≤ a))))) := by
  refine zwC_of (D := 1) 2 (by decide +kernel) rfl (ls := [(2, 37), (0, a)]) rfl ?_
  refine zwW_p [(1, 1, 0), (7, 0, 0), (0, 0, 1), (1, 0, 2)] (q := 4) (ls' := [(2, 37), (0, a)]) (st' := [(2, 37), (1, 0), (1, a)]) (by decide +kernel) rfl ?_
  refine zwW_gs I (kd := 13) (bn := 2) (n := 97) (t := 0) (lo := 0) (hi := 20) (nx := 7) (by decide +kernel) ?_
  intro v1 ev1 lv1 uv1
  refine zwW_p [(0, 1, 0)] (q := 8) (ls' := [(2, 37), (0, a)]) (st' := [(0, 1), (0, v1), (1, 0), (1, a)]) (by decide +kernel) rfl ?_
  refine zwW_sub (nx := 9) (by decide +kernel) (by first | omega | exact ⟨by omega, by omega⟩) ?_
  refine zwW_p [(7, 0, 0)] (q := 10) (ls' := [(2, 37), (0, a)]) (st' := [(1, (v1 - 1)), (1, 0), (1, a)]) (by decide +kernel) rfl ?_
  refine zwW_cs (k' := 101) (n := 3) (nx := 13) (as := [(1, a), (1, 0), (1, (v1 - 1))]) (st' := []) (by decide +kernel) rfl (m101 h a 0 (v1 - 1)) rfl ?_
  rintro x _ ⟨rfl, ⟨rfl, c2⟩ | ⟨rfl, c2⟩⟩
  · refine zwW_ret (nx := 14) (a := 1) (b := 0) (by decide +kernel) rfl (Or.inr (Or.inl ⟨rfl, by omega⟩)) ?_
    exact ⟨rfl, Or.inl ⟨rfl, by omega⟩⟩
  · refine zwW_ret (nx := 14) (a := 1) (b := 0) (by decide +kernel) rfl (Or.inr (Or.inl ⟨rfl, by omega⟩)) ?_
    exact ⟨rfl, Or.inr ⟨rfl, by omega⟩⟩
-- WheelLandModel.isLot(I)Z
theorem m116 {sc : List Int} (h : Hp) (I : zI h) (a : Int) : zwC sc 2 116 [(2, 37), (0, a)] h (zwRt 0 (fun x g => h = g ∧ ((x = 1 ∧ (0 ≤ a ∧ a < fld h 37 64 ∧ a ≤ 299)) ∨ (x = 0 ∧ (a < 0 ∨ fld h 37 64 ≤ a))))) := by
  refine zwC_of (D := 1) 2 (by decide +kernel) rfl (ls := [(2, 37), (0, a)]) rfl ?_
  refine zwW_p [(1, 1, 0), (7, 0, 0), (0, 0, 1), (1, 0, 2)] (q := 4) (ls' := [(2, 37), (0, a)]) (st' := [(2, 37), (1, 0), (1, a)]) (by decide +kernel) rfl ?_
  refine zwW_gs I (kd := 13) (bn := 64) (n := 97) (t := 0) (lo := 0) (hi := 300) (nx := 7) (by decide +kernel) ?_
  intro v1 ev1 lv1 uv1
  refine zwW_p [(0, 1, 0)] (q := 8) (ls' := [(2, 37), (0, a)]) (st' := [(0, 1), (0, v1), (1, 0), (1, a)]) (by decide +kernel) rfl ?_
  refine zwW_sub (nx := 9) (by decide +kernel) (by first | omega | exact ⟨by omega, by omega⟩) ?_
  refine zwW_p [(7, 0, 0)] (q := 10) (ls' := [(2, 37), (0, a)]) (st' := [(1, (v1 - 1)), (1, 0), (1, a)]) (by decide +kernel) rfl ?_
  refine zwW_cs (k' := 101) (n := 3) (nx := 13) (as := [(1, a), (1, 0), (1, (v1 - 1))]) (st' := []) (by decide +kernel) rfl (m101 h a 0 (v1 - 1)) rfl ?_
  rintro x _ ⟨rfl, ⟨rfl, c2⟩ | ⟨rfl, c2⟩⟩
  · refine zwW_ret (nx := 14) (a := 1) (b := 0) (by decide +kernel) rfl (Or.inr (Or.inl ⟨rfl, by omega⟩)) ?_
    exact ⟨rfl, Or.inl ⟨rfl, by omega⟩⟩
  · refine zwW_ret (nx := 14) (a := 1) (b := 0) (by decide +kernel) rfl (Or.inr (Or.inl ⟨rfl, by omega⟩)) ?_
    exact ⟨rfl, Or.inr ⟨rfl, by omega⟩⟩
-- WheelLandModel.isCloth(I)Z
theorem m139 {sc : List Int} (h : Hp) (I : zI h) (a : Int) : zwC sc 2 139 [(2, 37), (0, a)] h (zwRt 0 (fun x g => h = g ∧ ((x = 1 ∧ (0 ≤ a ∧ a < fld h 37 78 ∧ a ≤ 199)) ∨ (x = 0 ∧ (a < 0 ∨ fld h 37 78 ≤ a))))) := by
  refine zwC_of (D := 1) 2 (by decide +kernel) rfl (ls := [(2, 37), (0, a)]) rfl ?_
  refine zwW_p [(1, 1, 0), (7, 0, 0), (0, 0, 1), (1, 0, 2)] (q := 4) (ls' := [(2, 37), (0, a)]) (st' := [(2, 37), (1, 0), (1, a)]) (by decide +kernel) rfl ?_
  refine zwW_gs I (kd := 13) (bn := 78) (n := 97) (t := 0) (lo := 0) (hi := 200) (nx := 7) (by decide +kernel) ?_
  intro v1 ev1 lv1 uv1
  refine zwW_p [(0, 1, 0)] (q := 8) (ls' := [(2, 37), (0, a)]) (st' := [(0, 1), (0, v1), (1, 0), (1, a)]) (by decide +kernel) rfl ?_
  refine zwW_sub (nx := 9) (by decide +kernel) (by first | omega | exact ⟨by omega, by omega⟩) ?_
  refine zwW_p [(7, 0, 0)] (q := 10) (ls' := [(2, 37), (0, a)]) (st' := [(1, (v1 - 1)), (1, 0), (1, a)]) (by decide +kernel) rfl ?_
  refine zwW_cs (k' := 101) (n := 3) (nx := 13) (as := [(1, a), (1, 0), (1, (v1 - 1))]) (st' := []) (by decide +kernel) rfl (m101 h a 0 (v1 - 1)) rfl ?_
  rintro x _ ⟨rfl, ⟨rfl, c2⟩ | ⟨rfl, c2⟩⟩
  · refine zwW_ret (nx := 14) (a := 1) (b := 0) (by decide +kernel) rfl (Or.inr (Or.inl ⟨rfl, by omega⟩)) ?_
    exact ⟨rfl, Or.inl ⟨rfl, by omega⟩⟩
  · refine zwW_ret (nx := 14) (a := 1) (b := 0) (by decide +kernel) rfl (Or.inr (Or.inl ⟨rfl, by omega⟩)) ?_
    exact ⟨rfl, Or.inr ⟨rfl, by omega⟩⟩
-- WheelLandModel.season(I)I
theorem m174 {sc : List Int} (h : Hp) (a : Int) (p1 : 0 ≤ a) (p2 : a ≤ 156) : zwC sc 1 174 [(0, a)] h (zwRt 0 (fun x g => h = g ∧ (-2147483648 ≤ x ∧ x ≤ 2147483647) ∧ (x = a / 13 % 4) ∧ (0 ≤ x) ∧ (x ≤ 3))) := by
  refine zwC_of (D := 0) 1 (by decide +kernel) rfl (ls := [(0, a)]) rfl ?_
  refine zwW_p [(1, 0, 0), (0, 13, 0)] (q := 3) (ls' := [(0, a)]) (st' := [(0, 13), (0, a)]) (by decide +kernel) rfl ?_
  refine zwW_div (nx := 4) (by decide +kernel) (by omega) (by omega) (by omega) ?_
  refine zwW_p [(0, 4, 0)] (q := 5) (ls' := [(0, a)]) (st' := [(0, 4), (0, (a / 13))]) (by decide +kernel) rfl ?_
  refine zwW_rem (nx := 6) (by decide +kernel) (by omega) (by omega) ?_
  refine zwW_ret (nx := 7) (a := 0) (b := 0) (by decide +kernel) rfl (Or.inl rfl) ?_
  exact ⟨rfl, by omega, by omega, by omega, by omega⟩
-- WheelLandModel.least(I)I
theorem m129 {sc : List Int} (h : Hp) (a : Int) (q_a : -2147483648 ≤ a ∧ a ≤ 2147483647) : zwC sc 1 129 [(0, a)] h (zwRt 0 (fun x g => h = g ∧ (-2147483648 ≤ x ∧ x ≤ 2147483647) ∧ ((x = a ∧ 0 ≤ a) ∨ (x = 0 ∧ a < 0)) ∧ (0 ≤ x))) := by
  refine zwC_of (D := 0) 1 (by decide +kernel) rfl (ls := [(0, a)]) rfl ?_
  refine zwW_p [(1, 0, 0)] (q := 1) (ls' := [(0, a)]) (st' := [(0, a)]) (by decide +kernel) rfl ?_
  refine zwif_ge (q := 8) (nx := 4) (by decide +kernel) (fun c1 => ?_) (fun c1 => ?_)
  · refine zwW_p [(1, 0, 0)] (q := 9) (ls' := [(0, a)]) (st' := [(0, a)]) (by decide +kernel) rfl ?_
    refine zwW_ret (nx := 10) (a := 0) (b := 0) (by decide +kernel) rfl (Or.inl rfl) ?_
    exact ⟨rfl, by omega, by omega, by omega⟩
  · refine zwW_p [(0, 0, 0), (24, 9, 0)] (q := 9) (ls' := [(0, a)]) (st' := [(0, 0)]) (by decide +kernel) rfl ?_
    refine zwW_ret (nx := 10) (a := 0) (b := 0) (by decide +kernel) rfl (Or.inl rfl) ?_
    exact ⟨rfl, by omega, by omega, by omega⟩
-- WheelLandModel.brought(J)I
theorem m252 {sc : List Int} (h : Hp) (a : Int) : zwC sc 1 252 [(1, a)] h (zwRt 0 (fun x g => h = g ∧ (-2147483648 ≤ x ∧ x ≤ 2147483647) ∧ (-1000000 ≤ x) ∧ (x ≤ 1000000) ∧ (x = max (-1000000) (min a 1000000)))) := by
  refine zwC_of (D := 0) 2 (by decide +kernel) rfl (ls := [(1, a), (9, 0)]) rfl ?_
  refine zwW_p [(1, 0, 1), (0, -1000000, 1)] (q := 4) (ls' := [(1, a), (9, 0)]) (st' := [(1, -1000000), (1, a)]) (by decide +kernel) rfl ?_
  refine zwlc_ge (q := 14) (nx := 8) (m := 5) (by decide +kernel) (by decide +kernel) (fun c1 => ?_) (fun c1 => ?_)
  · refine zwW_p [(1, 0, 1), (0, 1000000, 1)] (q := 18) (ls' := [(1, a), (9, 0)]) (st' := [(1, 1000000), (1, a)]) (by decide +kernel) rfl ?_
    refine zwlc_le (q := 28) (nx := 22) (m := 19) (by decide +kernel) (by decide +kernel) (fun c2 => ?_) (fun c2 => ?_)
    · refine zwW_p [(1, 0, 1)] (q := 29) (ls' := [(1, a), (9, 0)]) (st' := [(1, a)]) (by decide +kernel) rfl ?_
      refine zwW_l2i (nx := 30) (by decide +kernel) (by first | omega | exact ⟨by omega, by omega⟩) ?_
      refine zwW_ret (nx := 31) (a := 0) (b := 0) (by decide +kernel) rfl (Or.inl rfl) ?_
      exact ⟨rfl, by omega, by omega, by omega, by omega⟩
    · refine zwW_p [(0, 1000000, 1), (24, 29, 0)] (q := 29) (ls' := [(1, a), (9, 0)]) (st' := [(1, 1000000)]) (by decide +kernel) rfl ?_
      refine zwW_l2i (nx := 30) (by decide +kernel) (by first | omega | exact ⟨by omega, by omega⟩) ?_
      refine zwW_ret (nx := 31) (a := 0) (b := 0) (by decide +kernel) rfl (Or.inl rfl) ?_
      exact ⟨rfl, by omega, by omega, by omega, by omega⟩
  · refine zwW_p [(0, -1000000, 1), (24, 29, 0)] (q := 29) (ls' := [(1, a), (9, 0)]) (st' := [(1, -1000000)]) (by decide +kernel) rfl ?_
    refine zwW_l2i (nx := 30) (by decide +kernel) (by first | omega | exact ⟨by omega, by omega⟩) ?_
    refine zwW_ret (nx := 31) (a := 0) (b := 0) (by decide +kernel) rfl (Or.inl rfl) ?_
    exact ⟨rfl, by omega, by omega, by omega, by omega⟩
-- WheelLandModel.isLetter(I)Z
theorem m244 {sc : List Int} (h : Hp) (a : Int) : zwC sc 1 244 [(0, a)] h (zwRt 0 (fun x g => h = g ∧ ((x = 1 ∧ (97 ≤ a ∧ a ≤ 122)) ∨ (x = 0 ∧ (a < 97 ∨ 122 < a))))) := by
  refine zwC_of (D := 0) 1 (by decide +kernel) rfl (ls := [(0, a)]) rfl ?_
  refine zwW_p [(1, 0, 0), (0, 97, 0)] (q := 3) (ls' := [(0, a)]) (st' := [(0, 97), (0, a)]) (by decide +kernel) rfl ?_
  refine zwic_lt (q := 16) (nx := 6) (by decide +kernel) (fun c1 => ?_) (fun c1 => ?_)
  · refine zwW_p [(0, 0, 0)] (q := 17) (ls' := [(0, a)]) (st' := [(0, 0)]) (by decide +kernel) rfl ?_
    refine zwW_ret (nx := 18) (a := 1) (b := 0) (by decide +kernel) rfl (Or.inr (Or.inl ⟨rfl, Or.inl rfl⟩)) ?_
    exact ⟨rfl, Or.inr ⟨rfl, by omega⟩⟩
  · refine zwW_p [(1, 0, 0), (0, 122, 0)] (q := 9) (ls' := [(0, a)]) (st' := [(0, 122), (0, a)]) (by decide +kernel) rfl ?_
    refine zwic_gt (q := 16) (nx := 12) (by decide +kernel) (fun c2 => ?_) (fun c2 => ?_)
    · refine zwW_p [(0, 0, 0)] (q := 17) (ls' := [(0, a)]) (st' := [(0, 0)]) (by decide +kernel) rfl ?_
      refine zwW_ret (nx := 18) (a := 1) (b := 0) (by decide +kernel) rfl (Or.inr (Or.inl ⟨rfl, Or.inl rfl⟩)) ?_
      exact ⟨rfl, Or.inr ⟨rfl, by omega⟩⟩
    · refine zwW_p [(0, 1, 0), (24, 17, 0)] (q := 17) (ls' := [(0, a)]) (st' := [(0, 1)]) (by decide +kernel) rfl ?_
      refine zwW_ret (nx := 18) (a := 1) (b := 0) (by decide +kernel) rfl (Or.inr (Or.inl ⟨rfl, Or.inr rfl⟩)) ?_
      exact ⟨rfl, Or.inl ⟨rfl, by omega⟩⟩
-- WheelLandModel.isDigit(I)Z
theorem m245 {sc : List Int} (h : Hp) (a : Int) : zwC sc 1 245 [(0, a)] h (zwRt 0 (fun x g => h = g ∧ ((x = 1 ∧ (48 ≤ a ∧ a ≤ 57)) ∨ (x = 0 ∧ (a < 48 ∨ 57 < a))))) := by
  refine zwC_of (D := 0) 1 (by decide +kernel) rfl (ls := [(0, a)]) rfl ?_
  refine zwW_p [(1, 0, 0), (0, 48, 0)] (q := 3) (ls' := [(0, a)]) (st' := [(0, 48), (0, a)]) (by decide +kernel) rfl ?_
  refine zwic_lt (q := 16) (nx := 6) (by decide +kernel) (fun c1 => ?_) (fun c1 => ?_)
  · refine zwW_p [(0, 0, 0)] (q := 17) (ls' := [(0, a)]) (st' := [(0, 0)]) (by decide +kernel) rfl ?_
    refine zwW_ret (nx := 18) (a := 1) (b := 0) (by decide +kernel) rfl (Or.inr (Or.inl ⟨rfl, Or.inl rfl⟩)) ?_
    exact ⟨rfl, Or.inr ⟨rfl, by omega⟩⟩
  · refine zwW_p [(1, 0, 0), (0, 57, 0)] (q := 9) (ls' := [(0, a)]) (st' := [(0, 57), (0, a)]) (by decide +kernel) rfl ?_
    refine zwic_gt (q := 16) (nx := 12) (by decide +kernel) (fun c2 => ?_) (fun c2 => ?_)
    · refine zwW_p [(0, 0, 0)] (q := 17) (ls' := [(0, a)]) (st' := [(0, 0)]) (by decide +kernel) rfl ?_
      refine zwW_ret (nx := 18) (a := 1) (b := 0) (by decide +kernel) rfl (Or.inr (Or.inl ⟨rfl, Or.inl rfl⟩)) ?_
      exact ⟨rfl, Or.inr ⟨rfl, by omega⟩⟩
    · refine zwW_p [(0, 1, 0), (24, 17, 0)] (q := 17) (ls' := [(0, a)]) (st' := [(0, 1)]) (by decide +kernel) rfl ?_
      refine zwW_ret (nx := 18) (a := 1) (b := 0) (by decide +kernel) rfl (Or.inr (Or.inl ⟨rfl, Or.inr rfl⟩)) ?_
      exact ⟨rfl, Or.inl ⟨rfl, by omega⟩⟩
-- WheelLandModel.hasLoom(I)Z
theorem m112 {sc : List Int} (h : Hp) (I : zI h) (a : Int) (p1 : 0 ≤ a) (p2 : a ≤ 19) : zwC sc 1 112 [(2, 37), (0, a)] h (zwRt 0 (fun x g => h = g ∧ ((x = 1 ∧ (0 < fld h 91 a.toNat)) ∨ (x = 0 ∧ (fld h 91 a.toNat ≤ 0))))) := by
  refine zwC_of (D := 0) 2 (by decide +kernel) rfl (ls := [(2, 37), (0, a)]) rfl ?_
  refine zwW_p [(1, 0, 2)] (q := 1) (ls' := [(2, 37), (0, a)]) (st' := [(2, 37)]) (by decide +kernel) rfl ?_
  refine zwW_gc I (kd := 13) (bn := 32) (n := 97) (c := 91) (nx := 4) (by decide +kernel) ?_
  refine zwW_p [(1, 1, 0)] (q := 5) (ls' := [(2, 37), (0, a)]) (st' := [(0, a), (2, 91)]) (by decide +kernel) rfl ?_
  refine zwW_al I (a1 := 91) (a2 := 91) (kd := 20) (n := 20) (t := 0) (lo := -2147483648) (hi := 2147483647) (nx := 6) (by decide +kernel) (by first | decide | exact ⟨by decide, by decide⟩) (by first | omega | exact ⟨by omega, by omega⟩) ?_
  intro v1 ev1 lv1 uv1
  refine zwif_le (q := 13) (nx := 9) (by decide +kernel) (fun c2 => ?_) (fun c2 => ?_)
  · refine zwW_p [(0, 0, 0)] (q := 14) (ls' := [(2, 37), (0, a)]) (st' := [(0, 0)]) (by decide +kernel) rfl ?_
    refine zwW_ret (nx := 15) (a := 1) (b := 0) (by decide +kernel) rfl (Or.inr (Or.inl ⟨rfl, Or.inl rfl⟩)) ?_
    exact ⟨rfl, Or.inr ⟨rfl, by omega⟩⟩
  · refine zwW_p [(0, 1, 0), (24, 14, 0)] (q := 14) (ls' := [(2, 37), (0, a)]) (st' := [(0, 1)]) (by decide +kernel) rfl ?_
    refine zwW_ret (nx := 15) (a := 1) (b := 0) (by decide +kernel) rfl (Or.inr (Or.inl ⟨rfl, Or.inr rfl⟩)) ?_
    exact ⟨rfl, Or.inl ⟨rfl, by omega⟩⟩
def ms4 : Zms := [(37, 37, 1, 2), (39, 46, 0, 4), (57, 64, 0, 157), (65, 65, 0, 8), (66, 66, 0, 8), (70, 70, 0, 8), (71, 71, 0, 8)]
-- WheelLandModel.village(III)I
theorem m4 {sc : List Int} (h : Hp) (I : zI h) (a b c : Int) (q_a : -2147483648 ≤ a ∧ a ≤ 2147483647) : zwC sc 2 4 [(2, 37), (0, a), (0, b), (0, c)] h (zwRt 0 (fun x g => zI g ∧ zMR ms4 h g ∧ (-2147483648 ≤ x ∧ x ≤ 2147483647) ∧ (((x = fld h 37 1) ∧ (x < 8) ∧ (fld g 37 1 = fld h 37 1 + 1) ∧ (0 ≤ a ∧ a / 1000000 ≤ 40 ∧ a / 10000 % 100 ≤ 40 ∧ a / 100 % 100 ≤ 40 ∧ a % 100 ≤ 40 ∧ 1 ≤ b ∧ b ≤ 9 ∧ 0 ≤ c ∧ c ≤ 9999) ∧ (∀ j : Nat, fld g 65 j = if j = (fld h 37 1).toNat then b else fld h 65 j) ∧ (∀ j : Nat, fld g 66 j = if j = (fld h 37 1).toNat then c else fld h 66 j) ∧ (∀ j : Nat, fld g 70 j = if j = (fld h 37 1).toNat then 20 else fld h 70 j) ∧ (∀ j : Nat, fld g 71 j = if j = (fld h 37 1).toNat then 10 else fld h 71 j)) ∨ ((x = -1) ∧ (g = h) ∧ (8 ≤ fld h 37 1 ∨ a < 0 ∨ 40 < a / 1000000 ∨ 40 < a / 10000 % 100 ∨ 40 < a / 100 % 100 ∨ 40 < a % 100 ∨ b < 1 ∨ 9 < b ∨ c < 0 ∨ 9999 < c))))) := by
  refine zwC_of (D := 1) 6 (by decide +kernel) rfl (ls := [(2, 37), (0, a), (0, b), (0, c), (9, 0), (9, 0)]) rfl ?_
  have R : zMR ms4 h h := zMR.rf _ _
  refine zwW_p [(1, 1, 0)] (q := 1) (ls' := [(2, 37), (0, a), (0, b), (0, c), (9, 0), (9, 0)]) (st' := [(0, a)]) (by decide +kernel) rfl ?_
  refine zwif_lt (q := 81) (nx := 4) (by decide +kernel) (fun c1 => ?_) (fun c1 => ?_)
  · refine zwW_p [(0, -1, 0)] (q := 82) (ls' := [(2, 37), (0, a), (0, b), (0, c), (9, 0), (9, 0)]) (st' := [(0, -1)]) (by decide +kernel) rfl ?_
    refine zwW_ret (nx := 83) (a := 0) (b := 0) (by decide +kernel) rfl (Or.inl rfl) ?_
    exact ⟨I, R, by omega, by exact Or.inr ⟨by omega, by rfl, by omega⟩⟩
  · refine zwW_p [(1, 1, 0), (0, 1000000, 0)] (q := 8) (ls' := [(2, 37), (0, a), (0, b), (0, c), (9, 0), (9, 0)]) (st' := [(0, 1000000), (0, a)]) (by decide +kernel) rfl ?_
    refine zwW_div (nx := 9) (by decide +kernel) (by omega) (by omega) (by omega) ?_
    refine zwW_p [(0, 40, 0)] (q := 11) (ls' := [(2, 37), (0, a), (0, b), (0, c), (9, 0), (9, 0)]) (st' := [(0, 40), (0, (a / 1000000))]) (by decide +kernel) rfl ?_
    refine zwic_gt (q := 81) (nx := 14) (by decide +kernel) (fun c2 => ?_) (fun c2 => ?_)
    · refine zwW_p [(0, -1, 0)] (q := 82) (ls' := [(2, 37), (0, a), (0, b), (0, c), (9, 0), (9, 0)]) (st' := [(0, -1)]) (by decide +kernel) rfl ?_
      refine zwW_ret (nx := 83) (a := 0) (b := 0) (by decide +kernel) rfl (Or.inl rfl) ?_
      exact ⟨I, R, by omega, by exact Or.inr ⟨by omega, by rfl, by omega⟩⟩
    · refine zwW_p [(1, 1, 0), (0, 10000, 0)] (q := 18) (ls' := [(2, 37), (0, a), (0, b), (0, c), (9, 0), (9, 0)]) (st' := [(0, 10000), (0, a)]) (by decide +kernel) rfl ?_
      refine zwW_div (nx := 19) (by decide +kernel) (by omega) (by omega) (by omega) ?_
      refine zwW_p [(0, 100, 0)] (q := 21) (ls' := [(2, 37), (0, a), (0, b), (0, c), (9, 0), (9, 0)]) (st' := [(0, 100), (0, (a / 10000))]) (by decide +kernel) rfl ?_
      refine zwW_rem (nx := 22) (by decide +kernel) (by omega) (by omega) ?_
      refine zwW_p [(0, 40, 0)] (q := 24) (ls' := [(2, 37), (0, a), (0, b), (0, c), (9, 0), (9, 0)]) (st' := [(0, 40), (0, ((a / 10000) % 100))]) (by decide +kernel) rfl ?_
      refine zwic_gt (q := 81) (nx := 27) (by decide +kernel) (fun c3 => ?_) (fun c3 => ?_)
      · refine zwW_p [(0, -1, 0)] (q := 82) (ls' := [(2, 37), (0, a), (0, b), (0, c), (9, 0), (9, 0)]) (st' := [(0, -1)]) (by decide +kernel) rfl ?_
        refine zwW_ret (nx := 83) (a := 0) (b := 0) (by decide +kernel) rfl (Or.inl rfl) ?_
        exact ⟨I, R, by omega, by exact Or.inr ⟨by omega, by rfl, by omega⟩⟩
      · refine zwW_p [(1, 1, 0), (0, 100, 0)] (q := 30) (ls' := [(2, 37), (0, a), (0, b), (0, c), (9, 0), (9, 0)]) (st' := [(0, 100), (0, a)]) (by decide +kernel) rfl ?_
        refine zwW_div (nx := 31) (by decide +kernel) (by omega) (by omega) (by omega) ?_
        refine zwW_p [(0, 100, 0)] (q := 33) (ls' := [(2, 37), (0, a), (0, b), (0, c), (9, 0), (9, 0)]) (st' := [(0, 100), (0, (a / 100))]) (by decide +kernel) rfl ?_
        refine zwW_rem (nx := 34) (by decide +kernel) (by omega) (by omega) ?_
        refine zwW_p [(0, 40, 0)] (q := 36) (ls' := [(2, 37), (0, a), (0, b), (0, c), (9, 0), (9, 0)]) (st' := [(0, 40), (0, ((a / 100) % 100))]) (by decide +kernel) rfl ?_
        refine zwic_gt (q := 81) (nx := 39) (by decide +kernel) (fun c4 => ?_) (fun c4 => ?_)
        · refine zwW_p [(0, -1, 0)] (q := 82) (ls' := [(2, 37), (0, a), (0, b), (0, c), (9, 0), (9, 0)]) (st' := [(0, -1)]) (by decide +kernel) rfl ?_
          refine zwW_ret (nx := 83) (a := 0) (b := 0) (by decide +kernel) rfl (Or.inl rfl) ?_
          exact ⟨I, R, by omega, by exact Or.inr ⟨by omega, by rfl, by omega⟩⟩
        · refine zwW_p [(1, 1, 0), (0, 100, 0)] (q := 42) (ls' := [(2, 37), (0, a), (0, b), (0, c), (9, 0), (9, 0)]) (st' := [(0, 100), (0, a)]) (by decide +kernel) rfl ?_
          refine zwW_rem (nx := 43) (by decide +kernel) (by omega) (by omega) ?_
          refine zwW_p [(0, 40, 0)] (q := 45) (ls' := [(2, 37), (0, a), (0, b), (0, c), (9, 0), (9, 0)]) (st' := [(0, 40), (0, (a % 100))]) (by decide +kernel) rfl ?_
          refine zwic_gt (q := 81) (nx := 48) (by decide +kernel) (fun c5 => ?_) (fun c5 => ?_)
          · refine zwW_p [(0, -1, 0)] (q := 82) (ls' := [(2, 37), (0, a), (0, b), (0, c), (9, 0), (9, 0)]) (st' := [(0, -1)]) (by decide +kernel) rfl ?_
            refine zwW_ret (nx := 83) (a := 0) (b := 0) (by decide +kernel) rfl (Or.inl rfl) ?_
            exact ⟨I, R, by omega, by exact Or.inr ⟨by omega, by rfl, by omega⟩⟩
          · refine zwW_p [(1, 2, 0), (7, 0, 0), (0, 1, 1), (0, 9, 1)] (q := 54) (ls' := [(2, 37), (0, a), (0, b), (0, c), (9, 0), (9, 0)]) (st' := [(1, 9), (1, 1), (1, b)]) (by decide +kernel) rfl ?_
            refine zwW_cs (k' := 101) (n := 3) (nx := 57) (as := [(1, b), (1, 1), (1, 9)]) (st' := []) (by decide +kernel) rfl (m101 h b 1 9) rfl ?_
            rintro x _ ⟨rfl, ⟨rfl, c6⟩ | ⟨rfl, c6⟩⟩
            · refine zwif_eq (q := 81) (nx := 60) (by decide +kernel) (fun c7 => ?_) (fun c7 => ?_)
              · exfalso; omega
              · refine zwW_p [(1, 3, 0), (7, 0, 0), (0, 0, 1), (0, 9999, 1)] (q := 66) (ls' := [(2, 37), (0, a), (0, b), (0, c), (9, 0), (9, 0)]) (st' := [(1, 9999), (1, 0), (1, c)]) (by decide +kernel) rfl ?_
                refine zwW_cs (k' := 101) (n := 3) (nx := 69) (as := [(1, c), (1, 0), (1, 9999)]) (st' := []) (by decide +kernel) rfl (m101 h c 0 9999) rfl ?_
                rintro x _ ⟨rfl, ⟨rfl, c8⟩ | ⟨rfl, c8⟩⟩
                · refine zwif_eq (q := 81) (nx := 72) (by decide +kernel) (fun c9 => ?_) (fun c9 => ?_)
                  · exfalso; omega
                  · refine zwW_p [(1, 0, 2)] (q := 73) (ls' := [(2, 37), (0, a), (0, b), (0, c), (9, 0), (9, 0)]) (st' := [(2, 37)]) (by decide +kernel) rfl ?_
                    refine zwW_gs I (kd := 13) (bn := 1) (n := 97) (t := 0) (lo := 0) (hi := 8) (nx := 76) (by decide +kernel) ?_
                    intro v10 ev10 lv10 uv10
                    refine zwW_p [(0, 8, 0)] (q := 78) (ls' := [(2, 37), (0, a), (0, b), (0, c), (9, 0), (9, 0)]) (st' := [(0, 8), (0, v10)]) (by decide +kernel) rfl ?_
                    refine zwic_ne (q := 83) (nx := 81) (by decide +kernel) (fun c11 => ?_) (fun c11 => ?_)
                    · refine zwW_p [(1, 0, 2)] (q := 84) (ls' := [(2, 37), (0, a), (0, b), (0, c), (9, 0), (9, 0)]) (st' := [(2, 37)]) (by decide +kernel) rfl ?_
                      refine zwW_gs I (kd := 13) (bn := 1) (n := 97) (t := 0) (lo := 0) (hi := 8) (nx := 87) (by decide +kernel) ?_
                      intro v12 ev12 lv12 uv12
                      refine zwW_p [(2, 4, 0), (1, 0, 2)] (q := 90) (ls' := [(2, 37), (0, a), (0, b), (0, c), (0, v12), (9, 0)]) (st' := [(2, 37)]) (by decide +kernel) rfl ?_
                      refine zwW_gc I (kd := 13) (bn := 3) (n := 97) (c := 38) (nx := 93) (by decide +kernel) ?_
                      refine zwW_p [(1, 4, 0)] (q := 95) (ls' := [(2, 37), (0, a), (0, b), (0, c), (0, v12), (9, 0)]) (st' := [(0, v12), (2, 38)]) (by decide +kernel) rfl ?_
                      refine zwW_ro I (a := 38) (n := 8) (kd := 26) (base := 39) (step := 1) (nx := 96) (by decide +kernel) rfl (by first | omega | exact ⟨by omega, by omega⟩) ?_
                      rw [show ((39 : Nat) : Int) + ((1 : Nat) : Int) * v12 = (39 + v12) by omega]
                      refine zwW_p [(0, 0, 0), (1, 1, 0), (0, 1000000, 0)] (q := 101) (ls' := [(2, 37), (0, a), (0, b), (0, c), (0, v12), (9, 0)]) (st' := [(0, 1000000), (0, a), (0, 0), (2, (39 + v12))]) (by decide +kernel) rfl ?_
                      refine zwW_div (nx := 102) (by decide +kernel) (by omega) (by omega) (by omega) ?_
                      refine zwW_as I (a1 := 39) (a2 := 46) (n := 4) (lo := 0) (hi := 40) (nx := 103) (by decide +kernel) (by first | omega | exact ⟨by omega, by omega⟩) (by first | decide | exact ⟨by decide, by decide⟩) (by first | omega | exact ⟨by omega, by omega⟩) ?_
                      intro h13 eh13 Ih13
                      have th13_37_1 : fld h13 37 1 = fld h 37 1 := by rw [eh13]; exact fld_wr (by omega)
                      have Ah13_65 : ∀ j : Nat, fld h13 65 j = fld h 65 j := fun j => by rw [eh13]; exact (fld_wr (by omega)).trans rfl
                      have Ah13_66 : ∀ j : Nat, fld h13 66 j = fld h 66 j := fun j => by rw [eh13]; exact (fld_wr (by omega)).trans rfl
                      have Ah13_70 : ∀ j : Nat, fld h13 70 j = fld h 70 j := fun j => by rw [eh13]; exact (fld_wr (by omega)).trans rfl
                      have Ah13_71 : ∀ j : Nat, fld h13 71 j = fld h 71 j := fun j => by rw [eh13]; exact (fld_wr (by omega)).trans rfl
                      have Rh13 : zMR ms4 h h13 := R.w (a1 := 39) (a2 := 46) (j1 := 0) (j2 := 4) (by decide +kernel) (by first | omega | exact ⟨by omega, by omega⟩) (by first | decide | exact ⟨by decide, by decide⟩) eh13
                      refine zwW_p [(1, 0, 2)] (q := 104) (ls' := [(2, 37), (0, a), (0, b), (0, c), (0, v12), (9, 0)]) (st' := [(2, 37)]) (by decide +kernel) rfl ?_
                      refine zwW_gc Ih13 (kd := 13) (bn := 3) (n := 97) (c := 38) (nx := 107) (by decide +kernel) ?_
                      refine zwW_p [(1, 4, 0)] (q := 109) (ls' := [(2, 37), (0, a), (0, b), (0, c), (0, v12), (9, 0)]) (st' := [(0, v12), (2, 38)]) (by decide +kernel) rfl ?_
                      refine zwW_ro Ih13 (a := 38) (n := 8) (kd := 26) (base := 39) (step := 1) (nx := 110) (by decide +kernel) rfl (by first | omega | exact ⟨by omega, by omega⟩) ?_
                      rw [show ((39 : Nat) : Int) + ((1 : Nat) : Int) * v12 = (39 + v12) by omega]
                      refine zwW_p [(0, 1, 0), (1, 1, 0), (0, 10000, 0)] (q := 115) (ls' := [(2, 37), (0, a), (0, b), (0, c), (0, v12), (9, 0)]) (st' := [(0, 10000), (0, a), (0, 1), (2, (39 + v12))]) (by decide +kernel) rfl ?_
                      refine zwW_div (nx := 116) (by decide +kernel) (by omega) (by omega) (by omega) ?_
                      refine zwW_p [(0, 100, 0)] (q := 118) (ls' := [(2, 37), (0, a), (0, b), (0, c), (0, v12), (9, 0)]) (st' := [(0, 100), (0, (a / 10000)), (0, 1), (2, (39 + v12))]) (by decide +kernel) rfl ?_
                      refine zwW_rem (nx := 119) (by decide +kernel) (by omega) (by omega) ?_
                      refine zwW_as Ih13 (a1 := 39) (a2 := 46) (n := 4) (lo := 0) (hi := 40) (nx := 120) (by decide +kernel) (by first | omega | exact ⟨by omega, by omega⟩) (by first | decide | exact ⟨by decide, by decide⟩) (by first | omega | exact ⟨by omega, by omega⟩) ?_
                      intro h14 eh14 Ih14
                      have th14_37_1 : fld h14 37 1 = fld h13 37 1 := by rw [eh14]; exact fld_wr (by omega)
                      have Ah14_65 : ∀ j : Nat, fld h14 65 j = fld h 65 j := fun j => by rw [eh14]; exact (fld_wr (by omega)).trans (Ah13_65 j)
                      have Ah14_66 : ∀ j : Nat, fld h14 66 j = fld h 66 j := fun j => by rw [eh14]; exact (fld_wr (by omega)).trans (Ah13_66 j)
                      have Ah14_70 : ∀ j : Nat, fld h14 70 j = fld h 70 j := fun j => by rw [eh14]; exact (fld_wr (by omega)).trans (Ah13_70 j)
                      have Ah14_71 : ∀ j : Nat, fld h14 71 j = fld h 71 j := fun j => by rw [eh14]; exact (fld_wr (by omega)).trans (Ah13_71 j)
                      have Rh14 : zMR ms4 h h14 := Rh13.w (a1 := 39) (a2 := 46) (j1 := 0) (j2 := 4) (by decide +kernel) (by first | omega | exact ⟨by omega, by omega⟩) (by first | decide | exact ⟨by decide, by decide⟩) eh14
                      refine zwW_p [(1, 0, 2)] (q := 121) (ls' := [(2, 37), (0, a), (0, b), (0, c), (0, v12), (9, 0)]) (st' := [(2, 37)]) (by decide +kernel) rfl ?_
                      refine zwW_gc Ih14 (kd := 13) (bn := 3) (n := 97) (c := 38) (nx := 124) (by decide +kernel) ?_
                      refine zwW_p [(1, 4, 0)] (q := 126) (ls' := [(2, 37), (0, a), (0, b), (0, c), (0, v12), (9, 0)]) (st' := [(0, v12), (2, 38)]) (by decide +kernel) rfl ?_
                      refine zwW_ro Ih14 (a := 38) (n := 8) (kd := 26) (base := 39) (step := 1) (nx := 127) (by decide +kernel) rfl (by first | omega | exact ⟨by omega, by omega⟩) ?_
                      rw [show ((39 : Nat) : Int) + ((1 : Nat) : Int) * v12 = (39 + v12) by omega]
                      refine zwW_p [(0, 2, 0), (1, 1, 0), (0, 100, 0)] (q := 131) (ls' := [(2, 37), (0, a), (0, b), (0, c), (0, v12), (9, 0)]) (st' := [(0, 100), (0, a), (0, 2), (2, (39 + v12))]) (by decide +kernel) rfl ?_
                      refine zwW_div (nx := 132) (by decide +kernel) (by omega) (by omega) (by omega) ?_
                      refine zwW_p [(0, 100, 0)] (q := 134) (ls' := [(2, 37), (0, a), (0, b), (0, c), (0, v12), (9, 0)]) (st' := [(0, 100), (0, (a / 100)), (0, 2), (2, (39 + v12))]) (by decide +kernel) rfl ?_
                      refine zwW_rem (nx := 135) (by decide +kernel) (by omega) (by omega) ?_
                      refine zwW_as Ih14 (a1 := 39) (a2 := 46) (n := 4) (lo := 0) (hi := 40) (nx := 136) (by decide +kernel) (by first | omega | exact ⟨by omega, by omega⟩) (by first | decide | exact ⟨by decide, by decide⟩) (by first | omega | exact ⟨by omega, by omega⟩) ?_
                      intro h15 eh15 Ih15
                      have th15_37_1 : fld h15 37 1 = fld h14 37 1 := by rw [eh15]; exact fld_wr (by omega)
                      have Ah15_65 : ∀ j : Nat, fld h15 65 j = fld h 65 j := fun j => by rw [eh15]; exact (fld_wr (by omega)).trans (Ah14_65 j)
                      have Ah15_66 : ∀ j : Nat, fld h15 66 j = fld h 66 j := fun j => by rw [eh15]; exact (fld_wr (by omega)).trans (Ah14_66 j)
                      have Ah15_70 : ∀ j : Nat, fld h15 70 j = fld h 70 j := fun j => by rw [eh15]; exact (fld_wr (by omega)).trans (Ah14_70 j)
                      have Ah15_71 : ∀ j : Nat, fld h15 71 j = fld h 71 j := fun j => by rw [eh15]; exact (fld_wr (by omega)).trans (Ah14_71 j)
                      have Rh15 : zMR ms4 h h15 := Rh14.w (a1 := 39) (a2 := 46) (j1 := 0) (j2 := 4) (by decide +kernel) (by first | omega | exact ⟨by omega, by omega⟩) (by first | decide | exact ⟨by decide, by decide⟩) eh15
                      refine zwW_p [(1, 0, 2)] (q := 137) (ls' := [(2, 37), (0, a), (0, b), (0, c), (0, v12), (9, 0)]) (st' := [(2, 37)]) (by decide +kernel) rfl ?_
                      refine zwW_gc Ih15 (kd := 13) (bn := 3) (n := 97) (c := 38) (nx := 140) (by decide +kernel) ?_
                      refine zwW_p [(1, 4, 0)] (q := 142) (ls' := [(2, 37), (0, a), (0, b), (0, c), (0, v12), (9, 0)]) (st' := [(0, v12), (2, 38)]) (by decide +kernel) rfl ?_
                      refine zwW_ro Ih15 (a := 38) (n := 8) (kd := 26) (base := 39) (step := 1) (nx := 143) (by decide +kernel) rfl (by first | omega | exact ⟨by omega, by omega⟩) ?_
                      rw [show ((39 : Nat) : Int) + ((1 : Nat) : Int) * v12 = (39 + v12) by omega]
                      refine zwW_p [(0, 3, 0), (1, 1, 0), (0, 100, 0)] (q := 147) (ls' := [(2, 37), (0, a), (0, b), (0, c), (0, v12), (9, 0)]) (st' := [(0, 100), (0, a), (0, 3), (2, (39 + v12))]) (by decide +kernel) rfl ?_
                      refine zwW_rem (nx := 148) (by decide +kernel) (by omega) (by omega) ?_
                      refine zwW_as Ih15 (a1 := 39) (a2 := 46) (n := 4) (lo := 0) (hi := 40) (nx := 149) (by decide +kernel) (by first | omega | exact ⟨by omega, by omega⟩) (by first | decide | exact ⟨by decide, by decide⟩) (by first | omega | exact ⟨by omega, by omega⟩) ?_
                      intro h16 eh16 Ih16
                      have th16_37_1 : fld h16 37 1 = fld h15 37 1 := by rw [eh16]; exact fld_wr (by omega)
                      have Ah16_65 : ∀ j : Nat, fld h16 65 j = fld h 65 j := fun j => by rw [eh16]; exact (fld_wr (by omega)).trans (Ah15_65 j)
                      have Ah16_66 : ∀ j : Nat, fld h16 66 j = fld h 66 j := fun j => by rw [eh16]; exact (fld_wr (by omega)).trans (Ah15_66 j)
                      have Ah16_70 : ∀ j : Nat, fld h16 70 j = fld h 70 j := fun j => by rw [eh16]; exact (fld_wr (by omega)).trans (Ah15_70 j)
                      have Ah16_71 : ∀ j : Nat, fld h16 71 j = fld h 71 j := fun j => by rw [eh16]; exact (fld_wr (by omega)).trans (Ah15_71 j)
                      have Rh16 : zMR ms4 h h16 := Rh15.w (a1 := 39) (a2 := 46) (j1 := 0) (j2 := 4) (by decide +kernel) (by first | omega | exact ⟨by omega, by omega⟩) (by first | decide | exact ⟨by decide, by decide⟩) eh16
                      refine zwW_p [(1, 0, 2)] (q := 150) (ls' := [(2, 37), (0, a), (0, b), (0, c), (0, v12), (9, 0)]) (st' := [(2, 37)]) (by decide +kernel) rfl ?_
                      refine zwW_gc Ih16 (kd := 13) (bn := 6) (n := 97) (c := 65) (nx := 153) (by decide +kernel) ?_
                      refine zwW_p [(1, 4, 0), (1, 2, 0)] (q := 156) (ls' := [(2, 37), (0, a), (0, b), (0, c), (0, v12), (9, 0)]) (st' := [(0, b), (0, v12), (2, 65)]) (by decide +kernel) rfl ?_
                      refine zwW_as Ih16 (a1 := 65) (a2 := 65) (n := 8) (lo := 0) (hi := 9) (nx := 157) (by decide +kernel) (by first | decide | exact ⟨by decide, by decide⟩) (by first | omega | exact ⟨by omega, by omega⟩) (by first | omega | exact ⟨by omega, by omega⟩) ?_
                      intro h17 eh17 Ih17
                      have th17_37_1 : fld h17 37 1 = fld h16 37 1 := by rw [eh17]; exact fld_wr (by omega)
                      have Ah17_65 : ∀ j : Nat, fld h17 65 j = if j = v12.toNat then b else fld h 65 j := by
                        intro j
                        by_cases hq : j = v12.toNat
                        · rw [if_pos hq, hq, eh17]; exact fld_wr_eq (Ih16.s (a1 := 65) (a2 := 65) (k := 20) (n := 8) (by decide +kernel) (by decide) (by decide)) (by omega)
                        · rw [if_neg hq, eh17]; exact (fld_wr (Or.inr hq)).trans (Ah16_65 j)
                      have Ah17_66 : ∀ j : Nat, fld h17 66 j = fld h 66 j := fun j => by rw [eh17]; exact (fld_wr (by omega)).trans (Ah16_66 j)
                      have Ah17_70 : ∀ j : Nat, fld h17 70 j = fld h 70 j := fun j => by rw [eh17]; exact (fld_wr (by omega)).trans (Ah16_70 j)
                      have Ah17_71 : ∀ j : Nat, fld h17 71 j = fld h 71 j := fun j => by rw [eh17]; exact (fld_wr (by omega)).trans (Ah16_71 j)
                      have Rh17 : zMR ms4 h h17 := Rh16.w (a1 := 65) (a2 := 65) (j1 := 0) (j2 := 8) (by decide +kernel) (by first | decide | exact ⟨by decide, by decide⟩) (by first | omega | exact ⟨by omega, by omega⟩) eh17
                      refine zwW_p [(1, 0, 2)] (q := 158) (ls' := [(2, 37), (0, a), (0, b), (0, c), (0, v12), (9, 0)]) (st' := [(2, 37)]) (by decide +kernel) rfl ?_
                      refine zwW_gc Ih17 (kd := 13) (bn := 7) (n := 97) (c := 66) (nx := 161) (by decide +kernel) ?_
                      refine zwW_p [(1, 4, 0), (1, 3, 0)] (q := 164) (ls' := [(2, 37), (0, a), (0, b), (0, c), (0, v12), (9, 0)]) (st' := [(0, c), (0, v12), (2, 66)]) (by decide +kernel) rfl ?_
                      refine zwW_as Ih17 (a1 := 66) (a2 := 66) (n := 8) (lo := -2147483648) (hi := 2147483647) (nx := 165) (by decide +kernel) (by first | decide | exact ⟨by decide, by decide⟩) (by first | omega | exact ⟨by omega, by omega⟩) (by first | omega | exact ⟨by omega, by omega⟩) ?_
                      intro h18 eh18 Ih18
                      have th18_37_1 : fld h18 37 1 = fld h17 37 1 := by rw [eh18]; exact fld_wr (by omega)
                      have Ah18_65 : ∀ j : Nat, fld h18 65 j = if j = v12.toNat then b else fld h 65 j := fun j => by rw [eh18]; exact (fld_wr (by omega)).trans (Ah17_65 j)
                      have Ah18_66 : ∀ j : Nat, fld h18 66 j = if j = v12.toNat then c else fld h 66 j := by
                        intro j
                        by_cases hq : j = v12.toNat
                        · rw [if_pos hq, hq, eh18]; exact fld_wr_eq (Ih17.s (a1 := 66) (a2 := 66) (k := 20) (n := 8) (by decide +kernel) (by decide) (by decide)) (by omega)
                        · rw [if_neg hq, eh18]; exact (fld_wr (Or.inr hq)).trans (Ah17_66 j)
                      have Ah18_70 : ∀ j : Nat, fld h18 70 j = fld h 70 j := fun j => by rw [eh18]; exact (fld_wr (by omega)).trans (Ah17_70 j)
                      have Ah18_71 : ∀ j : Nat, fld h18 71 j = fld h 71 j := fun j => by rw [eh18]; exact (fld_wr (by omega)).trans (Ah17_71 j)
                      have Rh18 : zMR ms4 h h18 := Rh17.w (a1 := 66) (a2 := 66) (j1 := 0) (j2 := 8) (by decide +kernel) (by first | decide | exact ⟨by decide, by decide⟩) (by first | omega | exact ⟨by omega, by omega⟩) eh18
                      refine zwW_p [(1, 0, 2)] (q := 166) (ls' := [(2, 37), (0, a), (0, b), (0, c), (0, v12), (9, 0)]) (st' := [(2, 37)]) (by decide +kernel) rfl ?_
                      refine zwW_gc Ih18 (kd := 13) (bn := 11) (n := 97) (c := 70) (nx := 169) (by decide +kernel) ?_
                      refine zwW_p [(1, 4, 0), (0, 20, 0)] (q := 173) (ls' := [(2, 37), (0, a), (0, b), (0, c), (0, v12), (9, 0)]) (st' := [(0, 20), (0, v12), (2, 70)]) (by decide +kernel) rfl ?_
                      refine zwW_as Ih18 (a1 := 70) (a2 := 70) (n := 8) (lo := -2147483648) (hi := 2147483647) (nx := 174) (by decide +kernel) (by first | decide | exact ⟨by decide, by decide⟩) (by first | omega | exact ⟨by omega, by omega⟩) (by first | decide | exact ⟨by decide, by decide⟩) ?_
                      intro h19 eh19 Ih19
                      have th19_37_1 : fld h19 37 1 = fld h18 37 1 := by rw [eh19]; exact fld_wr (by omega)
                      have Ah19_65 : ∀ j : Nat, fld h19 65 j = if j = v12.toNat then b else fld h 65 j := fun j => by rw [eh19]; exact (fld_wr (by omega)).trans (Ah18_65 j)
                      have Ah19_66 : ∀ j : Nat, fld h19 66 j = if j = v12.toNat then c else fld h 66 j := fun j => by rw [eh19]; exact (fld_wr (by omega)).trans (Ah18_66 j)
                      have Ah19_70 : ∀ j : Nat, fld h19 70 j = if j = v12.toNat then 20 else fld h 70 j := by
                        intro j
                        by_cases hq : j = v12.toNat
                        · rw [if_pos hq, hq, eh19]; exact fld_wr_eq (Ih18.s (a1 := 70) (a2 := 70) (k := 20) (n := 8) (by decide +kernel) (by decide) (by decide)) (by omega)
                        · rw [if_neg hq, eh19]; exact (fld_wr (Or.inr hq)).trans (Ah18_70 j)
                      have Ah19_71 : ∀ j : Nat, fld h19 71 j = fld h 71 j := fun j => by rw [eh19]; exact (fld_wr (by omega)).trans (Ah18_71 j)
                      have Rh19 : zMR ms4 h h19 := Rh18.w (a1 := 70) (a2 := 70) (j1 := 0) (j2 := 8) (by decide +kernel) (by first | decide | exact ⟨by decide, by decide⟩) (by first | omega | exact ⟨by omega, by omega⟩) eh19
                      refine zwW_p [(1, 0, 2)] (q := 175) (ls' := [(2, 37), (0, a), (0, b), (0, c), (0, v12), (9, 0)]) (st' := [(2, 37)]) (by decide +kernel) rfl ?_
                      refine zwW_gc Ih19 (kd := 13) (bn := 12) (n := 97) (c := 71) (nx := 178) (by decide +kernel) ?_
                      refine zwW_p [(1, 4, 0), (0, 10, 0)] (q := 182) (ls' := [(2, 37), (0, a), (0, b), (0, c), (0, v12), (9, 0)]) (st' := [(0, 10), (0, v12), (2, 71)]) (by decide +kernel) rfl ?_
                      refine zwW_as Ih19 (a1 := 71) (a2 := 71) (n := 8) (lo := -2147483648) (hi := 2147483647) (nx := 183) (by decide +kernel) (by first | decide | exact ⟨by decide, by decide⟩) (by first | omega | exact ⟨by omega, by omega⟩) (by first | decide | exact ⟨by decide, by decide⟩) ?_
                      intro h20 eh20 Ih20
                      have th20_37_1 : fld h20 37 1 = fld h19 37 1 := by rw [eh20]; exact fld_wr (by omega)
                      have Ah20_65 : ∀ j : Nat, fld h20 65 j = if j = v12.toNat then b else fld h 65 j := fun j => by rw [eh20]; exact (fld_wr (by omega)).trans (Ah19_65 j)
                      have Ah20_66 : ∀ j : Nat, fld h20 66 j = if j = v12.toNat then c else fld h 66 j := fun j => by rw [eh20]; exact (fld_wr (by omega)).trans (Ah19_66 j)
                      have Ah20_70 : ∀ j : Nat, fld h20 70 j = if j = v12.toNat then 20 else fld h 70 j := fun j => by rw [eh20]; exact (fld_wr (by omega)).trans (Ah19_70 j)
                      have Ah20_71 : ∀ j : Nat, fld h20 71 j = if j = v12.toNat then 10 else fld h 71 j := by
                        intro j
                        by_cases hq : j = v12.toNat
                        · rw [if_pos hq, hq, eh20]; exact fld_wr_eq (Ih19.s (a1 := 71) (a2 := 71) (k := 20) (n := 8) (by decide +kernel) (by decide) (by decide)) (by omega)
                        · rw [if_neg hq, eh20]; exact (fld_wr (Or.inr hq)).trans (Ah19_71 j)
                      have Rh20 : zMR ms4 h h20 := Rh19.w (a1 := 71) (a2 := 71) (j1 := 0) (j2 := 8) (by decide +kernel) (by first | decide | exact ⟨by decide, by decide⟩) (by first | omega | exact ⟨by omega, by omega⟩) eh20
                      refine zwW_p [(0, 0, 0), (2, 5, 0)] (q := 186) (ls' := [(2, 37), (0, a), (0, b), (0, c), (0, v12), (0, 0)]) (st' := []) (by decide +kernel) rfl ?_
                      have L21 : ∀ (n : Nat) (wL21 : Int) (hL21 : Hp), n = ((200 - wL21)).toNat → (0 ≤ wL21) → (fld hL21 37 1 = fld h 37 1) → (fld hL21 65 = fld h20 65) → (fld hL21 66 = fld h20 66) → (fld hL21 70 = fld h20 70) → (fld hL21 71 = fld h20 71) → zI hL21 → zMR ms4 h hL21 → zwW sc (1) 4 186 [(2, 37), (0, a), (0, b), (0, c), (0, v12), (0, wL21)] [] hL21 (zwRt 0 (fun x g => zI g ∧ zMR ms4 h g ∧ (-2147483648 ≤ x ∧ x ≤ 2147483647) ∧ (((x = fld h 37 1) ∧ (x < 8) ∧ (fld g 37 1 = fld h 37 1 + 1) ∧ (0 ≤ a ∧ a / 1000000 ≤ 40 ∧ a / 10000 % 100 ≤ 40 ∧ a / 100 % 100 ≤ 40 ∧ a % 100 ≤ 40 ∧ 1 ≤ b ∧ b ≤ 9 ∧ 0 ≤ c ∧ c ≤ 9999) ∧ (∀ j : Nat, fld g 65 j = if j = (fld h 37 1).toNat then b else fld h 65 j) ∧ (∀ j : Nat, fld g 66 j = if j = (fld h 37 1).toNat then c else fld h 66 j) ∧ (∀ j : Nat, fld g 70 j = if j = (fld h 37 1).toNat then 20 else fld h 70 j) ∧ (∀ j : Nat, fld g 71 j = if j = (fld h 37 1).toNat then 10 else fld h 71 j)) ∨ ((x = -1) ∧ (g = h) ∧ (8 ≤ fld h 37 1 ∨ a < 0 ∨ 40 < a / 1000000 ∨ 40 < a / 10000 % 100 ∨ 40 < a / 100 % 100 ∨ 40 < a % 100 ∨ b < 1 ∨ 9 < b ∨ c < 0 ∨ 9999 < c))))) := by
                        intro n
                        induction n using Nat.strongRecOn with
                        | ind n IHL21 =>
                          intro wL21 hL21 hnL21 iL21_0 iL21_1 iL21_2 iL21_3 iL21_4 iL21_5 IhL21 RhL21
                          refine zwW_p [(1, 5, 0), (1, 0, 2)] (q := 189) (ls' := [(2, 37), (0, a), (0, b), (0, c), (0, v12), (0, wL21)]) (st' := [(2, 37), (0, wL21)]) (by decide +kernel) rfl ?_
                          refine zwW_gs IhL21 (kd := 13) (bn := 0) (n := 97) (t := 0) (lo := 0) (hi := 156) (nx := 192) (by decide +kernel) ?_
                          intro v22 ev22 lv22 uv22
                          refine zwic_gt (q := 213) (nx := 195) (by decide +kernel) (fun c23 => ?_) (fun c23 => ?_)
                          · refine zwW_p [(1, 0, 2), (12, 0, 0)] (q := 215) (ls' := [(2, 37), (0, a), (0, b), (0, c), (0, v12), (0, wL21)]) (st' := [(2, 37), (2, 37)]) (by decide +kernel) rfl ?_
                            refine zwW_gs IhL21 (kd := 13) (bn := 1) (n := 97) (t := 0) (lo := 0) (hi := 8) (nx := 218) (by decide +kernel) ?_
                            intro v24 ev24 lv24 uv24
                            refine zwW_p [(0, 1, 0)] (q := 219) (ls' := [(2, 37), (0, a), (0, b), (0, c), (0, v12), (0, wL21)]) (st' := [(0, 1), (0, v24), (2, 37)]) (by decide +kernel) rfl ?_
                            refine zwW_add (nx := 220) (by decide +kernel) (by first | omega | exact ⟨by omega, by omega⟩) ?_
                            refine zwW_ps IhL21 (kd := 13) (bn := 1) (n := 97) (lo := 0) (hi := 8) (nx := 223) (by decide +kernel) (by first | omega | exact ⟨by omega, by omega⟩) ?_
                            intro h25 eh25 Ih25
                            have th25_37_1 : fld h25 37 1 = (v24 + 1) := by rw [eh25]; exact fld_wr_eq (IhL21.s (a1 := 37) (a2 := 37) (k := 13) (n := 97) (by decide +kernel) (by decide) (by decide)) (by decide)
                            have Kh25_65 : fld h25 65 = fld h20 65 := (funext fun j => fld_oth eh25 (Or.inl (by omega))).trans iL21_2
                            have Kh25_66 : fld h25 66 = fld h20 66 := (funext fun j => fld_oth eh25 (Or.inl (by omega))).trans iL21_3
                            have Kh25_70 : fld h25 70 = fld h20 70 := (funext fun j => fld_oth eh25 (Or.inl (by omega))).trans iL21_4
                            have Kh25_71 : fld h25 71 = fld h20 71 := (funext fun j => fld_oth eh25 (Or.inl (by omega))).trans iL21_5
                            have Rh25 : zMR ms4 h h25 := RhL21.w (a1 := 37) (a2 := 37) (j1 := 1) (j2 := 2) (by decide +kernel) (by first | decide | exact ⟨by decide, by decide⟩) (by first | decide | exact ⟨by decide, by decide⟩) eh25
                            refine zwW_p [(1, 4, 0)] (q := 225) (ls' := [(2, 37), (0, a), (0, b), (0, c), (0, v12), (0, wL21)]) (st' := [(0, v12)]) (by decide +kernel) rfl ?_
                            refine zwW_ret (nx := 226) (a := 0) (b := 0) (by decide +kernel) rfl (Or.inl rfl) ?_
                            exact ⟨Ih25, Rh25, by omega, by exact Or.inl ⟨by omega, by omega, by omega, by omega, by intro j; rw [congrFun Kh25_65 j, Ah20_65 j]; split <;> first | omega | (split <;> omega), by intro j; rw [congrFun Kh25_66 j, Ah20_66 j]; split <;> first | omega | (split <;> omega), by intro j; rw [congrFun Kh25_70 j, Ah20_70 j]; split <;> first | omega | (split <;> omega), by intro j; rw [congrFun Kh25_71 j, Ah20_71 j]; split <;> first | omega | (split <;> omega)⟩⟩
                          · refine zwW_p [(1, 0, 2)] (q := 196) (ls' := [(2, 37), (0, a), (0, b), (0, c), (0, v12), (0, wL21)]) (st' := [(2, 37)]) (by decide +kernel) rfl ?_
                            refine zwW_gc IhL21 (kd := 13) (bn := 5) (n := 97) (c := 56) (nx := 199) (by decide +kernel) ?_
                            refine zwW_p [(1, 4, 0)] (q := 201) (ls' := [(2, 37), (0, a), (0, b), (0, c), (0, v12), (0, wL21)]) (st' := [(0, v12), (2, 56)]) (by decide +kernel) rfl ?_
                            refine zwW_ro IhL21 (a := 56) (n := 8) (kd := 26) (base := 57) (step := 1) (nx := 202) (by decide +kernel) rfl (by first | omega | exact ⟨by omega, by omega⟩) ?_
                            rw [show ((57 : Nat) : Int) + ((1 : Nat) : Int) * v12 = (57 + v12) by omega]
                            refine zwW_p [(1, 5, 0), (0, 10, 0)] (q := 206) (ls' := [(2, 37), (0, a), (0, b), (0, c), (0, v12), (0, wL21)]) (st' := [(0, 10), (0, wL21), (2, (57 + v12))]) (by decide +kernel) rfl ?_
                            refine zwW_as IhL21 (a1 := 57) (a2 := 64) (n := 157) (lo := -2147483648) (hi := 2147483647) (nx := 207) (by decide +kernel) (by first | omega | exact ⟨by omega, by omega⟩) (by first | omega | exact ⟨by omega, by omega⟩) (by first | decide | exact ⟨by decide, by decide⟩) ?_
                            intro h26 eh26 Ih26
                            have th26_37_1 : fld h26 37 1 = fld hL21 37 1 := by rw [eh26]; exact fld_wr (by omega)
                            have Kh26_65 : fld h26 65 = fld h20 65 := (funext fun j => fld_oth eh26 (Or.inl (by omega))).trans iL21_2
                            have Kh26_66 : fld h26 66 = fld h20 66 := (funext fun j => fld_oth eh26 (Or.inl (by omega))).trans iL21_3
                            have Kh26_70 : fld h26 70 = fld h20 70 := (funext fun j => fld_oth eh26 (Or.inl (by omega))).trans iL21_4
                            have Kh26_71 : fld h26 71 = fld h20 71 := (funext fun j => fld_oth eh26 (Or.inl (by omega))).trans iL21_5
                            have Rh26 : zMR ms4 h h26 := RhL21.w (a1 := 57) (a2 := 64) (j1 := 0) (j2 := 157) (by decide +kernel) (by first | omega | exact ⟨by omega, by omega⟩) (by first | omega | exact ⟨by omega, by omega⟩) eh26
                            refine zwW_inc (i := 5) (c := 1) (x := wL21) (nx := 210) (by decide +kernel) rfl (by first | omega | exact ⟨by omega, by omega⟩) (ls' := [(2, 37), (0, a), (0, b), (0, c), (0, v12), (0, (wL21 + 1))]) rfl ?_
                            refine zwW_p [(24, 186, 0)] (q := 186) (ls' := [(2, 37), (0, a), (0, b), (0, c), (0, v12), (0, (wL21 + 1))]) (st' := []) (by decide +kernel) rfl ?_
                            exact IHL21 ((200 - (wL21 + 1))).toNat (by omega) (wL21 + 1) h26 rfl (by omega) (by omega) (Kh26_65) (Kh26_66) (Kh26_70) (Kh26_71) Ih26 Rh26
                      exact L21 _ 0 h20 rfl (by omega) (by omega) ((rfl : fld h20 65 = _)) ((rfl : fld h20 66 = _)) ((rfl : fld h20 70 = _)) ((rfl : fld h20 71 = _)) Ih20 Rh20
                    · refine zwW_p [(0, -1, 0)] (q := 82) (ls' := [(2, 37), (0, a), (0, b), (0, c), (9, 0), (9, 0)]) (st' := [(0, -1)]) (by decide +kernel) rfl ?_
                      refine zwW_ret (nx := 83) (a := 0) (b := 0) (by decide +kernel) rfl (Or.inl rfl) ?_
                      exact ⟨I, R, by omega, by exact Or.inr ⟨by omega, by rfl, by omega⟩⟩
                · refine zwif_eq (q := 81) (nx := 72) (by decide +kernel) (fun c27 => ?_) (fun c27 => ?_)
                  · refine zwW_p [(0, -1, 0)] (q := 82) (ls' := [(2, 37), (0, a), (0, b), (0, c), (9, 0), (9, 0)]) (st' := [(0, -1)]) (by decide +kernel) rfl ?_
                    refine zwW_ret (nx := 83) (a := 0) (b := 0) (by decide +kernel) rfl (Or.inl rfl) ?_
                    exact ⟨I, R, by omega, by exact Or.inr ⟨by omega, by rfl, by omega⟩⟩
                  · exfalso; omega
            · refine zwif_eq (q := 81) (nx := 60) (by decide +kernel) (fun c28 => ?_) (fun c28 => ?_)
              · refine zwW_p [(0, -1, 0)] (q := 82) (ls' := [(2, 37), (0, a), (0, b), (0, c), (9, 0), (9, 0)]) (st' := [(0, -1)]) (by decide +kernel) rfl ?_
                refine zwW_ret (nx := 83) (a := 0) (b := 0) (by decide +kernel) rfl (Or.inl rfl) ?_
                exact ⟨I, R, by omega, by exact Or.inr ⟨by omega, by rfl, by omega⟩⟩
              · exfalso; omega
def ms6 : Zms := [(48, 55, 0, 8)]
-- WheelLandModel.road(III)Z
theorem m6 {sc : List Int} (h : Hp) (I : zI h) (a b c : Int) : zwC sc 3 6 [(2, 37), (0, a), (0, b), (0, c)] h (zwRt 0 (fun x g => zI g ∧ zMR ms6 h g ∧ (-2147483648 ≤ x ∧ x ≤ 2147483647) ∧ (((x = 1) ∧ (0 ≤ a ∧ a < fld h 37 1 ∧ 0 ≤ b ∧ b < fld h 37 1 ∧ a ≠ b ∧ 1 ≤ c ∧ c ≤ 9) ∧ (∀ p q : Nat, p < 8 → q < 8 → fld g (48 + (p : Int)) q = if (p = a.toNat ∧ q = b.toNat) ∨ (p = b.toNat ∧ q = a.toNat) then c else fld h (48 + (p : Int)) q)) ∨ ((x = 0) ∧ (g = h) ∧ (a < 0 ∨ fld h 37 1 ≤ a ∨ b < 0 ∨ fld h 37 1 ≤ b ∨ a = b ∨ c < 1 ∨ 9 < c))))) := by
  refine zwC_of (D := 2) 4 (by decide +kernel) rfl (ls := [(2, 37), (0, a), (0, b), (0, c)]) rfl ?_
  have R : zMR ms6 h h := zMR.rf _ _
  have N0 := I.b (a1 := 37) (a2 := 37) (j1 := 1) (j2 := 2) (lo := 0) (hi := 8) (by decide +kernel) (r := 37) (j := 1) (by decide) (by decide) (by decide) (by decide)
  refine zwW_p [(1, 0, 2), (1, 1, 0)] (q := 2) (ls' := [(2, 37), (0, a), (0, b), (0, c)]) (st' := [(0, a), (2, 37)]) (by decide +kernel) rfl ?_
  refine zwW_cm I (op := 60) (k' := 104) (n := 1) (kd := 13) (m := 97) (nx := 5) (r := 37) (tl := [(0, a)]) (st' := []) (by decide +kernel) rfl (by decide +kernel) rfl (m104 h I a) ?_
  rintro x _ ⟨rfl, ⟨rfl, c1⟩ | ⟨rfl, c1⟩⟩
  · refine zwif_eq (q := 33) (nx := 8) (by decide +kernel) (fun c2 => ?_) (fun c2 => ?_)
    · exfalso; omega
    · refine zwW_p [(1, 0, 2), (1, 2, 0)] (q := 10) (ls' := [(2, 37), (0, a), (0, b), (0, c)]) (st' := [(0, b), (2, 37)]) (by decide +kernel) rfl ?_
      refine zwW_cm I (op := 60) (k' := 104) (n := 1) (kd := 13) (m := 97) (nx := 13) (r := 37) (tl := [(0, b)]) (st' := []) (by decide +kernel) rfl (by decide +kernel) rfl (m104 h I b) ?_
      rintro x _ ⟨rfl, ⟨rfl, c3⟩ | ⟨rfl, c3⟩⟩
      · refine zwif_eq (q := 33) (nx := 16) (by decide +kernel) (fun c4 => ?_) (fun c4 => ?_)
        · exfalso; omega
        · refine zwW_p [(1, 1, 0), (1, 2, 0)] (q := 18) (ls' := [(2, 37), (0, a), (0, b), (0, c)]) (st' := [(0, b), (0, a)]) (by decide +kernel) rfl ?_
          refine zwic_eq (q := 33) (nx := 21) (by decide +kernel) (fun c5 => ?_) (fun c5 => ?_)
          · refine zwW_p [(0, 0, 0)] (q := 34) (ls' := [(2, 37), (0, a), (0, b), (0, c)]) (st' := [(0, 0)]) (by decide +kernel) rfl ?_
            refine zwW_ret (nx := 35) (a := 1) (b := 0) (by decide +kernel) rfl (Or.inr (Or.inl ⟨rfl, Or.inl rfl⟩)) ?_
            exact ⟨I, R, by omega, by exact Or.inr ⟨by omega, by rfl, by omega⟩⟩
          · refine zwW_p [(1, 3, 0), (7, 0, 0), (0, 1, 1), (0, 9, 1)] (q := 27) (ls' := [(2, 37), (0, a), (0, b), (0, c)]) (st' := [(1, 9), (1, 1), (1, c)]) (by decide +kernel) rfl ?_
            refine zwW_cs (k' := 101) (n := 3) (nx := 30) (as := [(1, c), (1, 1), (1, 9)]) (st' := []) (by decide +kernel) rfl (m101 h c 1 9) rfl ?_
            rintro x _ ⟨rfl, ⟨rfl, c6⟩ | ⟨rfl, c6⟩⟩
            · refine zwif_ne (q := 35) (nx := 33) (by decide +kernel) (fun c7 => ?_) (fun c7 => ?_)
              · refine zwW_p [(1, 0, 2)] (q := 36) (ls' := [(2, 37), (0, a), (0, b), (0, c)]) (st' := [(2, 37)]) (by decide +kernel) rfl ?_
                refine zwW_gc I (kd := 13) (bn := 4) (n := 97) (c := 47) (nx := 39) (by decide +kernel) ?_
                refine zwW_p [(1, 1, 0)] (q := 40) (ls' := [(2, 37), (0, a), (0, b), (0, c)]) (st' := [(0, a), (2, 47)]) (by decide +kernel) rfl ?_
                refine zwW_ro I (a := 47) (n := 8) (kd := 26) (base := 48) (step := 1) (nx := 41) (by decide +kernel) rfl (by first | omega | exact ⟨by omega, by omega⟩) ?_
                rw [show ((48 : Nat) : Int) + ((1 : Nat) : Int) * a = (48 + a) by omega]
                refine zwW_p [(1, 2, 0), (1, 3, 0)] (q := 43) (ls' := [(2, 37), (0, a), (0, b), (0, c)]) (st' := [(0, c), (0, b), (2, (48 + a))]) (by decide +kernel) rfl ?_
                refine zwW_as I (a1 := 48) (a2 := 55) (n := 8) (lo := 0) (hi := 9) (nx := 44) (by decide +kernel) (by first | omega | exact ⟨by omega, by omega⟩) (by first | omega | exact ⟨by omega, by omega⟩) (by first | omega | exact ⟨by omega, by omega⟩) ?_
                intro h8 eh8 Ih8
                have E43 := eh8
                have S43 := I.s (a1 := 48) (a2 := 55) (k := 20) (n := 8) (by decide +kernel) (r := 48 + a) (by omega) (by omega)
                have Rh8 : zMR ms6 h h8 := R.w (a1 := 48) (a2 := 55) (j1 := 0) (j2 := 8) (by decide +kernel) (by first | omega | exact ⟨by omega, by omega⟩) (by first | omega | exact ⟨by omega, by omega⟩) eh8
                refine zwW_p [(1, 0, 2)] (q := 45) (ls' := [(2, 37), (0, a), (0, b), (0, c)]) (st' := [(2, 37)]) (by decide +kernel) rfl ?_
                refine zwW_gc Ih8 (kd := 13) (bn := 4) (n := 97) (c := 47) (nx := 48) (by decide +kernel) ?_
                refine zwW_p [(1, 2, 0)] (q := 49) (ls' := [(2, 37), (0, a), (0, b), (0, c)]) (st' := [(0, b), (2, 47)]) (by decide +kernel) rfl ?_
                refine zwW_ro Ih8 (a := 47) (n := 8) (kd := 26) (base := 48) (step := 1) (nx := 50) (by decide +kernel) rfl (by first | omega | exact ⟨by omega, by omega⟩) ?_
                rw [show ((48 : Nat) : Int) + ((1 : Nat) : Int) * b = (48 + b) by omega]
                refine zwW_p [(1, 1, 0), (1, 3, 0)] (q := 52) (ls' := [(2, 37), (0, a), (0, b), (0, c)]) (st' := [(0, c), (0, a), (2, (48 + b))]) (by decide +kernel) rfl ?_
                refine zwW_as Ih8 (a1 := 48) (a2 := 55) (n := 8) (lo := 0) (hi := 9) (nx := 53) (by decide +kernel) (by first | omega | exact ⟨by omega, by omega⟩) (by first | omega | exact ⟨by omega, by omega⟩) (by first | omega | exact ⟨by omega, by omega⟩) ?_
                intro h9 eh9 Ih9
                have S52 := Ih8.s (a1 := 48) (a2 := 55) (k := 20) (n := 8) (by decide +kernel) (r := 48 + b) (by omega) (by omega)
                have F52 := zDw E43 eh9 S43 S52 (by first | omega | exact ⟨by omega, by omega⟩) (by first | omega | exact ⟨by omega, by omega⟩) (by omega)
                have Rh9 : zMR ms6 h h9 := Rh8.w (a1 := 48) (a2 := 55) (j1 := 0) (j2 := 8) (by decide +kernel) (by first | omega | exact ⟨by omega, by omega⟩) (by first | omega | exact ⟨by omega, by omega⟩) eh9
                refine zwW_p [(0, 1, 0)] (q := 54) (ls' := [(2, 37), (0, a), (0, b), (0, c)]) (st' := [(0, 1)]) (by decide +kernel) rfl ?_
                refine zwW_ret (nx := 55) (a := 1) (b := 0) (by decide +kernel) rfl (Or.inr (Or.inl ⟨rfl, Or.inr rfl⟩)) ?_
                exact ⟨Ih9, Rh9, by omega, by exact Or.inl ⟨by omega, by omega, by exact F52⟩⟩
              · exfalso; omega
            · refine zwif_ne (q := 35) (nx := 33) (by decide +kernel) (fun c10 => ?_) (fun c10 => ?_)
              · exfalso; omega
              · refine zwW_p [(0, 0, 0)] (q := 34) (ls' := [(2, 37), (0, a), (0, b), (0, c)]) (st' := [(0, 0)]) (by decide +kernel) rfl ?_
                refine zwW_ret (nx := 35) (a := 1) (b := 0) (by decide +kernel) rfl (Or.inr (Or.inl ⟨rfl, Or.inl rfl⟩)) ?_
                exact ⟨I, R, by omega, by exact Or.inr ⟨by omega, by rfl, by omega⟩⟩
      · refine zwif_eq (q := 33) (nx := 16) (by decide +kernel) (fun c11 => ?_) (fun c11 => ?_)
        · refine zwW_p [(0, 0, 0)] (q := 34) (ls' := [(2, 37), (0, a), (0, b), (0, c)]) (st' := [(0, 0)]) (by decide +kernel) rfl ?_
          refine zwW_ret (nx := 35) (a := 1) (b := 0) (by decide +kernel) rfl (Or.inr (Or.inl ⟨rfl, Or.inl rfl⟩)) ?_
          exact ⟨I, R, by omega, by exact Or.inr ⟨by omega, by rfl, by omega⟩⟩
        · exfalso; omega
  · refine zwif_eq (q := 33) (nx := 8) (by decide +kernel) (fun c12 => ?_) (fun c12 => ?_)
    · refine zwW_p [(0, 0, 0)] (q := 34) (ls' := [(2, 37), (0, a), (0, b), (0, c)]) (st' := [(0, 0)]) (by decide +kernel) rfl ?_
      refine zwW_ret (nx := 35) (a := 1) (b := 0) (by decide +kernel) rfl (Or.inr (Or.inl ⟨rfl, Or.inl rfl⟩)) ?_
      exact ⟨I, R, by omega, by exact Or.inr ⟨by omega, by rfl, by omega⟩⟩
    · exfalso; omega
def ms106 : Zms := [(97, 97, 0, 8)]
-- WheelLandModel.farOf(II)I
theorem m106 {sc : List Int} (h : Hp) (I : zI h) (a b : Int) (p1 : 0 ≤ b) (p2 : b ≤ 7) : zwC sc 1 106 [(2, 37), (0, a), (0, b)] h (zwRt 0 (fun x g => zI g ∧ zMR ms106 h g ∧ (-2147483648 ≤ x ∧ x ≤ 2147483647) ∧ (-1 ≤ x) ∧ (x ≤ 4608))) := by
  refine zwC_of (D := 0) 6 (by decide +kernel) rfl (ls := [(2, 37), (0, a), (0, b), (9, 0), (9, 0), (9, 0)]) rfl ?_
  have R : zMR ms106 h h := zMR.rf _ _
  refine zwW_p [(0, 0, 0), (2, 3, 0)] (q := 2) (ls' := [(2, 37), (0, a), (0, b), (0, 0), (9, 0), (9, 0)]) (st' := []) (by decide +kernel) rfl ?_
  have L1 : ∀ (n : Nat) (vL1 : Int) (hL1 : Hp), n = ((100 - vL1)).toNat → (0 ≤ vL1 ∧ vL1 ≤ 8) → (fld hL1 37 1 = fld h 37 1) → (∀ j : Nat, (j : Int) < vL1 → fld hL1 97 j ≤ 0) → zI hL1 → zMR ms106 h hL1 → zwW sc (0) 106 2 [(2, 37), (0, a), (0, b), (0, vL1), (9, 0), (9, 0)] [] hL1 (zwRt 0 (fun x g => zI g ∧ zMR ms106 h g ∧ (-2147483648 ≤ x ∧ x ≤ 2147483647) ∧ (-1 ≤ x) ∧ (x ≤ 4608))) := by
    intro n
    induction n using Nat.strongRecOn with
    | ind n IHL1 =>
      intro vL1 hL1 hnL1 iL1_0 iL1_1 iL1_2 IhL1 RhL1
      refine zwW_p [(1, 3, 0), (1, 0, 2)] (q := 4) (ls' := [(2, 37), (0, a), (0, b), (0, vL1), (9, 0), (9, 0)]) (st' := [(2, 37), (0, vL1)]) (by decide +kernel) rfl ?_
      refine zwW_gs IhL1 (kd := 13) (bn := 1) (n := 97) (t := 0) (lo := 0) (hi := 8) (nx := 7) (by decide +kernel) ?_
      intro v2 ev2 lv2 uv2
      refine zwic_ge (q := 32) (nx := 10) (by decide +kernel) (fun c3 => ?_) (fun c3 => ?_)
      · refine zwW_p [(0, 0, 0), (2, 3, 0)] (q := 34) (ls' := [(2, 37), (0, a), (0, b), (0, 0), (9, 0), (9, 0)]) (st' := []) (by decide +kernel) rfl ?_
        have L4 : ∀ (n : Nat) (kL4 : Int) (w4L4 w5L4 : Vl) (hL4 : Hp), n = ((100 - kL4)).toNat → (0 ≤ kL4 ∧ kL4 ≤ 8) → (fld hL4 37 1 = fld h 37 1) → (∀ j : Nat, (j : Int) < fld h 37 1 → fld hL4 97 j ≤ 9 * (64 * kL4)) → zI hL4 → zMR ms106 h hL4 → zwW sc (0) 106 34 [(2, 37), (0, a), (0, b), (0, kL4), w4L4, w5L4] [] hL4 (zwRt 0 (fun x g => zI g ∧ zMR ms106 h g ∧ (-2147483648 ≤ x ∧ x ≤ 2147483647) ∧ (-1 ≤ x) ∧ (x ≤ 4608))) := by
          intro n
          induction n using Nat.strongRecOn with
          | ind n IHL4 =>
            intro kL4 w4L4 w5L4 hL4 hnL4 iL4_0 iL4_1 iL4_2 IhL4 RhL4
            refine zwW_p [(1, 3, 0), (1, 0, 2)] (q := 36) (ls' := [(2, 37), (0, a), (0, b), (0, kL4), w4L4, w5L4]) (st' := [(2, 37), (0, kL4)]) (by decide +kernel) rfl ?_
            refine zwW_gs IhL4 (kd := 13) (bn := 1) (n := 97) (t := 0) (lo := 0) (hi := 8) (nx := 39) (by decide +kernel) ?_
            intro v5 ev5 lv5 uv5
            refine zwic_ge (q := 175) (nx := 42) (by decide +kernel) (fun c6 => ?_) (fun c6 => ?_)
            · refine zwW_p [(1, 0, 2)] (q := 176) (ls' := [(2, 37), (0, a), (0, b), (0, kL4), w4L4, w5L4]) (st' := [(2, 37)]) (by decide +kernel) rfl ?_
              refine zwW_gc IhL4 (kd := 13) (bn := 39) (n := 97) (c := 97) (nx := 179) (by decide +kernel) ?_
              refine zwW_p [(1, 2, 0)] (q := 180) (ls' := [(2, 37), (0, a), (0, b), (0, kL4), w4L4, w5L4]) (st' := [(0, b), (2, 97)]) (by decide +kernel) rfl ?_
              refine zwW_al IhL4 (a1 := 97) (a2 := 97) (kd := 20) (n := 8) (t := 0) (lo := -1) (hi := 4608) (nx := 181) (by decide +kernel) (by first | decide | exact ⟨by decide, by decide⟩) (by first | omega | exact ⟨by omega, by omega⟩) ?_
              intro v7 ev7 lv7 uv7
              refine zwW_ret (nx := 182) (a := 0) (b := 0) (by decide +kernel) rfl (Or.inl rfl) ?_
              exact ⟨IhL4, RhL4, by omega, by omega, by omega⟩
            · refine zwW_p [(0, 0, 0), (2, 4, 0)] (q := 45) (ls' := [(2, 37), (0, a), (0, b), (0, kL4), (0, 0), w5L4]) (st' := []) (by decide +kernel) rfl ?_
              have L8 : ∀ (n : Nat) (xL8 : Int) (w5L8 : Vl) (hL8 : Hp), n = ((100 - xL8)).toNat → (0 ≤ xL8 ∧ xL8 ≤ 8) → (fld hL8 37 1 = fld h 37 1) → (∀ j : Nat, (j : Int) < fld h 37 1 → fld hL8 97 j ≤ 9 * (64 * kL4 + 8 * xL8)) → zI hL8 → zMR ms106 h hL8 → zwW sc (0) 106 45 [(2, 37), (0, a), (0, b), (0, kL4), (0, xL8), w5L8] [] hL8 (zwRt 0 (fun x g => zI g ∧ zMR ms106 h g ∧ (-2147483648 ≤ x ∧ x ≤ 2147483647) ∧ (-1 ≤ x) ∧ (x ≤ 4608))) := by
                intro n
                induction n using Nat.strongRecOn with
                | ind n IHL8 =>
                  intro xL8 w5L8 hL8 hnL8 iL8_0 iL8_1 iL8_2 IhL8 RhL8
                  refine zwW_p [(1, 4, 0), (1, 0, 2)] (q := 48) (ls' := [(2, 37), (0, a), (0, b), (0, kL4), (0, xL8), w5L8]) (st' := [(2, 37), (0, xL8)]) (by decide +kernel) rfl ?_
                  refine zwW_gs IhL8 (kd := 13) (bn := 1) (n := 97) (t := 0) (lo := 0) (hi := 8) (nx := 51) (by decide +kernel) ?_
                  intro v9 ev9 lv9 uv9
                  refine zwic_ge (q := 169) (nx := 54) (by decide +kernel) (fun c10 => ?_) (fun c10 => ?_)
                  · refine zwW_inc (i := 3) (c := 1) (x := kL4) (nx := 172) (by decide +kernel) rfl (by first | omega | exact ⟨by omega, by omega⟩) (ls' := [(2, 37), (0, a), (0, b), (0, (kL4 + 1)), (0, xL8), w5L8]) rfl ?_
                    refine zwW_p [(24, 34, 0)] (q := 34) (ls' := [(2, 37), (0, a), (0, b), (0, (kL4 + 1)), (0, xL8), w5L8]) (st' := []) (by decide +kernel) rfl ?_
                    exact IHL4 ((100 - (kL4 + 1))).toNat (by omega) (kL4 + 1) (0, xL8) w5L8 hL8 rfl (by omega) (by omega) (fun j hj => by have := iL8_2 j hj; omega) IhL8 RhL8
                  · refine zwW_p [(0, 0, 0), (2, 5, 0)] (q := 57) (ls' := [(2, 37), (0, a), (0, b), (0, kL4), (0, xL8), (0, 0)]) (st' := []) (by decide +kernel) rfl ?_
                    have L11 : ∀ (n : Nat) (yL11 : Int) (hL11 : Hp), n = ((100 - yL11)).toNat → (0 ≤ yL11 ∧ yL11 ≤ 8) → (fld hL11 37 1 = fld h 37 1) → (∀ j : Nat, (j : Int) < fld h 37 1 → fld hL11 97 j ≤ 9 * (64 * kL4 + 8 * xL8 + yL11)) → zI hL11 → zMR ms106 h hL11 → zwW sc (0) 106 57 [(2, 37), (0, a), (0, b), (0, kL4), (0, xL8), (0, yL11)] [] hL11 (zwRt 0 (fun x g => zI g ∧ zMR ms106 h g ∧ (-2147483648 ≤ x ∧ x ≤ 2147483647) ∧ (-1 ≤ x) ∧ (x ≤ 4608))) := by
                      intro n
                      induction n using Nat.strongRecOn with
                      | ind n IHL11 =>
                        intro yL11 hL11 hnL11 iL11_0 iL11_1 iL11_2 IhL11 RhL11
                        refine zwW_p [(1, 5, 0), (1, 0, 2)] (q := 60) (ls' := [(2, 37), (0, a), (0, b), (0, kL4), (0, xL8), (0, yL11)]) (st' := [(2, 37), (0, yL11)]) (by decide +kernel) rfl ?_
                        refine zwW_gs IhL11 (kd := 13) (bn := 1) (n := 97) (t := 0) (lo := 0) (hi := 8) (nx := 63) (by decide +kernel) ?_
                        intro v12 ev12 lv12 uv12
                        refine zwic_ge (q := 163) (nx := 66) (by decide +kernel) (fun c13 => ?_) (fun c13 => ?_)
                        · refine zwW_inc (i := 4) (c := 1) (x := xL8) (nx := 166) (by decide +kernel) rfl (by first | omega | exact ⟨by omega, by omega⟩) (ls' := [(2, 37), (0, a), (0, b), (0, kL4), (0, (xL8 + 1)), (0, yL11)]) rfl ?_
                          refine zwW_p [(24, 45, 0)] (q := 45) (ls' := [(2, 37), (0, a), (0, b), (0, kL4), (0, (xL8 + 1)), (0, yL11)]) (st' := []) (by decide +kernel) rfl ?_
                          exact IHL8 ((100 - (xL8 + 1))).toNat (by omega) (xL8 + 1) (0, yL11) hL11 rfl (by omega) (by omega) (fun j hj => by have := iL11_2 j hj; omega) IhL11 RhL11
                        · refine zwW_p [(1, 0, 2)] (q := 67) (ls' := [(2, 37), (0, a), (0, b), (0, kL4), (0, xL8), (0, yL11)]) (st' := [(2, 37)]) (by decide +kernel) rfl ?_
                          refine zwW_gc IhL11 (kd := 13) (bn := 39) (n := 97) (c := 97) (nx := 70) (by decide +kernel) ?_
                          refine zwW_p [(1, 4, 0)] (q := 72) (ls' := [(2, 37), (0, a), (0, b), (0, kL4), (0, xL8), (0, yL11)]) (st' := [(0, xL8), (2, 97)]) (by decide +kernel) rfl ?_
                          refine zwW_al IhL11 (a1 := 97) (a2 := 97) (kd := 20) (n := 8) (t := 0) (lo := -1) (hi := 4608) (nx := 73) (by decide +kernel) (by first | decide | exact ⟨by decide, by decide⟩) (by first | omega | exact ⟨by omega, by omega⟩) ?_
                          intro v14 ev14 lv14 uv14
                          refine zwW_p [(0, -1, 0)] (q := 74) (ls' := [(2, 37), (0, a), (0, b), (0, kL4), (0, xL8), (0, yL11)]) (st' := [(0, -1), (0, v14)]) (by decide +kernel) rfl ?_
                          refine zwic_eq (q := 157) (nx := 77) (by decide +kernel) (fun c15 => ?_) (fun c15 => ?_)
                          · refine zwW_inc (i := 5) (c := 1) (x := yL11) (nx := 160) (by decide +kernel) rfl (by first | omega | exact ⟨by omega, by omega⟩) (ls' := [(2, 37), (0, a), (0, b), (0, kL4), (0, xL8), (0, (yL11 + 1))]) rfl ?_
                            refine zwW_p [(24, 57, 0)] (q := 57) (ls' := [(2, 37), (0, a), (0, b), (0, kL4), (0, xL8), (0, (yL11 + 1))]) (st' := []) (by decide +kernel) rfl ?_
                            exact IHL11 ((100 - (yL11 + 1))).toNat (by omega) (yL11 + 1) hL11 rfl (by omega) (by omega) (by first | exact fun j hj => (by have := iL11_2 j hj; omega) | exact W156) IhL11 RhL11
                          · refine zwW_p [(1, 0, 2)] (q := 78) (ls' := [(2, 37), (0, a), (0, b), (0, kL4), (0, xL8), (0, yL11)]) (st' := [(2, 37)]) (by decide +kernel) rfl ?_
                            refine zwW_gc IhL11 (kd := 13) (bn := 4) (n := 97) (c := 47) (nx := 81) (by decide +kernel) ?_
                            refine zwW_p [(1, 4, 0)] (q := 83) (ls' := [(2, 37), (0, a), (0, b), (0, kL4), (0, xL8), (0, yL11)]) (st' := [(0, xL8), (2, 47)]) (by decide +kernel) rfl ?_
                            refine zwW_ro IhL11 (a := 47) (n := 8) (kd := 26) (base := 48) (step := 1) (nx := 84) (by decide +kernel) rfl (by first | omega | exact ⟨by omega, by omega⟩) ?_
                            rw [show ((48 : Nat) : Int) + ((1 : Nat) : Int) * xL8 = (48 + xL8) by omega]
                            refine zwW_p [(1, 5, 0)] (q := 86) (ls' := [(2, 37), (0, a), (0, b), (0, kL4), (0, xL8), (0, yL11)]) (st' := [(0, yL11), (2, (48 + xL8))]) (by decide +kernel) rfl ?_
                            refine zwW_al IhL11 (a1 := 48) (a2 := 55) (kd := 20) (n := 8) (t := 0) (lo := 0) (hi := 9) (nx := 87) (by decide +kernel) (by first | omega | exact ⟨by omega, by omega⟩) (by first | omega | exact ⟨by omega, by omega⟩) ?_
                            intro v16 ev16 lv16 uv16
                            refine zwif_ne (q := 93) (nx := 90) (by decide +kernel) (fun c17 => ?_) (fun c17 => ?_)
                            · refine zwW_p [(1, 0, 2)] (q := 94) (ls' := [(2, 37), (0, a), (0, b), (0, kL4), (0, xL8), (0, yL11)]) (st' := [(2, 37)]) (by decide +kernel) rfl ?_
                              refine zwW_gc IhL11 (kd := 13) (bn := 39) (n := 97) (c := 97) (nx := 97) (by decide +kernel) ?_
                              refine zwW_p [(1, 5, 0)] (q := 99) (ls' := [(2, 37), (0, a), (0, b), (0, kL4), (0, xL8), (0, yL11)]) (st' := [(0, yL11), (2, 97)]) (by decide +kernel) rfl ?_
                              refine zwW_al IhL11 (a1 := 97) (a2 := 97) (kd := 20) (n := 8) (t := 0) (lo := -1) (hi := 4608) (nx := 100) (by decide +kernel) (by first | decide | exact ⟨by decide, by decide⟩) (by first | omega | exact ⟨by omega, by omega⟩) ?_
                              intro v18 ev18 lv18 uv18
                              refine zwW_p [(0, -1, 0)] (q := 101) (ls' := [(2, 37), (0, a), (0, b), (0, kL4), (0, xL8), (0, yL11)]) (st' := [(0, -1), (0, v18)]) (by decide +kernel) rfl ?_
                              refine zwic_eq (q := 132) (nx := 104) (by decide +kernel) (fun c19 => ?_) (fun c19 => ?_)
                              · refine zwW_p [(1, 0, 2)] (q := 133) (ls' := [(2, 37), (0, a), (0, b), (0, kL4), (0, xL8), (0, yL11)]) (st' := [(2, 37)]) (by decide +kernel) rfl ?_
                                refine zwW_gc IhL11 (kd := 13) (bn := 39) (n := 97) (c := 97) (nx := 136) (by decide +kernel) ?_
                                refine zwW_p [(1, 5, 0), (1, 0, 2)] (q := 139) (ls' := [(2, 37), (0, a), (0, b), (0, kL4), (0, xL8), (0, yL11)]) (st' := [(2, 37), (0, yL11), (2, 97)]) (by decide +kernel) rfl ?_
                                refine zwW_gc IhL11 (kd := 13) (bn := 39) (n := 97) (c := 97) (nx := 142) (by decide +kernel) ?_
                                refine zwW_p [(1, 4, 0)] (q := 144) (ls' := [(2, 37), (0, a), (0, b), (0, kL4), (0, xL8), (0, yL11)]) (st' := [(0, xL8), (2, 97), (0, yL11), (2, 97)]) (by decide +kernel) rfl ?_
                                refine zwW_al IhL11 (a1 := 97) (a2 := 97) (kd := 20) (n := 8) (t := 0) (lo := -1) (hi := 4608) (nx := 145) (by decide +kernel) (by first | decide | exact ⟨by decide, by decide⟩) (by first | omega | exact ⟨by omega, by omega⟩) ?_
                                intro v20 ev20 lv20 uv20
                                refine zwW_p [(1, 0, 2)] (q := 146) (ls' := [(2, 37), (0, a), (0, b), (0, kL4), (0, xL8), (0, yL11)]) (st' := [(2, 37), (0, v20), (0, yL11), (2, 97)]) (by decide +kernel) rfl ?_
                                refine zwW_gc IhL11 (kd := 13) (bn := 4) (n := 97) (c := 47) (nx := 149) (by decide +kernel) ?_
                                refine zwW_p [(1, 4, 0)] (q := 151) (ls' := [(2, 37), (0, a), (0, b), (0, kL4), (0, xL8), (0, yL11)]) (st' := [(0, xL8), (2, 47), (0, v20), (0, yL11), (2, 97)]) (by decide +kernel) rfl ?_
                                refine zwW_ro IhL11 (a := 47) (n := 8) (kd := 26) (base := 48) (step := 1) (nx := 152) (by decide +kernel) rfl (by first | omega | exact ⟨by omega, by omega⟩) ?_
                                rw [show ((48 : Nat) : Int) + ((1 : Nat) : Int) * xL8 = (48 + xL8) by omega]
                                refine zwW_p [(1, 5, 0)] (q := 154) (ls' := [(2, 37), (0, a), (0, b), (0, kL4), (0, xL8), (0, yL11)]) (st' := [(0, yL11), (2, (48 + xL8)), (0, v20), (0, yL11), (2, 97)]) (by decide +kernel) rfl ?_
                                refine zwW_al IhL11 (a1 := 48) (a2 := 55) (kd := 20) (n := 8) (t := 0) (lo := 0) (hi := 9) (nx := 155) (by decide +kernel) (by first | omega | exact ⟨by omega, by omega⟩) (by first | omega | exact ⟨by omega, by omega⟩) ?_
                                intro v21 ev21 lv21 uv21
                                refine zwW_add (nx := 156) (by decide +kernel) (by first | omega | exact ⟨by omega, by omega⟩) ?_
                                have B156 := iL11_2 (xL8).toNat (by omega)
                                refine zwW_as IhL11 (a1 := 97) (a2 := 97) (n := 8) (lo := -1) (hi := 4608) (nx := 157) (by decide +kernel) (by first | decide | exact ⟨by decide, by decide⟩) (by first | omega | exact ⟨by omega, by omega⟩) (by first | omega | exact ⟨by omega, by omega⟩) ?_
                                intro h22 eh22 Ih22
                                have th22_37_1 : fld h22 37 1 = fld hL11 37 1 := by rw [eh22]; exact fld_wr (by omega)
                                have W156 : ∀ j : Nat, (j : Int) < fld h 37 1 → fld h22 97 j ≤ 9 * (64 * kL4 + 8 * xL8 + (yL11 + 1)) := fld_all (P := fun j z => (j : Int) < fld h 37 1 → z ≤ 9 * (64 * kL4 + 8 * xL8 + (yL11 + 1))) (fun j hj => by have := iL11_2 j hj; omega) (fun _ => by have := iL11_2 (xL8).toNat (by omega); omega) eh22
                                have Rh22 : zMR ms106 h h22 := RhL11.w (a1 := 97) (a2 := 97) (j1 := 0) (j2 := 8) (by decide +kernel) (by first | decide | exact ⟨by decide, by decide⟩) (by first | omega | exact ⟨by omega, by omega⟩) eh22
                                refine zwW_inc (i := 5) (c := 1) (x := yL11) (nx := 160) (by decide +kernel) rfl (by first | omega | exact ⟨by omega, by omega⟩) (ls' := [(2, 37), (0, a), (0, b), (0, kL4), (0, xL8), (0, (yL11 + 1))]) rfl ?_
                                refine zwW_p [(24, 57, 0)] (q := 57) (ls' := [(2, 37), (0, a), (0, b), (0, kL4), (0, xL8), (0, (yL11 + 1))]) (st' := []) (by decide +kernel) rfl ?_
                                exact IHL11 ((100 - (yL11 + 1))).toNat (by omega) (yL11 + 1) h22 rfl (by omega) (by omega) (by first | exact fun j hj => (by have := iL11_2 j hj; omega) | exact W156) Ih22 Rh22
                              · refine zwW_p [(1, 0, 2)] (q := 105) (ls' := [(2, 37), (0, a), (0, b), (0, kL4), (0, xL8), (0, yL11)]) (st' := [(2, 37)]) (by decide +kernel) rfl ?_
                                refine zwW_gc IhL11 (kd := 13) (bn := 39) (n := 97) (c := 97) (nx := 108) (by decide +kernel) ?_
                                refine zwW_p [(1, 4, 0)] (q := 110) (ls' := [(2, 37), (0, a), (0, b), (0, kL4), (0, xL8), (0, yL11)]) (st' := [(0, xL8), (2, 97)]) (by decide +kernel) rfl ?_
                                refine zwW_al IhL11 (a1 := 97) (a2 := 97) (kd := 20) (n := 8) (t := 0) (lo := -1) (hi := 4608) (nx := 111) (by decide +kernel) (by first | decide | exact ⟨by decide, by decide⟩) (by first | omega | exact ⟨by omega, by omega⟩) ?_
                                intro v23 ev23 lv23 uv23
                                refine zwW_p [(1, 0, 2)] (q := 112) (ls' := [(2, 37), (0, a), (0, b), (0, kL4), (0, xL8), (0, yL11)]) (st' := [(2, 37), (0, v23)]) (by decide +kernel) rfl ?_
                                refine zwW_gc IhL11 (kd := 13) (bn := 4) (n := 97) (c := 47) (nx := 115) (by decide +kernel) ?_
                                refine zwW_p [(1, 4, 0)] (q := 117) (ls' := [(2, 37), (0, a), (0, b), (0, kL4), (0, xL8), (0, yL11)]) (st' := [(0, xL8), (2, 47), (0, v23)]) (by decide +kernel) rfl ?_
                                refine zwW_ro IhL11 (a := 47) (n := 8) (kd := 26) (base := 48) (step := 1) (nx := 118) (by decide +kernel) rfl (by first | omega | exact ⟨by omega, by omega⟩) ?_
                                rw [show ((48 : Nat) : Int) + ((1 : Nat) : Int) * xL8 = (48 + xL8) by omega]
                                refine zwW_p [(1, 5, 0)] (q := 120) (ls' := [(2, 37), (0, a), (0, b), (0, kL4), (0, xL8), (0, yL11)]) (st' := [(0, yL11), (2, (48 + xL8)), (0, v23)]) (by decide +kernel) rfl ?_
                                refine zwW_al IhL11 (a1 := 48) (a2 := 55) (kd := 20) (n := 8) (t := 0) (lo := 0) (hi := 9) (nx := 121) (by decide +kernel) (by first | omega | exact ⟨by omega, by omega⟩) (by first | omega | exact ⟨by omega, by omega⟩) ?_
                                intro v24 ev24 lv24 uv24
                                refine zwW_add (nx := 122) (by decide +kernel) (by first | omega | exact ⟨by omega, by omega⟩) ?_
                                refine zwW_p [(1, 0, 2)] (q := 123) (ls' := [(2, 37), (0, a), (0, b), (0, kL4), (0, xL8), (0, yL11)]) (st' := [(2, 37), (0, (v23 + v24))]) (by decide +kernel) rfl ?_
                                refine zwW_gc IhL11 (kd := 13) (bn := 39) (n := 97) (c := 97) (nx := 126) (by decide +kernel) ?_
                                refine zwW_p [(1, 5, 0)] (q := 128) (ls' := [(2, 37), (0, a), (0, b), (0, kL4), (0, xL8), (0, yL11)]) (st' := [(0, yL11), (2, 97), (0, (v23 + v24))]) (by decide +kernel) rfl ?_
                                refine zwW_al IhL11 (a1 := 97) (a2 := 97) (kd := 20) (n := 8) (t := 0) (lo := -1) (hi := 4608) (nx := 129) (by decide +kernel) (by first | decide | exact ⟨by decide, by decide⟩) (by first | omega | exact ⟨by omega, by omega⟩) ?_
                                intro v25 ev25 lv25 uv25
                                refine zwic_ge (q := 157) (nx := 132) (by decide +kernel) (fun c26 => ?_) (fun c26 => ?_)
                                · refine zwW_inc (i := 5) (c := 1) (x := yL11) (nx := 160) (by decide +kernel) rfl (by first | omega | exact ⟨by omega, by omega⟩) (ls' := [(2, 37), (0, a), (0, b), (0, kL4), (0, xL8), (0, (yL11 + 1))]) rfl ?_
                                  refine zwW_p [(24, 57, 0)] (q := 57) (ls' := [(2, 37), (0, a), (0, b), (0, kL4), (0, xL8), (0, (yL11 + 1))]) (st' := []) (by decide +kernel) rfl ?_
                                  exact IHL11 ((100 - (yL11 + 1))).toNat (by omega) (yL11 + 1) hL11 rfl (by omega) (by omega) (by first | exact fun j hj => (by have := iL11_2 j hj; omega) | exact W156) IhL11 RhL11
                                · refine zwW_p [(1, 0, 2)] (q := 133) (ls' := [(2, 37), (0, a), (0, b), (0, kL4), (0, xL8), (0, yL11)]) (st' := [(2, 37)]) (by decide +kernel) rfl ?_
                                  refine zwW_gc IhL11 (kd := 13) (bn := 39) (n := 97) (c := 97) (nx := 136) (by decide +kernel) ?_
                                  refine zwW_p [(1, 5, 0), (1, 0, 2)] (q := 139) (ls' := [(2, 37), (0, a), (0, b), (0, kL4), (0, xL8), (0, yL11)]) (st' := [(2, 37), (0, yL11), (2, 97)]) (by decide +kernel) rfl ?_
                                  refine zwW_gc IhL11 (kd := 13) (bn := 39) (n := 97) (c := 97) (nx := 142) (by decide +kernel) ?_
                                  refine zwW_p [(1, 4, 0)] (q := 144) (ls' := [(2, 37), (0, a), (0, b), (0, kL4), (0, xL8), (0, yL11)]) (st' := [(0, xL8), (2, 97), (0, yL11), (2, 97)]) (by decide +kernel) rfl ?_
                                  refine zwW_al IhL11 (a1 := 97) (a2 := 97) (kd := 20) (n := 8) (t := 0) (lo := -1) (hi := 4608) (nx := 145) (by decide +kernel) (by first | decide | exact ⟨by decide, by decide⟩) (by first | omega | exact ⟨by omega, by omega⟩) ?_
                                  intro v27 ev27 lv27 uv27
                                  refine zwW_p [(1, 0, 2)] (q := 146) (ls' := [(2, 37), (0, a), (0, b), (0, kL4), (0, xL8), (0, yL11)]) (st' := [(2, 37), (0, v27), (0, yL11), (2, 97)]) (by decide +kernel) rfl ?_
                                  refine zwW_gc IhL11 (kd := 13) (bn := 4) (n := 97) (c := 47) (nx := 149) (by decide +kernel) ?_
                                  refine zwW_p [(1, 4, 0)] (q := 151) (ls' := [(2, 37), (0, a), (0, b), (0, kL4), (0, xL8), (0, yL11)]) (st' := [(0, xL8), (2, 47), (0, v27), (0, yL11), (2, 97)]) (by decide +kernel) rfl ?_
                                  refine zwW_ro IhL11 (a := 47) (n := 8) (kd := 26) (base := 48) (step := 1) (nx := 152) (by decide +kernel) rfl (by first | omega | exact ⟨by omega, by omega⟩) ?_
                                  rw [show ((48 : Nat) : Int) + ((1 : Nat) : Int) * xL8 = (48 + xL8) by omega]
                                  refine zwW_p [(1, 5, 0)] (q := 154) (ls' := [(2, 37), (0, a), (0, b), (0, kL4), (0, xL8), (0, yL11)]) (st' := [(0, yL11), (2, (48 + xL8)), (0, v27), (0, yL11), (2, 97)]) (by decide +kernel) rfl ?_
                                  refine zwW_al IhL11 (a1 := 48) (a2 := 55) (kd := 20) (n := 8) (t := 0) (lo := 0) (hi := 9) (nx := 155) (by decide +kernel) (by first | omega | exact ⟨by omega, by omega⟩) (by first | omega | exact ⟨by omega, by omega⟩) ?_
                                  intro v28 ev28 lv28 uv28
                                  refine zwW_add (nx := 156) (by decide +kernel) (by first | omega | exact ⟨by omega, by omega⟩) ?_
                                  have B156 := iL11_2 (xL8).toNat (by omega)
                                  refine zwW_as IhL11 (a1 := 97) (a2 := 97) (n := 8) (lo := -1) (hi := 4608) (nx := 157) (by decide +kernel) (by first | decide | exact ⟨by decide, by decide⟩) (by first | omega | exact ⟨by omega, by omega⟩) (by first | omega | exact ⟨by omega, by omega⟩) ?_
                                  intro h29 eh29 Ih29
                                  have th29_37_1 : fld h29 37 1 = fld hL11 37 1 := by rw [eh29]; exact fld_wr (by omega)
                                  have W156 : ∀ j : Nat, (j : Int) < fld h 37 1 → fld h29 97 j ≤ 9 * (64 * kL4 + 8 * xL8 + (yL11 + 1)) := fld_all (P := fun j z => (j : Int) < fld h 37 1 → z ≤ 9 * (64 * kL4 + 8 * xL8 + (yL11 + 1))) (fun j hj => by have := iL11_2 j hj; omega) (fun _ => by have := iL11_2 (xL8).toNat (by omega); omega) eh29
                                  have Rh29 : zMR ms106 h h29 := RhL11.w (a1 := 97) (a2 := 97) (j1 := 0) (j2 := 8) (by decide +kernel) (by first | decide | exact ⟨by decide, by decide⟩) (by first | omega | exact ⟨by omega, by omega⟩) eh29
                                  refine zwW_inc (i := 5) (c := 1) (x := yL11) (nx := 160) (by decide +kernel) rfl (by first | omega | exact ⟨by omega, by omega⟩) (ls' := [(2, 37), (0, a), (0, b), (0, kL4), (0, xL8), (0, (yL11 + 1))]) rfl ?_
                                  refine zwW_p [(24, 57, 0)] (q := 57) (ls' := [(2, 37), (0, a), (0, b), (0, kL4), (0, xL8), (0, (yL11 + 1))]) (st' := []) (by decide +kernel) rfl ?_
                                  exact IHL11 ((100 - (yL11 + 1))).toNat (by omega) (yL11 + 1) h29 rfl (by omega) (by omega) (by first | exact fun j hj => (by have := iL11_2 j hj; omega) | exact W156) Ih29 Rh29
                            · refine zwW_p [(24, 157, 0)] (q := 157) (ls' := [(2, 37), (0, a), (0, b), (0, kL4), (0, xL8), (0, yL11)]) (st' := []) (by decide +kernel) rfl ?_
                              refine zwW_inc (i := 5) (c := 1) (x := yL11) (nx := 160) (by decide +kernel) rfl (by first | omega | exact ⟨by omega, by omega⟩) (ls' := [(2, 37), (0, a), (0, b), (0, kL4), (0, xL8), (0, (yL11 + 1))]) rfl ?_
                              refine zwW_p [(24, 57, 0)] (q := 57) (ls' := [(2, 37), (0, a), (0, b), (0, kL4), (0, xL8), (0, (yL11 + 1))]) (st' := []) (by decide +kernel) rfl ?_
                              exact IHL11 ((100 - (yL11 + 1))).toNat (by omega) (yL11 + 1) hL11 rfl (by omega) (by omega) (by first | exact fun j hj => (by have := iL11_2 j hj; omega) | exact W156) IhL11 RhL11
                    exact L11 _ 0 hL8 rfl (by omega) (by omega) (fun j hj => by have := iL8_2 j hj; omega) IhL8 RhL8
              exact L8 _ 0 w5L4 hL4 rfl (by omega) (by omega) (fun j hj => by have := iL4_2 j hj; omega) IhL4 RhL4
        exact L4 _ 0 (9, 0) (9, 0) hL1 rfl (by omega) (by omega) (fun j hj => by have := iL1_2 j (by omega); omega) IhL1 RhL1
      · refine zwW_p [(1, 0, 2)] (q := 11) (ls' := [(2, 37), (0, a), (0, b), (0, vL1), (9, 0), (9, 0)]) (st' := [(2, 37)]) (by decide +kernel) rfl ?_
        refine zwW_gc IhL1 (kd := 13) (bn := 39) (n := 97) (c := 97) (nx := 14) (by decide +kernel) ?_
        refine zwW_p [(1, 3, 0), (1, 3, 0), (1, 1, 0)] (q := 17) (ls' := [(2, 37), (0, a), (0, b), (0, vL1), (9, 0), (9, 0)]) (st' := [(0, a), (0, vL1), (0, vL1), (2, 97)]) (by decide +kernel) rfl ?_
        refine zwic_ne (q := 24) (nx := 20) (by decide +kernel) (fun c30 => ?_) (fun c30 => ?_)
        · refine zwW_p [(0, -1, 0)] (q := 25) (ls' := [(2, 37), (0, a), (0, b), (0, vL1), (9, 0), (9, 0)]) (st' := [(0, -1), (0, vL1), (2, 97)]) (by decide +kernel) rfl ?_
          refine zwW_as IhL1 (a1 := 97) (a2 := 97) (n := 8) (lo := -1) (hi := 4608) (nx := 26) (by decide +kernel) (by first | decide | exact ⟨by decide, by decide⟩) (by first | omega | exact ⟨by omega, by omega⟩) (by first | decide | exact ⟨by decide, by decide⟩) ?_
          intro h31 eh31 Ih31
          have th31_37_1 : fld h31 37 1 = fld hL1 37 1 := by rw [eh31]; exact fld_wr (by omega)
          have W25 : ∀ j : Nat, (j : Int) < vL1 + 1 → fld h31 97 j ≤ 0 := by
            intro j hj
            by_cases hq : j = (vL1).toNat
            · rw [hq, eh31, fld_wr_eq (IhL1.s (a1 := 97) (a2 := 97) (k := 20) (n := 8) (by decide +kernel) (by decide) (by decide)) (by omega)]; decide
            · rw [eh31, fld_wr (Or.inr hq)]; exact iL1_2 j (by omega)
          have Rh31 : zMR ms106 h h31 := RhL1.w (a1 := 97) (a2 := 97) (j1 := 0) (j2 := 8) (by decide +kernel) (by first | decide | exact ⟨by decide, by decide⟩) (by first | omega | exact ⟨by omega, by omega⟩) eh31
          refine zwW_inc (i := 3) (c := 1) (x := vL1) (nx := 29) (by decide +kernel) rfl (by first | omega | exact ⟨by omega, by omega⟩) (ls' := [(2, 37), (0, a), (0, b), (0, (vL1 + 1)), (9, 0), (9, 0)]) rfl ?_
          refine zwW_p [(24, 2, 0)] (q := 2) (ls' := [(2, 37), (0, a), (0, b), (0, (vL1 + 1)), (9, 0), (9, 0)]) (st' := []) (by decide +kernel) rfl ?_
          exact IHL1 ((100 - (vL1 + 1))).toNat (by omega) (vL1 + 1) h31 rfl (by omega) (by omega) (W25) Ih31 Rh31
        · refine zwW_p [(0, 0, 0), (24, 25, 0)] (q := 25) (ls' := [(2, 37), (0, a), (0, b), (0, vL1), (9, 0), (9, 0)]) (st' := [(0, 0), (0, vL1), (2, 97)]) (by decide +kernel) rfl ?_
          refine zwW_as IhL1 (a1 := 97) (a2 := 97) (n := 8) (lo := -1) (hi := 4608) (nx := 26) (by decide +kernel) (by first | decide | exact ⟨by decide, by decide⟩) (by first | omega | exact ⟨by omega, by omega⟩) (by first | decide | exact ⟨by decide, by decide⟩) ?_
          intro h32 eh32 Ih32
          have th32_37_1 : fld h32 37 1 = fld hL1 37 1 := by rw [eh32]; exact fld_wr (by omega)
          have W25 : ∀ j : Nat, (j : Int) < vL1 + 1 → fld h32 97 j ≤ 0 := by
            intro j hj
            by_cases hq : j = (vL1).toNat
            · rw [hq, eh32, fld_wr_eq (IhL1.s (a1 := 97) (a2 := 97) (k := 20) (n := 8) (by decide +kernel) (by decide) (by decide)) (by omega)]; decide
            · rw [eh32, fld_wr (Or.inr hq)]; exact iL1_2 j (by omega)
          have Rh32 : zMR ms106 h h32 := RhL1.w (a1 := 97) (a2 := 97) (j1 := 0) (j2 := 8) (by decide +kernel) (by first | decide | exact ⟨by decide, by decide⟩) (by first | omega | exact ⟨by omega, by omega⟩) eh32
          refine zwW_inc (i := 3) (c := 1) (x := vL1) (nx := 29) (by decide +kernel) rfl (by first | omega | exact ⟨by omega, by omega⟩) (ls' := [(2, 37), (0, a), (0, b), (0, (vL1 + 1)), (9, 0), (9, 0)]) rfl ?_
          refine zwW_p [(24, 2, 0)] (q := 2) (ls' := [(2, 37), (0, a), (0, b), (0, (vL1 + 1)), (9, 0), (9, 0)]) (st' := []) (by decide +kernel) rfl ?_
          exact IHL1 ((100 - (vL1 + 1))).toNat (by omega) (vL1 + 1) h32 rfl (by omega) (by omega) (W25) Ih32 Rh32
  exact L1 _ 0 h rfl (by omega) (by omega) (fun j hj => by omega) I R
def ms8 : Zms := [(97, 97, 0, 8)]
-- WheelLandModel.far(II)I
def ms10 : Zms := [(37, 37, 2, 3), (79, 79, 0, 20), (80, 80, 0, 20), (81, 81, 0, 20), (82, 82, 0, 20), (83, 83, 0, 20), (85, 85, 0, 20)]
-- WheelLandModel.house(II)I
theorem m10 {sc : List Int} (h : Hp) (I : zI h) (a b : Int) (q_b : -2147483648 ≤ b ∧ b ≤ 2147483647) (hA : zAM h) : zwC sc 3 10 [(2, 37), (0, a), (0, b)] h (zwRt 0 (fun x g => zI g ∧ zMR ms10 h g ∧ (-2147483648 ≤ x ∧ x ≤ 2147483647) ∧ ((x = fld h 37 2 ∧ fld g 37 2 = fld h 37 2 + 1 ∧ (0 ≤ a ∧ a < fld h 37 1 ∧ 0 ≤ b ∧ b / 1000 ≤ 5 ∧ 1 ≤ b / 100 % 10 ∧ b / 10 % 10 ≤ 5 ∧ 1 ≤ b % 10 ∧ fld h 37 2 < 20 ∧ fld h 37 0 < 156) ∧ (∀ j : Nat, fld g 79 j = if j = (fld h 37 2).toNat then a else fld h 79 j) ∧ (∀ j : Nat, fld g 80 j = if j = (fld h 37 2).toNat then b / 1000 else fld h 80 j) ∧ (∀ j : Nat, fld g 81 j = if j = (fld h 37 2).toNat then b / 100 % 10 else fld h 81 j) ∧ (∀ j : Nat, fld g 82 j = if j = (fld h 37 2).toNat then b / 10 % 10 else fld h 82 j) ∧ (∀ j : Nat, fld g 83 j = if j = (fld h 37 2).toNat then b % 10 else fld h 83 j) ∧ (∀ j : Nat, fld g 85 j = if j = (fld h 37 2).toNat then 10 else fld h 85 j)) ∨ (x = -1 ∧ g = h ∧ (a < 0 ∨ fld h 37 1 ≤ a ∨ b < 0 ∨ 5 < b / 1000 ∨ b / 100 % 10 < 1 ∨ 5 < b / 10 % 10 ∨ b % 10 < 1 ∨ 20 ≤ fld h 37 2 ∨ 156 ≤ fld h 37 0))) ∧ (zAM g))) := by
  refine zwC_of (D := 2) 4 (by decide +kernel) rfl (ls := [(2, 37), (0, a), (0, b), (9, 0)]) rfl ?_
  have R : zMR ms10 h h := zMR.rf _ _
  refine zwW_p [(1, 0, 2), (1, 1, 0)] (q := 2) (ls' := [(2, 37), (0, a), (0, b), (9, 0)]) (st' := [(0, a), (2, 37)]) (by decide +kernel) rfl ?_
  refine zwW_cm I (op := 60) (k' := 104) (n := 1) (kd := 13) (m := 97) (nx := 5) (r := 37) (tl := [(0, a)]) (st' := []) (by decide +kernel) rfl (by decide +kernel) rfl (m104 h I a) ?_
  rintro x _ ⟨rfl, ⟨rfl, c1⟩ | ⟨rfl, c1⟩⟩
  · refine zwif_eq (q := 70) (nx := 8) (by decide +kernel) (fun c2 => ?_) (fun c2 => ?_)
    · exfalso; omega
    · refine zwW_p [(1, 2, 0)] (q := 9) (ls' := [(2, 37), (0, a), (0, b), (9, 0)]) (st' := [(0, b)]) (by decide +kernel) rfl ?_
      refine zwif_lt (q := 70) (nx := 12) (by decide +kernel) (fun c3 => ?_) (fun c3 => ?_)
      · refine zwW_p [(0, -1, 0)] (q := 71) (ls' := [(2, 37), (0, a), (0, b), (9, 0)]) (st' := [(0, -1)]) (by decide +kernel) rfl ?_
        refine zwW_ret (nx := 72) (a := 0) (b := 0) (by decide +kernel) rfl (Or.inl rfl) ?_
        exact ⟨I, R, by omega, Or.inr ⟨by omega, rfl, by omega⟩, hA⟩
      · refine zwW_p [(1, 2, 0), (0, 1000, 0)] (q := 16) (ls' := [(2, 37), (0, a), (0, b), (9, 0)]) (st' := [(0, 1000), (0, b)]) (by decide +kernel) rfl ?_
        refine zwW_div (nx := 17) (by decide +kernel) (by omega) (by omega) (by omega) ?_
        refine zwW_p [(0, 5, 0)] (q := 18) (ls' := [(2, 37), (0, a), (0, b), (9, 0)]) (st' := [(0, 5), (0, (b / 1000))]) (by decide +kernel) rfl ?_
        refine zwic_gt (q := 70) (nx := 21) (by decide +kernel) (fun c4 => ?_) (fun c4 => ?_)
        · refine zwW_p [(0, -1, 0)] (q := 71) (ls' := [(2, 37), (0, a), (0, b), (9, 0)]) (st' := [(0, -1)]) (by decide +kernel) rfl ?_
          refine zwW_ret (nx := 72) (a := 0) (b := 0) (by decide +kernel) rfl (Or.inl rfl) ?_
          exact ⟨I, R, by omega, Or.inr ⟨by omega, rfl, by omega⟩, hA⟩
        · refine zwW_p [(1, 2, 0), (0, 100, 0)] (q := 24) (ls' := [(2, 37), (0, a), (0, b), (9, 0)]) (st' := [(0, 100), (0, b)]) (by decide +kernel) rfl ?_
          refine zwW_div (nx := 25) (by decide +kernel) (by omega) (by omega) (by omega) ?_
          refine zwW_p [(0, 10, 0)] (q := 27) (ls' := [(2, 37), (0, a), (0, b), (9, 0)]) (st' := [(0, 10), (0, (b / 100))]) (by decide +kernel) rfl ?_
          refine zwW_rem (nx := 28) (by decide +kernel) (by omega) (by omega) ?_
          refine zwW_p [(0, 1, 0)] (q := 29) (ls' := [(2, 37), (0, a), (0, b), (9, 0)]) (st' := [(0, 1), (0, ((b / 100) % 10))]) (by decide +kernel) rfl ?_
          refine zwic_lt (q := 70) (nx := 32) (by decide +kernel) (fun c5 => ?_) (fun c5 => ?_)
          · refine zwW_p [(0, -1, 0)] (q := 71) (ls' := [(2, 37), (0, a), (0, b), (9, 0)]) (st' := [(0, -1)]) (by decide +kernel) rfl ?_
            refine zwW_ret (nx := 72) (a := 0) (b := 0) (by decide +kernel) rfl (Or.inl rfl) ?_
            exact ⟨I, R, by omega, Or.inr ⟨by omega, rfl, by omega⟩, hA⟩
          · refine zwW_p [(1, 2, 0), (0, 10, 0)] (q := 35) (ls' := [(2, 37), (0, a), (0, b), (9, 0)]) (st' := [(0, 10), (0, b)]) (by decide +kernel) rfl ?_
            refine zwW_div (nx := 36) (by decide +kernel) (by omega) (by omega) (by omega) ?_
            refine zwW_p [(0, 10, 0)] (q := 38) (ls' := [(2, 37), (0, a), (0, b), (9, 0)]) (st' := [(0, 10), (0, (b / 10))]) (by decide +kernel) rfl ?_
            refine zwW_rem (nx := 39) (by decide +kernel) (by omega) (by omega) ?_
            refine zwW_p [(0, 5, 0)] (q := 40) (ls' := [(2, 37), (0, a), (0, b), (9, 0)]) (st' := [(0, 5), (0, ((b / 10) % 10))]) (by decide +kernel) rfl ?_
            refine zwic_gt (q := 70) (nx := 43) (by decide +kernel) (fun c6 => ?_) (fun c6 => ?_)
            · refine zwW_p [(0, -1, 0)] (q := 71) (ls' := [(2, 37), (0, a), (0, b), (9, 0)]) (st' := [(0, -1)]) (by decide +kernel) rfl ?_
              refine zwW_ret (nx := 72) (a := 0) (b := 0) (by decide +kernel) rfl (Or.inl rfl) ?_
              exact ⟨I, R, by omega, Or.inr ⟨by omega, rfl, by omega⟩, hA⟩
            · refine zwW_p [(1, 2, 0), (0, 10, 0)] (q := 46) (ls' := [(2, 37), (0, a), (0, b), (9, 0)]) (st' := [(0, 10), (0, b)]) (by decide +kernel) rfl ?_
              refine zwW_rem (nx := 47) (by decide +kernel) (by omega) (by omega) ?_
              refine zwW_p [(0, 1, 0)] (q := 48) (ls' := [(2, 37), (0, a), (0, b), (9, 0)]) (st' := [(0, 1), (0, (b % 10))]) (by decide +kernel) rfl ?_
              refine zwic_lt (q := 70) (nx := 51) (by decide +kernel) (fun c7 => ?_) (fun c7 => ?_)
              · refine zwW_p [(0, -1, 0)] (q := 71) (ls' := [(2, 37), (0, a), (0, b), (9, 0)]) (st' := [(0, -1)]) (by decide +kernel) rfl ?_
                refine zwW_ret (nx := 72) (a := 0) (b := 0) (by decide +kernel) rfl (Or.inl rfl) ?_
                exact ⟨I, R, by omega, Or.inr ⟨by omega, rfl, by omega⟩, hA⟩
              · refine zwW_p [(1, 0, 2)] (q := 52) (ls' := [(2, 37), (0, a), (0, b), (9, 0)]) (st' := [(2, 37)]) (by decide +kernel) rfl ?_
                refine zwW_gs I (kd := 13) (bn := 2) (n := 97) (t := 0) (lo := 0) (hi := 20) (nx := 55) (by decide +kernel) ?_
                intro v8 ev8 lv8 uv8
                refine zwW_p [(0, 20, 0)] (q := 57) (ls' := [(2, 37), (0, a), (0, b), (9, 0)]) (st' := [(0, 20), (0, v8)]) (by decide +kernel) rfl ?_
                refine zwic_eq (q := 70) (nx := 60) (by decide +kernel) (fun c9 => ?_) (fun c9 => ?_)
                · refine zwW_p [(0, -1, 0)] (q := 71) (ls' := [(2, 37), (0, a), (0, b), (9, 0)]) (st' := [(0, -1)]) (by decide +kernel) rfl ?_
                  refine zwW_ret (nx := 72) (a := 0) (b := 0) (by decide +kernel) rfl (Or.inl rfl) ?_
                  exact ⟨I, R, by omega, Or.inr ⟨by omega, rfl, by omega⟩, hA⟩
                · refine zwW_p [(1, 0, 2)] (q := 61) (ls' := [(2, 37), (0, a), (0, b), (9, 0)]) (st' := [(2, 37)]) (by decide +kernel) rfl ?_
                  refine zwW_gs I (kd := 13) (bn := 0) (n := 97) (t := 0) (lo := 0) (hi := 156) (nx := 64) (by decide +kernel) ?_
                  intro v10 ev10 lv10 uv10
                  refine zwW_p [(0, 156, 0)] (q := 67) (ls' := [(2, 37), (0, a), (0, b), (9, 0)]) (st' := [(0, 156), (0, v10)]) (by decide +kernel) rfl ?_
                  refine zwic_ne (q := 72) (nx := 70) (by decide +kernel) (fun c11 => ?_) (fun c11 => ?_)
                  · refine zwW_p [(1, 0, 2)] (q := 73) (ls' := [(2, 37), (0, a), (0, b), (9, 0)]) (st' := [(2, 37)]) (by decide +kernel) rfl ?_
                    refine zwW_gs I (kd := 13) (bn := 2) (n := 97) (t := 0) (lo := 0) (hi := 20) (nx := 76) (by decide +kernel) ?_
                    intro v12 ev12 lv12 uv12
                    refine zwW_p [(2, 3, 0), (1, 0, 2)] (q := 78) (ls' := [(2, 37), (0, a), (0, b), (0, v12)]) (st' := [(2, 37)]) (by decide +kernel) rfl ?_
                    refine zwW_gc I (kd := 13) (bn := 20) (n := 97) (c := 79) (nx := 81) (by decide +kernel) ?_
                    refine zwW_p [(1, 3, 0), (1, 1, 0)] (q := 83) (ls' := [(2, 37), (0, a), (0, b), (0, v12)]) (st' := [(0, a), (0, v12), (2, 79)]) (by decide +kernel) rfl ?_
                    refine zwW_as I (a1 := 79) (a2 := 79) (n := 20) (lo := 0) (hi := 7) (nx := 84) (by decide +kernel) (by first | decide | exact ⟨by decide, by decide⟩) (by first | omega | exact ⟨by omega, by omega⟩) (by first | omega | exact ⟨by omega, by omega⟩) ?_
                    intro h13 eh13 Ih13
                    have th13_37_2 : fld h13 37 2 = fld h 37 2 := by rw [eh13]; exact fld_wr (by omega)
                    have Ah13_79 : ∀ j : Nat, fld h13 79 j = if j = v12.toNat then a else fld h 79 j := by
                      intro j
                      by_cases hq : j = v12.toNat
                      · rw [if_pos hq, hq, eh13]; exact fld_wr_eq (I.s (a1 := 79) (a2 := 79) (k := 20) (n := 20) (by decide +kernel) (by decide) (by decide)) (by omega)
                      · rw [if_neg hq, eh13]; exact (fld_wr (Or.inr hq)).trans rfl
                    have Ah13_80 : ∀ j : Nat, fld h13 80 j = fld h 80 j := fun j => by rw [eh13]; exact (fld_wr (by omega)).trans rfl
                    have Ah13_81 : ∀ j : Nat, fld h13 81 j = fld h 81 j := fun j => by rw [eh13]; exact (fld_wr (by omega)).trans rfl
                    have Ah13_82 : ∀ j : Nat, fld h13 82 j = fld h 82 j := fun j => by rw [eh13]; exact (fld_wr (by omega)).trans rfl
                    have Ah13_83 : ∀ j : Nat, fld h13 83 j = fld h 83 j := fun j => by rw [eh13]; exact (fld_wr (by omega)).trans rfl
                    have Ah13_85 : ∀ j : Nat, fld h13 85 j = fld h 85 j := fun j => by rw [eh13]; exact (fld_wr (by omega)).trans rfl
                    have Rh13 : zMR ms10 h h13 := R.w (a1 := 79) (a2 := 79) (j1 := 0) (j2 := 20) (by decide +kernel) (by first | decide | exact ⟨by decide, by decide⟩) (by first | omega | exact ⟨by omega, by omega⟩) eh13
                    refine zwW_p [(1, 0, 2)] (q := 85) (ls' := [(2, 37), (0, a), (0, b), (0, v12)]) (st' := [(2, 37)]) (by decide +kernel) rfl ?_
                    refine zwW_gc Ih13 (kd := 13) (bn := 21) (n := 97) (c := 80) (nx := 88) (by decide +kernel) ?_
                    refine zwW_p [(1, 3, 0), (1, 2, 0), (0, 1000, 0)] (q := 93) (ls' := [(2, 37), (0, a), (0, b), (0, v12)]) (st' := [(0, 1000), (0, b), (0, v12), (2, 80)]) (by decide +kernel) rfl ?_
                    refine zwW_div (nx := 94) (by decide +kernel) (by omega) (by omega) (by omega) ?_
                    refine zwW_as Ih13 (a1 := 80) (a2 := 80) (n := 20) (lo := 0) (hi := 5) (nx := 95) (by decide +kernel) (by first | decide | exact ⟨by decide, by decide⟩) (by first | omega | exact ⟨by omega, by omega⟩) (by first | omega | exact ⟨by omega, by omega⟩) ?_
                    intro h14 eh14 Ih14
                    have th14_37_2 : fld h14 37 2 = fld h13 37 2 := by rw [eh14]; exact fld_wr (by omega)
                    have Ah14_79 : ∀ j : Nat, fld h14 79 j = if j = v12.toNat then a else fld h 79 j := fun j => by rw [eh14]; exact (fld_wr (by omega)).trans (Ah13_79 j)
                    have Ah14_80 : ∀ j : Nat, fld h14 80 j = if j = v12.toNat then (b / 1000) else fld h 80 j := by
                      intro j
                      by_cases hq : j = v12.toNat
                      · rw [if_pos hq, hq, eh14]; exact fld_wr_eq (Ih13.s (a1 := 80) (a2 := 80) (k := 20) (n := 20) (by decide +kernel) (by decide) (by decide)) (by omega)
                      · rw [if_neg hq, eh14]; exact (fld_wr (Or.inr hq)).trans (Ah13_80 j)
                    have Ah14_81 : ∀ j : Nat, fld h14 81 j = fld h 81 j := fun j => by rw [eh14]; exact (fld_wr (by omega)).trans (Ah13_81 j)
                    have Ah14_82 : ∀ j : Nat, fld h14 82 j = fld h 82 j := fun j => by rw [eh14]; exact (fld_wr (by omega)).trans (Ah13_82 j)
                    have Ah14_83 : ∀ j : Nat, fld h14 83 j = fld h 83 j := fun j => by rw [eh14]; exact (fld_wr (by omega)).trans (Ah13_83 j)
                    have Ah14_85 : ∀ j : Nat, fld h14 85 j = fld h 85 j := fun j => by rw [eh14]; exact (fld_wr (by omega)).trans (Ah13_85 j)
                    have Rh14 : zMR ms10 h h14 := Rh13.w (a1 := 80) (a2 := 80) (j1 := 0) (j2 := 20) (by decide +kernel) (by first | decide | exact ⟨by decide, by decide⟩) (by first | omega | exact ⟨by omega, by omega⟩) eh14
                    refine zwW_p [(1, 0, 2)] (q := 96) (ls' := [(2, 37), (0, a), (0, b), (0, v12)]) (st' := [(2, 37)]) (by decide +kernel) rfl ?_
                    refine zwW_gc Ih14 (kd := 13) (bn := 22) (n := 97) (c := 81) (nx := 99) (by decide +kernel) ?_
                    refine zwW_p [(1, 3, 0), (1, 2, 0), (0, 100, 0)] (q := 103) (ls' := [(2, 37), (0, a), (0, b), (0, v12)]) (st' := [(0, 100), (0, b), (0, v12), (2, 81)]) (by decide +kernel) rfl ?_
                    refine zwW_div (nx := 104) (by decide +kernel) (by omega) (by omega) (by omega) ?_
                    refine zwW_p [(0, 10, 0)] (q := 106) (ls' := [(2, 37), (0, a), (0, b), (0, v12)]) (st' := [(0, 10), (0, (b / 100)), (0, v12), (2, 81)]) (by decide +kernel) rfl ?_
                    refine zwW_rem (nx := 107) (by decide +kernel) (by omega) (by omega) ?_
                    refine zwW_as Ih14 (a1 := 81) (a2 := 81) (n := 20) (lo := 0) (hi := 9) (nx := 108) (by decide +kernel) (by first | decide | exact ⟨by decide, by decide⟩) (by first | omega | exact ⟨by omega, by omega⟩) (by first | omega | exact ⟨by omega, by omega⟩) ?_
                    intro h15 eh15 Ih15
                    have th15_37_2 : fld h15 37 2 = fld h14 37 2 := by rw [eh15]; exact fld_wr (by omega)
                    have Ah15_79 : ∀ j : Nat, fld h15 79 j = if j = v12.toNat then a else fld h 79 j := fun j => by rw [eh15]; exact (fld_wr (by omega)).trans (Ah14_79 j)
                    have Ah15_80 : ∀ j : Nat, fld h15 80 j = if j = v12.toNat then (b / 1000) else fld h 80 j := fun j => by rw [eh15]; exact (fld_wr (by omega)).trans (Ah14_80 j)
                    have Ah15_81 : ∀ j : Nat, fld h15 81 j = if j = v12.toNat then ((b / 100) % 10) else fld h 81 j := by
                      intro j
                      by_cases hq : j = v12.toNat
                      · rw [if_pos hq, hq, eh15]; exact fld_wr_eq (Ih14.s (a1 := 81) (a2 := 81) (k := 20) (n := 20) (by decide +kernel) (by decide) (by decide)) (by omega)
                      · rw [if_neg hq, eh15]; exact (fld_wr (Or.inr hq)).trans (Ah14_81 j)
                    have Ah15_82 : ∀ j : Nat, fld h15 82 j = fld h 82 j := fun j => by rw [eh15]; exact (fld_wr (by omega)).trans (Ah14_82 j)
                    have Ah15_83 : ∀ j : Nat, fld h15 83 j = fld h 83 j := fun j => by rw [eh15]; exact (fld_wr (by omega)).trans (Ah14_83 j)
                    have Ah15_85 : ∀ j : Nat, fld h15 85 j = fld h 85 j := fun j => by rw [eh15]; exact (fld_wr (by omega)).trans (Ah14_85 j)
                    have Rh15 : zMR ms10 h h15 := Rh14.w (a1 := 81) (a2 := 81) (j1 := 0) (j2 := 20) (by decide +kernel) (by first | decide | exact ⟨by decide, by decide⟩) (by first | omega | exact ⟨by omega, by omega⟩) eh15
                    refine zwW_p [(1, 0, 2)] (q := 109) (ls' := [(2, 37), (0, a), (0, b), (0, v12)]) (st' := [(2, 37)]) (by decide +kernel) rfl ?_
                    refine zwW_gc Ih15 (kd := 13) (bn := 23) (n := 97) (c := 82) (nx := 112) (by decide +kernel) ?_
                    refine zwW_p [(1, 3, 0), (1, 2, 0), (0, 10, 0)] (q := 116) (ls' := [(2, 37), (0, a), (0, b), (0, v12)]) (st' := [(0, 10), (0, b), (0, v12), (2, 82)]) (by decide +kernel) rfl ?_
                    refine zwW_div (nx := 117) (by decide +kernel) (by omega) (by omega) (by omega) ?_
                    refine zwW_p [(0, 10, 0)] (q := 119) (ls' := [(2, 37), (0, a), (0, b), (0, v12)]) (st' := [(0, 10), (0, (b / 10)), (0, v12), (2, 82)]) (by decide +kernel) rfl ?_
                    refine zwW_rem (nx := 120) (by decide +kernel) (by omega) (by omega) ?_
                    refine zwW_as Ih15 (a1 := 82) (a2 := 82) (n := 20) (lo := 0) (hi := 5) (nx := 121) (by decide +kernel) (by first | decide | exact ⟨by decide, by decide⟩) (by first | omega | exact ⟨by omega, by omega⟩) (by first | omega | exact ⟨by omega, by omega⟩) ?_
                    intro h16 eh16 Ih16
                    have th16_37_2 : fld h16 37 2 = fld h15 37 2 := by rw [eh16]; exact fld_wr (by omega)
                    have Ah16_79 : ∀ j : Nat, fld h16 79 j = if j = v12.toNat then a else fld h 79 j := fun j => by rw [eh16]; exact (fld_wr (by omega)).trans (Ah15_79 j)
                    have Ah16_80 : ∀ j : Nat, fld h16 80 j = if j = v12.toNat then (b / 1000) else fld h 80 j := fun j => by rw [eh16]; exact (fld_wr (by omega)).trans (Ah15_80 j)
                    have Ah16_81 : ∀ j : Nat, fld h16 81 j = if j = v12.toNat then ((b / 100) % 10) else fld h 81 j := fun j => by rw [eh16]; exact (fld_wr (by omega)).trans (Ah15_81 j)
                    have Ah16_82 : ∀ j : Nat, fld h16 82 j = if j = v12.toNat then ((b / 10) % 10) else fld h 82 j := by
                      intro j
                      by_cases hq : j = v12.toNat
                      · rw [if_pos hq, hq, eh16]; exact fld_wr_eq (Ih15.s (a1 := 82) (a2 := 82) (k := 20) (n := 20) (by decide +kernel) (by decide) (by decide)) (by omega)
                      · rw [if_neg hq, eh16]; exact (fld_wr (Or.inr hq)).trans (Ah15_82 j)
                    have Ah16_83 : ∀ j : Nat, fld h16 83 j = fld h 83 j := fun j => by rw [eh16]; exact (fld_wr (by omega)).trans (Ah15_83 j)
                    have Ah16_85 : ∀ j : Nat, fld h16 85 j = fld h 85 j := fun j => by rw [eh16]; exact (fld_wr (by omega)).trans (Ah15_85 j)
                    have Rh16 : zMR ms10 h h16 := Rh15.w (a1 := 82) (a2 := 82) (j1 := 0) (j2 := 20) (by decide +kernel) (by first | decide | exact ⟨by decide, by decide⟩) (by first | omega | exact ⟨by omega, by omega⟩) eh16
                    refine zwW_p [(1, 0, 2)] (q := 122) (ls' := [(2, 37), (0, a), (0, b), (0, v12)]) (st' := [(2, 37)]) (by decide +kernel) rfl ?_
                    refine zwW_gc Ih16 (kd := 13) (bn := 24) (n := 97) (c := 83) (nx := 125) (by decide +kernel) ?_
                    refine zwW_p [(1, 3, 0), (1, 2, 0), (0, 10, 0)] (q := 129) (ls' := [(2, 37), (0, a), (0, b), (0, v12)]) (st' := [(0, 10), (0, b), (0, v12), (2, 83)]) (by decide +kernel) rfl ?_
                    refine zwW_rem (nx := 130) (by decide +kernel) (by omega) (by omega) ?_
                    refine zwW_as Ih16 (a1 := 83) (a2 := 83) (n := 20) (lo := 0) (hi := 9) (nx := 131) (by decide +kernel) (by first | decide | exact ⟨by decide, by decide⟩) (by first | omega | exact ⟨by omega, by omega⟩) (by first | omega | exact ⟨by omega, by omega⟩) ?_
                    intro h17 eh17 Ih17
                    have th17_37_2 : fld h17 37 2 = fld h16 37 2 := by rw [eh17]; exact fld_wr (by omega)
                    have Ah17_79 : ∀ j : Nat, fld h17 79 j = if j = v12.toNat then a else fld h 79 j := fun j => by rw [eh17]; exact (fld_wr (by omega)).trans (Ah16_79 j)
                    have Ah17_80 : ∀ j : Nat, fld h17 80 j = if j = v12.toNat then (b / 1000) else fld h 80 j := fun j => by rw [eh17]; exact (fld_wr (by omega)).trans (Ah16_80 j)
                    have Ah17_81 : ∀ j : Nat, fld h17 81 j = if j = v12.toNat then ((b / 100) % 10) else fld h 81 j := fun j => by rw [eh17]; exact (fld_wr (by omega)).trans (Ah16_81 j)
                    have Ah17_82 : ∀ j : Nat, fld h17 82 j = if j = v12.toNat then ((b / 10) % 10) else fld h 82 j := fun j => by rw [eh17]; exact (fld_wr (by omega)).trans (Ah16_82 j)
                    have Ah17_83 : ∀ j : Nat, fld h17 83 j = if j = v12.toNat then (b % 10) else fld h 83 j := by
                      intro j
                      by_cases hq : j = v12.toNat
                      · rw [if_pos hq, hq, eh17]; exact fld_wr_eq (Ih16.s (a1 := 83) (a2 := 83) (k := 20) (n := 20) (by decide +kernel) (by decide) (by decide)) (by omega)
                      · rw [if_neg hq, eh17]; exact (fld_wr (Or.inr hq)).trans (Ah16_83 j)
                    have Ah17_85 : ∀ j : Nat, fld h17 85 j = fld h 85 j := fun j => by rw [eh17]; exact (fld_wr (by omega)).trans (Ah16_85 j)
                    have Rh17 : zMR ms10 h h17 := Rh16.w (a1 := 83) (a2 := 83) (j1 := 0) (j2 := 20) (by decide +kernel) (by first | decide | exact ⟨by decide, by decide⟩) (by first | omega | exact ⟨by omega, by omega⟩) eh17
                    refine zwW_p [(1, 0, 2)] (q := 132) (ls' := [(2, 37), (0, a), (0, b), (0, v12)]) (st' := [(2, 37)]) (by decide +kernel) rfl ?_
                    refine zwW_gc Ih17 (kd := 13) (bn := 26) (n := 97) (c := 85) (nx := 135) (by decide +kernel) ?_
                    refine zwW_p [(1, 3, 0), (0, 10, 0)] (q := 138) (ls' := [(2, 37), (0, a), (0, b), (0, v12)]) (st' := [(0, 10), (0, v12), (2, 85)]) (by decide +kernel) rfl ?_
                    refine zwW_as Ih17 (a1 := 85) (a2 := 85) (n := 20) (lo := 0) (hi := 60) (nx := 139) (by decide +kernel) (by first | decide | exact ⟨by decide, by decide⟩) (by first | omega | exact ⟨by omega, by omega⟩) (by first | decide | exact ⟨by decide, by decide⟩) ?_
                    intro h18 eh18 Ih18
                    have th18_37_2 : fld h18 37 2 = fld h17 37 2 := by rw [eh18]; exact fld_wr (by omega)
                    have Ah18_79 : ∀ j : Nat, fld h18 79 j = if j = v12.toNat then a else fld h 79 j := fun j => by rw [eh18]; exact (fld_wr (by omega)).trans (Ah17_79 j)
                    have Ah18_80 : ∀ j : Nat, fld h18 80 j = if j = v12.toNat then (b / 1000) else fld h 80 j := fun j => by rw [eh18]; exact (fld_wr (by omega)).trans (Ah17_80 j)
                    have Ah18_81 : ∀ j : Nat, fld h18 81 j = if j = v12.toNat then ((b / 100) % 10) else fld h 81 j := fun j => by rw [eh18]; exact (fld_wr (by omega)).trans (Ah17_81 j)
                    have Ah18_82 : ∀ j : Nat, fld h18 82 j = if j = v12.toNat then ((b / 10) % 10) else fld h 82 j := fun j => by rw [eh18]; exact (fld_wr (by omega)).trans (Ah17_82 j)
                    have Ah18_83 : ∀ j : Nat, fld h18 83 j = if j = v12.toNat then (b % 10) else fld h 83 j := fun j => by rw [eh18]; exact (fld_wr (by omega)).trans (Ah17_83 j)
                    have Ah18_85 : ∀ j : Nat, fld h18 85 j = if j = v12.toNat then 10 else fld h 85 j := by
                      intro j
                      by_cases hq : j = v12.toNat
                      · rw [if_pos hq, hq, eh18]; exact fld_wr_eq (Ih17.s (a1 := 85) (a2 := 85) (k := 20) (n := 20) (by decide +kernel) (by decide) (by decide)) (by omega)
                      · rw [if_neg hq, eh18]; exact (fld_wr (Or.inr hq)).trans (Ah17_85 j)
                    have Rh18 : zMR ms10 h h18 := Rh17.w (a1 := 85) (a2 := 85) (j1 := 0) (j2 := 20) (by decide +kernel) (by first | decide | exact ⟨by decide, by decide⟩) (by first | omega | exact ⟨by omega, by omega⟩) eh18
                    refine zwW_p [(1, 0, 2), (12, 0, 0)] (q := 141) (ls' := [(2, 37), (0, a), (0, b), (0, v12)]) (st' := [(2, 37), (2, 37)]) (by decide +kernel) rfl ?_
                    refine zwW_gs Ih18 (kd := 13) (bn := 2) (n := 97) (t := 0) (lo := 0) (hi := 20) (nx := 144) (by decide +kernel) ?_
                    intro v19 ev19 lv19 uv19
                    refine zwW_p [(0, 1, 0)] (q := 145) (ls' := [(2, 37), (0, a), (0, b), (0, v12)]) (st' := [(0, 1), (0, v19), (2, 37)]) (by decide +kernel) rfl ?_
                    refine zwW_add (nx := 146) (by decide +kernel) (by first | omega | exact ⟨by omega, by omega⟩) ?_
                    refine zwW_ps Ih18 (kd := 13) (bn := 2) (n := 97) (lo := 0) (hi := 20) (nx := 149) (by decide +kernel) (by first | omega | exact ⟨by omega, by omega⟩) ?_
                    intro h20 eh20 Ih20
                    have th20_37_2 : fld h20 37 2 = (v19 + 1) := by rw [eh20]; exact fld_wr_eq (Ih18.s (a1 := 37) (a2 := 37) (k := 13) (n := 97) (by decide +kernel) (by decide) (by decide)) (by decide)
                    have Ah20_79 : ∀ j : Nat, fld h20 79 j = if j = v12.toNat then a else fld h 79 j := fun j => by rw [eh20]; exact (fld_wr (by omega)).trans (Ah18_79 j)
                    have Ah20_80 : ∀ j : Nat, fld h20 80 j = if j = v12.toNat then (b / 1000) else fld h 80 j := fun j => by rw [eh20]; exact (fld_wr (by omega)).trans (Ah18_80 j)
                    have Ah20_81 : ∀ j : Nat, fld h20 81 j = if j = v12.toNat then ((b / 100) % 10) else fld h 81 j := fun j => by rw [eh20]; exact (fld_wr (by omega)).trans (Ah18_81 j)
                    have Ah20_82 : ∀ j : Nat, fld h20 82 j = if j = v12.toNat then ((b / 10) % 10) else fld h 82 j := fun j => by rw [eh20]; exact (fld_wr (by omega)).trans (Ah18_82 j)
                    have Ah20_83 : ∀ j : Nat, fld h20 83 j = if j = v12.toNat then (b % 10) else fld h 83 j := fun j => by rw [eh20]; exact (fld_wr (by omega)).trans (Ah18_83 j)
                    have Ah20_85 : ∀ j : Nat, fld h20 85 j = if j = v12.toNat then 10 else fld h 85 j := fun j => by rw [eh20]; exact (fld_wr (by omega)).trans (Ah18_85 j)
                    have Rh20 : zMR ms10 h h20 := Rh18.w (a1 := 37) (a2 := 37) (j1 := 2) (j2 := 3) (by decide +kernel) (by first | decide | exact ⟨by decide, by decide⟩) (by first | decide | exact ⟨by decide, by decide⟩) eh20
                    refine zwW_p [(1, 3, 0)] (q := 150) (ls' := [(2, 37), (0, a), (0, b), (0, v12)]) (st' := [(0, v12)]) (by decide +kernel) rfl ?_
                    refine zwW_ret (nx := 151) (a := 0) (b := 0) (by decide +kernel) rfl (Or.inl rfl) ?_
                    refine ⟨Ih20, Rh20, by omega, Or.inl ⟨by omega, by omega, by omega, by intro j; first | exact Ah20_79 j | (rw [Ah20_79 j]; split <;> first | omega | (split <;> omega)), by intro j; first | exact Ah20_80 j | (rw [Ah20_80 j]; split <;> first | omega | (split <;> omega)), by intro j; first | exact Ah20_81 j | (rw [Ah20_81 j]; split <;> first | omega | (split <;> omega)), by intro j; first | exact Ah20_82 j | (rw [Ah20_82 j]; split <;> first | omega | (split <;> omega)), by intro j; first | exact Ah20_83 j | (rw [Ah20_83 j]; split <;> first | omega | (split <;> omega)), by intro j; first | exact Ah20_85 j | (rw [Ah20_85 j]; split <;> first | omega | (split <;> omega))⟩, fun j hj => ?_⟩
                    rw [Ah20_85 j, Ah20_83 j]
                    by_cases hq : (j : Int) = fld h 37 2
                    · rw [if_pos (by omega), if_pos (by omega)]; omega
                    · rw [if_neg (by omega), if_neg (by omega)]; exact hA j (by omega)
                  · refine zwW_p [(0, -1, 0)] (q := 71) (ls' := [(2, 37), (0, a), (0, b), (9, 0)]) (st' := [(0, -1)]) (by decide +kernel) rfl ?_
                    refine zwW_ret (nx := 72) (a := 0) (b := 0) (by decide +kernel) rfl (Or.inl rfl) ?_
                    exact ⟨I, R, by omega, Or.inr ⟨by omega, rfl, by omega⟩, hA⟩
  · refine zwif_eq (q := 70) (nx := 8) (by decide +kernel) (fun c21 => ?_) (fun c21 => ?_)
    · refine zwW_p [(0, -1, 0)] (q := 71) (ls' := [(2, 37), (0, a), (0, b), (9, 0)]) (st' := [(0, -1)]) (by decide +kernel) rfl ?_
      refine zwW_ret (nx := 72) (a := 0) (b := 0) (by decide +kernel) rfl (Or.inl rfl) ?_
      exact ⟨I, R, by omega, Or.inr ⟨by omega, rfl, by omega⟩, hA⟩
    · exfalso; omega
def ms12 : Zms := [(89, 89, 0, 20), (90, 90, 0, 20), (91, 91, 0, 20)]
-- WheelLandModel.loom(III)Z
theorem m12 {sc : List Int} (h : Hp) (I : zI h) (a b c : Int) (q_b : -2147483648 ≤ b ∧ b ≤ 2147483647) : zwC sc 3 12 [(2, 37), (0, a), (0, b), (0, c)] h (zwRt 0 (fun x g => zI g ∧ zMR ms12 h g ∧ (-2147483648 ≤ x ∧ x ≤ 2147483647) ∧ (x = 0 ∨ x = 1) ∧ (((x = 1) ∧ (0 ≤ a ∧ a < fld h 37 2 ∧ fld h 91 a.toNat ≤ 0 ∧ 0 ≤ b ∧ 4 ≤ b / 100 ∧ b / 100 ≤ b % 100 ∧ b % 100 ≤ 60 ∧ 1 ≤ c ∧ c ≤ 40) ∧ (∀ j : Nat, fld g 89 j = if j = a.toNat then b / 100 else fld h 89 j) ∧ (∀ j : Nat, fld g 90 j = if j = a.toNat then b % 100 else fld h 90 j) ∧ (∀ j : Nat, fld g 91 j = if j = a.toNat then c else fld h 91 j)) ∨ ((x = 0) ∧ (g = h) ∧ (a < 0 ∨ fld h 37 2 ≤ a ∨ 0 < fld h 91 a.toNat ∨ b < 0 ∨ b / 100 < 4 ∨ b % 100 < b / 100 ∨ 60 < b % 100 ∨ c < 1 ∨ 40 < c))))) := by
  refine zwC_of (D := 2) 4 (by decide +kernel) rfl (ls := [(2, 37), (0, a), (0, b), (0, c)]) rfl ?_
  have R : zMR ms12 h h := zMR.rf _ _
  refine zwW_p [(1, 0, 2), (1, 1, 0)] (q := 2) (ls' := [(2, 37), (0, a), (0, b), (0, c)]) (st' := [(0, a), (2, 37)]) (by decide +kernel) rfl ?_
  refine zwW_cm I (op := 60) (k' := 111) (n := 1) (kd := 13) (m := 97) (nx := 5) (r := 37) (tl := [(0, a)]) (st' := []) (by decide +kernel) rfl (by decide +kernel) rfl (m111 h I a) ?_
  rintro x _ ⟨rfl, ⟨rfl, c1⟩ | ⟨rfl, c1⟩⟩
  · refine zwif_eq (q := 68) (nx := 8) (by decide +kernel) (fun c2 => ?_) (fun c2 => ?_)
    · exfalso; omega
    · refine zwW_p [(1, 0, 2), (1, 1, 0)] (q := 10) (ls' := [(2, 37), (0, a), (0, b), (0, c)]) (st' := [(0, a), (2, 37)]) (by decide +kernel) rfl ?_
      refine zwW_cm I (op := 60) (k' := 112) (n := 1) (kd := 13) (m := 97) (nx := 13) (r := 37) (tl := [(0, a)]) (st' := []) (by decide +kernel) rfl (by decide +kernel) rfl (m112 h I a (by omega) (by omega)) ?_
      rintro x _ ⟨rfl, ⟨rfl, c3⟩ | ⟨rfl, c3⟩⟩
      · refine zwif_ne (q := 68) (nx := 16) (by decide +kernel) (fun c4 => ?_) (fun c4 => ?_)
        · refine zwW_p [(0, 0, 0)] (q := 69) (ls' := [(2, 37), (0, a), (0, b), (0, c)]) (st' := [(0, 0)]) (by decide +kernel) rfl ?_
          refine zwW_ret (nx := 70) (a := 1) (b := 0) (by decide +kernel) rfl (Or.inr (Or.inl ⟨rfl, Or.inl rfl⟩)) ?_
          exact ⟨I, R, by omega, by omega, by exact Or.inr ⟨by omega, by rfl, by omega⟩⟩
        · exfalso; omega
      · refine zwif_ne (q := 68) (nx := 16) (by decide +kernel) (fun c5 => ?_) (fun c5 => ?_)
        · exfalso; omega
        · refine zwW_p [(1, 2, 0)] (q := 17) (ls' := [(2, 37), (0, a), (0, b), (0, c)]) (st' := [(0, b)]) (by decide +kernel) rfl ?_
          refine zwif_lt (q := 68) (nx := 20) (by decide +kernel) (fun c6 => ?_) (fun c6 => ?_)
          · refine zwW_p [(0, 0, 0)] (q := 69) (ls' := [(2, 37), (0, a), (0, b), (0, c)]) (st' := [(0, 0)]) (by decide +kernel) rfl ?_
            refine zwW_ret (nx := 70) (a := 1) (b := 0) (by decide +kernel) rfl (Or.inr (Or.inl ⟨rfl, Or.inl rfl⟩)) ?_
            exact ⟨I, R, by omega, by omega, by exact Or.inr ⟨by omega, by rfl, by omega⟩⟩
          · refine zwW_p [(1, 2, 0), (0, 100, 0)] (q := 23) (ls' := [(2, 37), (0, a), (0, b), (0, c)]) (st' := [(0, 100), (0, b)]) (by decide +kernel) rfl ?_
            refine zwW_div (nx := 24) (by decide +kernel) (by omega) (by omega) (by omega) ?_
            refine zwW_p [(7, 0, 0), (0, 4, 1), (0, 60, 1)] (q := 31) (ls' := [(2, 37), (0, a), (0, b), (0, c)]) (st' := [(1, 60), (1, 4), (1, (b / 100))]) (by decide +kernel) rfl ?_
            refine zwW_cs (k' := 101) (n := 3) (nx := 34) (as := [(1, (b / 100)), (1, 4), (1, 60)]) (st' := []) (by decide +kernel) rfl (m101 h (b / 100) 4 60) rfl ?_
            rintro x _ ⟨rfl, ⟨rfl, c7⟩ | ⟨rfl, c7⟩⟩
            · refine zwif_eq (q := 68) (nx := 37) (by decide +kernel) (fun c8 => ?_) (fun c8 => ?_)
              · exfalso; omega
              · refine zwW_p [(1, 2, 0), (0, 100, 0)] (q := 40) (ls' := [(2, 37), (0, a), (0, b), (0, c)]) (st' := [(0, 100), (0, b)]) (by decide +kernel) rfl ?_
                refine zwW_rem (nx := 41) (by decide +kernel) (by omega) (by omega) ?_
                refine zwW_p [(7, 0, 0), (1, 2, 0), (0, 100, 0)] (q := 45) (ls' := [(2, 37), (0, a), (0, b), (0, c)]) (st' := [(0, 100), (0, b), (1, (b % 100))]) (by decide +kernel) rfl ?_
                refine zwW_div (nx := 46) (by decide +kernel) (by omega) (by omega) (by omega) ?_
                refine zwW_p [(7, 0, 0), (0, 60, 1)] (q := 50) (ls' := [(2, 37), (0, a), (0, b), (0, c)]) (st' := [(1, 60), (1, (b / 100)), (1, (b % 100))]) (by decide +kernel) rfl ?_
                refine zwW_cs (k' := 101) (n := 3) (nx := 53) (as := [(1, (b % 100)), (1, (b / 100)), (1, 60)]) (st' := []) (by decide +kernel) rfl (m101 h (b % 100) (b / 100) 60) rfl ?_
                rintro x _ ⟨rfl, ⟨rfl, c9⟩ | ⟨rfl, c9⟩⟩
                · refine zwif_eq (q := 68) (nx := 56) (by decide +kernel) (fun c10 => ?_) (fun c10 => ?_)
                  · exfalso; omega
                  · refine zwW_p [(1, 3, 0), (7, 0, 0), (0, 1, 1), (0, 40, 1)] (q := 62) (ls' := [(2, 37), (0, a), (0, b), (0, c)]) (st' := [(1, 40), (1, 1), (1, c)]) (by decide +kernel) rfl ?_
                    refine zwW_cs (k' := 101) (n := 3) (nx := 65) (as := [(1, c), (1, 1), (1, 40)]) (st' := []) (by decide +kernel) rfl (m101 h c 1 40) rfl ?_
                    rintro x _ ⟨rfl, ⟨rfl, c11⟩ | ⟨rfl, c11⟩⟩
                    · refine zwif_ne (q := 70) (nx := 68) (by decide +kernel) (fun c12 => ?_) (fun c12 => ?_)
                      · refine zwW_p [(1, 0, 2)] (q := 71) (ls' := [(2, 37), (0, a), (0, b), (0, c)]) (st' := [(2, 37)]) (by decide +kernel) rfl ?_
                        refine zwW_gc I (kd := 13) (bn := 30) (n := 97) (c := 89) (nx := 74) (by decide +kernel) ?_
                        refine zwW_p [(1, 1, 0), (1, 2, 0), (0, 100, 0)] (q := 78) (ls' := [(2, 37), (0, a), (0, b), (0, c)]) (st' := [(0, 100), (0, b), (0, a), (2, 89)]) (by decide +kernel) rfl ?_
                        refine zwW_div (nx := 79) (by decide +kernel) (by omega) (by omega) (by omega) ?_
                        refine zwW_as I (a1 := 89) (a2 := 89) (n := 20) (lo := -2147483648) (hi := 2147483647) (nx := 80) (by decide +kernel) (by first | decide | exact ⟨by decide, by decide⟩) (by first | omega | exact ⟨by omega, by omega⟩) (by first | omega | exact ⟨by omega, by omega⟩) ?_
                        intro h13 eh13 Ih13
                        have Ah13_89 : ∀ j : Nat, fld h13 89 j = if j = a.toNat then (b / 100) else fld h 89 j := by
                          intro j
                          by_cases hq : j = a.toNat
                          · rw [if_pos hq, hq, eh13]; exact fld_wr_eq (I.s (a1 := 89) (a2 := 89) (k := 20) (n := 20) (by decide +kernel) (by decide) (by decide)) (by omega)
                          · rw [if_neg hq, eh13]; exact (fld_wr (Or.inr hq)).trans rfl
                        have Ah13_90 : ∀ j : Nat, fld h13 90 j = fld h 90 j := fun j => by rw [eh13]; exact (fld_wr (by omega)).trans rfl
                        have Ah13_91 : ∀ j : Nat, fld h13 91 j = fld h 91 j := fun j => by rw [eh13]; exact (fld_wr (by omega)).trans rfl
                        have Rh13 : zMR ms12 h h13 := R.w (a1 := 89) (a2 := 89) (j1 := 0) (j2 := 20) (by decide +kernel) (by first | decide | exact ⟨by decide, by decide⟩) (by first | omega | exact ⟨by omega, by omega⟩) eh13
                        refine zwW_p [(1, 0, 2)] (q := 81) (ls' := [(2, 37), (0, a), (0, b), (0, c)]) (st' := [(2, 37)]) (by decide +kernel) rfl ?_
                        refine zwW_gc Ih13 (kd := 13) (bn := 31) (n := 97) (c := 90) (nx := 84) (by decide +kernel) ?_
                        refine zwW_p [(1, 1, 0), (1, 2, 0), (0, 100, 0)] (q := 88) (ls' := [(2, 37), (0, a), (0, b), (0, c)]) (st' := [(0, 100), (0, b), (0, a), (2, 90)]) (by decide +kernel) rfl ?_
                        refine zwW_rem (nx := 89) (by decide +kernel) (by omega) (by omega) ?_
                        refine zwW_as Ih13 (a1 := 90) (a2 := 90) (n := 20) (lo := -2147483648) (hi := 2147483647) (nx := 90) (by decide +kernel) (by first | decide | exact ⟨by decide, by decide⟩) (by first | omega | exact ⟨by omega, by omega⟩) (by first | omega | exact ⟨by omega, by omega⟩) ?_
                        intro h14 eh14 Ih14
                        have Ah14_89 : ∀ j : Nat, fld h14 89 j = if j = a.toNat then (b / 100) else fld h 89 j := fun j => by rw [eh14]; exact (fld_wr (by omega)).trans (Ah13_89 j)
                        have Ah14_90 : ∀ j : Nat, fld h14 90 j = if j = a.toNat then (b % 100) else fld h 90 j := by
                          intro j
                          by_cases hq : j = a.toNat
                          · rw [if_pos hq, hq, eh14]; exact fld_wr_eq (Ih13.s (a1 := 90) (a2 := 90) (k := 20) (n := 20) (by decide +kernel) (by decide) (by decide)) (by omega)
                          · rw [if_neg hq, eh14]; exact (fld_wr (Or.inr hq)).trans (Ah13_90 j)
                        have Ah14_91 : ∀ j : Nat, fld h14 91 j = fld h 91 j := fun j => by rw [eh14]; exact (fld_wr (by omega)).trans (Ah13_91 j)
                        have Rh14 : zMR ms12 h h14 := Rh13.w (a1 := 90) (a2 := 90) (j1 := 0) (j2 := 20) (by decide +kernel) (by first | decide | exact ⟨by decide, by decide⟩) (by first | omega | exact ⟨by omega, by omega⟩) eh14
                        refine zwW_p [(1, 0, 2)] (q := 91) (ls' := [(2, 37), (0, a), (0, b), (0, c)]) (st' := [(2, 37)]) (by decide +kernel) rfl ?_
                        refine zwW_gc Ih14 (kd := 13) (bn := 32) (n := 97) (c := 91) (nx := 94) (by decide +kernel) ?_
                        refine zwW_p [(1, 1, 0), (1, 3, 0)] (q := 96) (ls' := [(2, 37), (0, a), (0, b), (0, c)]) (st' := [(0, c), (0, a), (2, 91)]) (by decide +kernel) rfl ?_
                        refine zwW_as Ih14 (a1 := 91) (a2 := 91) (n := 20) (lo := -2147483648) (hi := 2147483647) (nx := 97) (by decide +kernel) (by first | decide | exact ⟨by decide, by decide⟩) (by first | omega | exact ⟨by omega, by omega⟩) (by first | omega | exact ⟨by omega, by omega⟩) ?_
                        intro h15 eh15 Ih15
                        have Ah15_89 : ∀ j : Nat, fld h15 89 j = if j = a.toNat then (b / 100) else fld h 89 j := fun j => by rw [eh15]; exact (fld_wr (by omega)).trans (Ah14_89 j)
                        have Ah15_90 : ∀ j : Nat, fld h15 90 j = if j = a.toNat then (b % 100) else fld h 90 j := fun j => by rw [eh15]; exact (fld_wr (by omega)).trans (Ah14_90 j)
                        have Ah15_91 : ∀ j : Nat, fld h15 91 j = if j = a.toNat then c else fld h 91 j := by
                          intro j
                          by_cases hq : j = a.toNat
                          · rw [if_pos hq, hq, eh15]; exact fld_wr_eq (Ih14.s (a1 := 91) (a2 := 91) (k := 20) (n := 20) (by decide +kernel) (by decide) (by decide)) (by omega)
                          · rw [if_neg hq, eh15]; exact (fld_wr (Or.inr hq)).trans (Ah14_91 j)
                        have Rh15 : zMR ms12 h h15 := Rh14.w (a1 := 91) (a2 := 91) (j1 := 0) (j2 := 20) (by decide +kernel) (by first | decide | exact ⟨by decide, by decide⟩) (by first | omega | exact ⟨by omega, by omega⟩) eh15
                        refine zwW_p [(0, 1, 0)] (q := 98) (ls' := [(2, 37), (0, a), (0, b), (0, c)]) (st' := [(0, 1)]) (by decide +kernel) rfl ?_
                        refine zwW_ret (nx := 99) (a := 1) (b := 0) (by decide +kernel) rfl (Or.inr (Or.inl ⟨rfl, Or.inr rfl⟩)) ?_
                        exact ⟨Ih15, Rh15, by omega, by omega, by exact Or.inl ⟨by omega, by omega, by intro j; first | exact Ah15_89 j | (rw [Ah15_89 j]; split <;> first | omega | (split <;> omega)), by intro j; first | exact Ah15_90 j | (rw [Ah15_90 j]; split <;> first | omega | (split <;> omega)), by intro j; first | exact Ah15_91 j | (rw [Ah15_91 j]; split <;> first | omega | (split <;> omega))⟩⟩
                      · exfalso; omega
                    · refine zwif_ne (q := 70) (nx := 68) (by decide +kernel) (fun c16 => ?_) (fun c16 => ?_)
                      · exfalso; omega
                      · refine zwW_p [(0, 0, 0)] (q := 69) (ls' := [(2, 37), (0, a), (0, b), (0, c)]) (st' := [(0, 0)]) (by decide +kernel) rfl ?_
                        refine zwW_ret (nx := 70) (a := 1) (b := 0) (by decide +kernel) rfl (Or.inr (Or.inl ⟨rfl, Or.inl rfl⟩)) ?_
                        exact ⟨I, R, by omega, by omega, by exact Or.inr ⟨by omega, by rfl, by omega⟩⟩
                · refine zwif_eq (q := 68) (nx := 56) (by decide +kernel) (fun c17 => ?_) (fun c17 => ?_)
                  · refine zwW_p [(0, 0, 0)] (q := 69) (ls' := [(2, 37), (0, a), (0, b), (0, c)]) (st' := [(0, 0)]) (by decide +kernel) rfl ?_
                    refine zwW_ret (nx := 70) (a := 1) (b := 0) (by decide +kernel) rfl (Or.inr (Or.inl ⟨rfl, Or.inl rfl⟩)) ?_
                    exact ⟨I, R, by omega, by omega, by exact Or.inr ⟨by omega, by rfl, by omega⟩⟩
                  · exfalso; omega
            · refine zwif_eq (q := 68) (nx := 37) (by decide +kernel) (fun c18 => ?_) (fun c18 => ?_)
              · refine zwW_p [(0, 0, 0)] (q := 69) (ls' := [(2, 37), (0, a), (0, b), (0, c)]) (st' := [(0, 0)]) (by decide +kernel) rfl ?_
                refine zwW_ret (nx := 70) (a := 1) (b := 0) (by decide +kernel) rfl (Or.inr (Or.inl ⟨rfl, Or.inl rfl⟩)) ?_
                exact ⟨I, R, by omega, by omega, by exact Or.inr ⟨by omega, by rfl, by omega⟩⟩
              · exfalso; omega
  · refine zwif_eq (q := 68) (nx := 8) (by decide +kernel) (fun c19 => ?_) (fun c19 => ?_)
    · refine zwW_p [(0, 0, 0)] (q := 69) (ls' := [(2, 37), (0, a), (0, b), (0, c)]) (st' := [(0, 0)]) (by decide +kernel) rfl ?_
      refine zwW_ret (nx := 70) (a := 1) (b := 0) (by decide +kernel) rfl (Or.inr (Or.inl ⟨rfl, Or.inl rfl⟩)) ?_
      exact ⟨I, R, by omega, by omega, by exact Or.inr ⟨by omega, by rfl, by omega⟩⟩
    · exfalso; omega
def ms14 : Zms := [(85, 85, 0, 20)]
-- WheelLandModel.aim(II)Z
theorem m14 {sc : List Int} (h : Hp) (I : zI h) (a b : Int) (hA : zAM h) : zwC sc 3 14 [(2, 37), (0, a), (0, b)] h (zwRt 0 (fun x g => zI g ∧ zMR ms14 h g ∧ (-2147483648 ≤ x ∧ x ≤ 2147483647) ∧ ((x = 1 ∧ (0 ≤ a ∧ a < fld h 37 2 ∧ 4 ≤ b ∧ b ≤ 60) ∧ (∀ j : Nat, fld g 85 j = if j = a.toNat then b else fld h 85 j)) ∨ (x = 0 ∧ g = h ∧ (a < 0 ∨ fld h 37 2 ≤ a ∨ b < 4 ∨ 60 < b))) ∧ (zAM g))) := by
  refine zwC_of (D := 2) 3 (by decide +kernel) rfl (ls := [(2, 37), (0, a), (0, b)]) rfl ?_
  have R : zMR ms14 h h := zMR.rf _ _
  refine zwW_p [(1, 0, 2), (1, 1, 0)] (q := 2) (ls' := [(2, 37), (0, a), (0, b)]) (st' := [(0, a), (2, 37)]) (by decide +kernel) rfl ?_
  refine zwW_cm I (op := 60) (k' := 111) (n := 1) (kd := 13) (m := 97) (nx := 5) (r := 37) (tl := [(0, a)]) (st' := []) (by decide +kernel) rfl (by decide +kernel) rfl (m111 h I a) ?_
  rintro x _ ⟨rfl, ⟨rfl, c1⟩ | ⟨rfl, c1⟩⟩
  · refine zwif_eq (q := 22) (nx := 8) (by decide +kernel) (fun c2 => ?_) (fun c2 => ?_)
    · exfalso; omega
    · refine zwW_p [(1, 2, 0), (7, 0, 0), (0, 4, 1), (0, 60, 1)] (q := 16) (ls' := [(2, 37), (0, a), (0, b)]) (st' := [(1, 60), (1, 4), (1, b)]) (by decide +kernel) rfl ?_
      refine zwW_cs (k' := 101) (n := 3) (nx := 19) (as := [(1, b), (1, 4), (1, 60)]) (st' := []) (by decide +kernel) rfl (m101 h b 4 60) rfl ?_
      rintro x _ ⟨rfl, ⟨rfl, c3⟩ | ⟨rfl, c3⟩⟩
      · refine zwif_ne (q := 24) (nx := 22) (by decide +kernel) (fun c4 => ?_) (fun c4 => ?_)
        · refine zwW_p [(1, 0, 2)] (q := 25) (ls' := [(2, 37), (0, a), (0, b)]) (st' := [(2, 37)]) (by decide +kernel) rfl ?_
          refine zwW_gc I (kd := 13) (bn := 26) (n := 97) (c := 85) (nx := 28) (by decide +kernel) ?_
          refine zwW_p [(1, 1, 0), (1, 2, 0)] (q := 30) (ls' := [(2, 37), (0, a), (0, b)]) (st' := [(0, b), (0, a), (2, 85)]) (by decide +kernel) rfl ?_
          refine zwW_as I (a1 := 85) (a2 := 85) (n := 20) (lo := 0) (hi := 60) (nx := 31) (by decide +kernel) (by first | decide | exact ⟨by decide, by decide⟩) (by first | omega | exact ⟨by omega, by omega⟩) (by first | omega | exact ⟨by omega, by omega⟩) ?_
          intro h5 eh5 Ih5
          have th5_37_2 : fld h5 37 2 = fld h 37 2 := by rw [eh5]; exact fld_wr (by omega)
          have Ah5_83 : ∀ j : Nat, fld h5 83 j = fld h 83 j := fun j => by rw [eh5]; exact (fld_wr (by omega)).trans rfl
          have Ah5_85 : ∀ j : Nat, fld h5 85 j = if j = a.toNat then b else fld h 85 j := by
            intro j
            by_cases hq : j = a.toNat
            · rw [if_pos hq, hq, eh5]; exact fld_wr_eq (I.s (a1 := 85) (a2 := 85) (k := 20) (n := 20) (by decide +kernel) (by decide) (by decide)) (by omega)
            · rw [if_neg hq, eh5]; exact (fld_wr (Or.inr hq)).trans rfl
          have Rh5 : zMR ms14 h h5 := R.w (a1 := 85) (a2 := 85) (j1 := 0) (j2 := 20) (by decide +kernel) (by first | decide | exact ⟨by decide, by decide⟩) (by first | omega | exact ⟨by omega, by omega⟩) eh5
          refine zwW_p [(0, 1, 0)] (q := 32) (ls' := [(2, 37), (0, a), (0, b)]) (st' := [(0, 1)]) (by decide +kernel) rfl ?_
          refine zwW_ret (nx := 33) (a := 1) (b := 0) (by decide +kernel) rfl (Or.inr (Or.inl ⟨rfl, Or.inr rfl⟩)) ?_
          refine ⟨Ih5, Rh5, by omega, Or.inl ⟨by omega, by omega, by intro j; first | exact Ah5_85 j | (rw [Ah5_85 j]; split <;> first | omega | (split <;> omega))⟩, fun j hj => ?_⟩
          rw [Ah5_85 j, Ah5_83 j]
          have := hA j (by omega)
          split <;> omega
        · exfalso; omega
      · refine zwif_ne (q := 24) (nx := 22) (by decide +kernel) (fun c6 => ?_) (fun c6 => ?_)
        · exfalso; omega
        · refine zwW_p [(0, 0, 0)] (q := 23) (ls' := [(2, 37), (0, a), (0, b)]) (st' := [(0, 0)]) (by decide +kernel) rfl ?_
          refine zwW_ret (nx := 24) (a := 1) (b := 0) (by decide +kernel) rfl (Or.inr (Or.inl ⟨rfl, Or.inl rfl⟩)) ?_
          exact ⟨I, R, by omega, Or.inr ⟨by omega, rfl, by omega⟩, hA⟩
  · refine zwif_eq (q := 22) (nx := 8) (by decide +kernel) (fun c7 => ?_) (fun c7 => ?_)
    · refine zwW_p [(0, 0, 0)] (q := 23) (ls' := [(2, 37), (0, a), (0, b)]) (st' := [(0, 0)]) (by decide +kernel) rfl ?_
      refine zwW_ret (nx := 24) (a := 1) (b := 0) (by decide +kernel) rfl (Or.inr (Or.inl ⟨rfl, Or.inl rfl⟩)) ?_
      exact ⟨I, R, by omega, Or.inr ⟨by omega, rfl, by omega⟩, hA⟩
    · exfalso; omega
def ms16 : Zms := [(84, 84, 0, 20)]
-- WheelLandModel.coins(II)I
theorem m16 {sc : List Int} (h : Hp) (I : zI h) (a b : Int) : zwC sc 3 16 [(2, 37), (0, a), (0, b)] h (zwRt 0 (fun x g => zI g ∧ zMR ms16 h g ∧ (-2147483648 ≤ x ∧ x ≤ 2147483647))) := by
  refine zwC_of (D := 2) 3 (by decide +kernel) rfl (ls := [(2, 37), (0, a), (0, b)]) rfl ?_
  have R : zMR ms16 h h := zMR.rf _ _
  refine zwW_p [(1, 0, 2), (1, 1, 0)] (q := 2) (ls' := [(2, 37), (0, a), (0, b)]) (st' := [(0, a), (2, 37)]) (by decide +kernel) rfl ?_
  refine zwW_cm I (op := 60) (k' := 111) (n := 1) (kd := 13) (m := 97) (nx := 5) (r := 37) (tl := [(0, a)]) (st' := []) (by decide +kernel) rfl (by decide +kernel) rfl (m111 h I a) ?_
  rintro x _ ⟨rfl, ⟨rfl, c1⟩ | ⟨rfl, c1⟩⟩
  · refine zwif_eq (q := 22) (nx := 8) (by decide +kernel) (fun c2 => ?_) (fun c2 => ?_)
    · exfalso; omega
    · refine zwW_p [(1, 2, 0), (7, 0, 0), (0, -9999, 1), (0, 9999, 1)] (q := 16) (ls' := [(2, 37), (0, a), (0, b)]) (st' := [(1, 9999), (1, -9999), (1, b)]) (by decide +kernel) rfl ?_
      refine zwW_cs (k' := 101) (n := 3) (nx := 19) (as := [(1, b), (1, -9999), (1, 9999)]) (st' := []) (by decide +kernel) rfl (m101 h b (-9999) 9999) rfl ?_
      rintro x _ ⟨rfl, ⟨rfl, c3⟩ | ⟨rfl, c3⟩⟩
      · refine zwif_ne (q := 26) (nx := 22) (by decide +kernel) (fun c4 => ?_) (fun c4 => ?_)
        · refine zwW_p [(1, 0, 2)] (q := 27) (ls' := [(2, 37), (0, a), (0, b)]) (st' := [(2, 37)]) (by decide +kernel) rfl ?_
          refine zwW_gc I (kd := 13) (bn := 25) (n := 97) (c := 84) (nx := 30) (by decide +kernel) ?_
          refine zwW_p [(1, 1, 0), (14, 0, 0)] (q := 32) (ls' := [(2, 37), (0, a), (0, b)]) (st' := [(0, a), (2, 84), (0, a), (2, 84)]) (by decide +kernel) rfl ?_
          refine zwW_al I (a1 := 84) (a2 := 84) (kd := 20) (n := 20) (t := 0) (lo := -2147483648) (hi := 2147483647) (nx := 33) (by decide +kernel) (by first | decide | exact ⟨by decide, by decide⟩) (by first | omega | exact ⟨by omega, by omega⟩) ?_
          intro v5 ev5 lv5 uv5
          refine zwW_p [(1, 2, 0)] (q := 34) (ls' := [(2, 37), (0, a), (0, b)]) (st' := [(0, b), (0, v5), (0, a), (2, 84)]) (by decide +kernel) rfl ?_
          refine zwW_adw (nx := 35) (by decide +kernel) ?_
          intro v6 ev6 lv6 uv6
          refine zwW_as I (a1 := 84) (a2 := 84) (n := 20) (lo := -2147483648) (hi := 2147483647) (nx := 36) (by decide +kernel) (by first | decide | exact ⟨by decide, by decide⟩) (by first | omega | exact ⟨by omega, by omega⟩) (by first | omega | exact ⟨by omega, by omega⟩) ?_
          intro h7 eh7 Ih7
          have Rh7 : zMR ms16 h h7 := R.w (a1 := 84) (a2 := 84) (j1 := 0) (j2 := 20) (by decide +kernel) (by first | decide | exact ⟨by decide, by decide⟩) (by first | omega | exact ⟨by omega, by omega⟩) eh7
          refine zwW_p [(1, 0, 2)] (q := 37) (ls' := [(2, 37), (0, a), (0, b)]) (st' := [(2, 37)]) (by decide +kernel) rfl ?_
          refine zwW_gc Ih7 (kd := 13) (bn := 25) (n := 97) (c := 84) (nx := 40) (by decide +kernel) ?_
          refine zwW_p [(1, 1, 0)] (q := 41) (ls' := [(2, 37), (0, a), (0, b)]) (st' := [(0, a), (2, 84)]) (by decide +kernel) rfl ?_
          refine zwW_al Ih7 (a1 := 84) (a2 := 84) (kd := 20) (n := 20) (t := 0) (lo := -2147483648) (hi := 2147483647) (nx := 42) (by decide +kernel) (by first | decide | exact ⟨by decide, by decide⟩) (by first | omega | exact ⟨by omega, by omega⟩) ?_
          intro v8 ev8 lv8 uv8
          refine zwW_ret (nx := 43) (a := 0) (b := 0) (by decide +kernel) rfl (Or.inl rfl) ?_
          exact ⟨Ih7, Rh7, by omega⟩
        · exfalso; omega
      · refine zwif_ne (q := 26) (nx := 22) (by decide +kernel) (fun c9 => ?_) (fun c9 => ?_)
        · exfalso; omega
        · refine zwW_p [(0, -2147483648, 0)] (q := 25) (ls' := [(2, 37), (0, a), (0, b)]) (st' := [(0, -2147483648)]) (by decide +kernel) rfl ?_
          refine zwW_ret (nx := 26) (a := 0) (b := 0) (by decide +kernel) rfl (Or.inl rfl) ?_
          exact ⟨I, R, by omega⟩
  · refine zwif_eq (q := 22) (nx := 8) (by decide +kernel) (fun c10 => ?_) (fun c10 => ?_)
    · refine zwW_p [(0, -2147483648, 0)] (q := 25) (ls' := [(2, 37), (0, a), (0, b)]) (st' := [(0, -2147483648)]) (by decide +kernel) rfl ?_
      refine zwW_ret (nx := 26) (a := 0) (b := 0) (by decide +kernel) rfl (Or.inl rfl) ?_
      exact ⟨I, R, by omega⟩
    · exfalso; omega
def ms18 : Zms := [(66, 66, 0, 8)]
-- WheelLandModel.cotton(II)I
theorem m18 {sc : List Int} (h : Hp) (I : zI h) (a b : Int) : zwC sc 3 18 [(2, 37), (0, a), (0, b)] h (zwRt 0 (fun x g => zI g ∧ zMR ms18 h g ∧ (-2147483648 ≤ x ∧ x ≤ 2147483647))) := by
  refine zwC_of (D := 2) 3 (by decide +kernel) rfl (ls := [(2, 37), (0, a), (0, b)]) rfl ?_
  have R : zMR ms18 h h := zMR.rf _ _
  refine zwW_p [(1, 0, 2), (1, 1, 0)] (q := 2) (ls' := [(2, 37), (0, a), (0, b)]) (st' := [(0, a), (2, 37)]) (by decide +kernel) rfl ?_
  refine zwW_cm I (op := 60) (k' := 104) (n := 1) (kd := 13) (m := 97) (nx := 5) (r := 37) (tl := [(0, a)]) (st' := []) (by decide +kernel) rfl (by decide +kernel) rfl (m104 h I a) ?_
  rintro x _ ⟨rfl, ⟨rfl, c1⟩ | ⟨rfl, c1⟩⟩
  · refine zwif_eq (q := 34) (nx := 8) (by decide +kernel) (fun c2 => ?_) (fun c2 => ?_)
    · exfalso; omega
    · refine zwW_p [(1, 2, 0), (7, 0, 0), (0, 1, 1), (0, 999, 1)] (q := 14) (ls' := [(2, 37), (0, a), (0, b)]) (st' := [(1, 999), (1, 1), (1, b)]) (by decide +kernel) rfl ?_
      refine zwW_cs (k' := 101) (n := 3) (nx := 17) (as := [(1, b), (1, 1), (1, 999)]) (st' := []) (by decide +kernel) rfl (m101 h b 1 999) rfl ?_
      rintro x _ ⟨rfl, ⟨rfl, c3⟩ | ⟨rfl, c3⟩⟩
      · refine zwif_eq (q := 34) (nx := 20) (by decide +kernel) (fun c4 => ?_) (fun c4 => ?_)
        · exfalso; omega
        · refine zwW_p [(1, 0, 2)] (q := 21) (ls' := [(2, 37), (0, a), (0, b)]) (st' := [(2, 37)]) (by decide +kernel) rfl ?_
          refine zwW_gc I (kd := 13) (bn := 7) (n := 97) (c := 66) (nx := 24) (by decide +kernel) ?_
          refine zwW_p [(1, 1, 0)] (q := 25) (ls' := [(2, 37), (0, a), (0, b)]) (st' := [(0, a), (2, 66)]) (by decide +kernel) rfl ?_
          refine zwW_al I (a1 := 66) (a2 := 66) (kd := 20) (n := 8) (t := 0) (lo := -2147483648) (hi := 2147483647) (nx := 26) (by decide +kernel) (by first | decide | exact ⟨by decide, by decide⟩) (by first | omega | exact ⟨by omega, by omega⟩) ?_
          intro v5 ev5 lv5 uv5
          refine zwW_p [(1, 2, 0)] (q := 27) (ls' := [(2, 37), (0, a), (0, b)]) (st' := [(0, b), (0, v5)]) (by decide +kernel) rfl ?_
          refine zwW_adw (nx := 28) (by decide +kernel) ?_
          intro v6 ev6 lv6 uv6
          refine zwW_p [(0, 9999, 0)] (q := 31) (ls' := [(2, 37), (0, a), (0, b)]) (st' := [(0, 9999), (0, v6)]) (by decide +kernel) rfl ?_
          refine zwic_le (q := 36) (nx := 34) (by decide +kernel) (fun c7 => ?_) (fun c7 => ?_)
          · refine zwW_p [(1, 0, 2)] (q := 37) (ls' := [(2, 37), (0, a), (0, b)]) (st' := [(2, 37)]) (by decide +kernel) rfl ?_
            refine zwW_gc I (kd := 13) (bn := 7) (n := 97) (c := 66) (nx := 40) (by decide +kernel) ?_
            refine zwW_p [(1, 1, 0), (14, 0, 0)] (q := 42) (ls' := [(2, 37), (0, a), (0, b)]) (st' := [(0, a), (2, 66), (0, a), (2, 66)]) (by decide +kernel) rfl ?_
            refine zwW_al I (a1 := 66) (a2 := 66) (kd := 20) (n := 8) (t := 0) (lo := -2147483648) (hi := 2147483647) (nx := 43) (by decide +kernel) (by first | decide | exact ⟨by decide, by decide⟩) (by first | omega | exact ⟨by omega, by omega⟩) ?_
            intro v8 ev8 lv8 uv8
            refine zwW_p [(1, 2, 0)] (q := 44) (ls' := [(2, 37), (0, a), (0, b)]) (st' := [(0, b), (0, v8), (0, a), (2, 66)]) (by decide +kernel) rfl ?_
            refine zwW_adw (nx := 45) (by decide +kernel) ?_
            intro v9 ev9 lv9 uv9
            refine zwW_as I (a1 := 66) (a2 := 66) (n := 8) (lo := -2147483648) (hi := 2147483647) (nx := 46) (by decide +kernel) (by first | decide | exact ⟨by decide, by decide⟩) (by first | omega | exact ⟨by omega, by omega⟩) (by first | omega | exact ⟨by omega, by omega⟩) ?_
            intro h10 eh10 Ih10
            have Rh10 : zMR ms18 h h10 := R.w (a1 := 66) (a2 := 66) (j1 := 0) (j2 := 8) (by decide +kernel) (by first | decide | exact ⟨by decide, by decide⟩) (by first | omega | exact ⟨by omega, by omega⟩) eh10
            refine zwW_p [(1, 0, 2)] (q := 47) (ls' := [(2, 37), (0, a), (0, b)]) (st' := [(2, 37)]) (by decide +kernel) rfl ?_
            refine zwW_gc Ih10 (kd := 13) (bn := 7) (n := 97) (c := 66) (nx := 50) (by decide +kernel) ?_
            refine zwW_p [(1, 1, 0)] (q := 51) (ls' := [(2, 37), (0, a), (0, b)]) (st' := [(0, a), (2, 66)]) (by decide +kernel) rfl ?_
            refine zwW_al Ih10 (a1 := 66) (a2 := 66) (kd := 20) (n := 8) (t := 0) (lo := -2147483648) (hi := 2147483647) (nx := 52) (by decide +kernel) (by first | decide | exact ⟨by decide, by decide⟩) (by first | omega | exact ⟨by omega, by omega⟩) ?_
            intro v11 ev11 lv11 uv11
            refine zwW_ret (nx := 53) (a := 0) (b := 0) (by decide +kernel) rfl (Or.inl rfl) ?_
            exact ⟨Ih10, Rh10, by omega⟩
          · refine zwW_p [(0, -1, 0)] (q := 35) (ls' := [(2, 37), (0, a), (0, b)]) (st' := [(0, -1)]) (by decide +kernel) rfl ?_
            refine zwW_ret (nx := 36) (a := 0) (b := 0) (by decide +kernel) rfl (Or.inl rfl) ?_
            exact ⟨I, R, by omega⟩
      · refine zwif_eq (q := 34) (nx := 20) (by decide +kernel) (fun c12 => ?_) (fun c12 => ?_)
        · refine zwW_p [(0, -1, 0)] (q := 35) (ls' := [(2, 37), (0, a), (0, b)]) (st' := [(0, -1)]) (by decide +kernel) rfl ?_
          refine zwW_ret (nx := 36) (a := 0) (b := 0) (by decide +kernel) rfl (Or.inl rfl) ?_
          exact ⟨I, R, by omega⟩
        · exfalso; omega
  · refine zwif_eq (q := 34) (nx := 8) (by decide +kernel) (fun c13 => ?_) (fun c13 => ?_)
    · refine zwW_p [(0, -1, 0)] (q := 35) (ls' := [(2, 37), (0, a), (0, b)]) (st' := [(0, -1)]) (by decide +kernel) rfl ?_
      refine zwW_ret (nx := 36) (a := 0) (b := 0) (by decide +kernel) rfl (Or.inl rfl) ?_
      exact ⟨I, R, by omega⟩
    · exfalso; omega
def ms119 : Zms := [(37, 37, 41, 42), (98, 98, 0, 400)]
-- WheelLandModel.feeds(I)V
theorem m119 {sc : List Int} (h : Hp) (I : zI h) (a : Int) (q_a : -2147483648 ≤ a ∧ a ≤ 2147483647) (p1 : fld h 37 41 ≤ 396) : zwC sc 1 119 [(2, 37), (0, a)] h (zwRv (fun g => zI g ∧ zMR ms119 h g ∧ (fld g 37 41 = fld h 37 41 + 4))) := by
  refine zwC_of (D := 0) 3 (by decide +kernel) rfl (ls := [(2, 37), (0, a), (9, 0)]) rfl ?_
  have R : zMR ms119 h h := zMR.rf _ _
  refine zwW_p [(0, 3, 0), (2, 2, 0)] (q := 2) (ls' := [(2, 37), (0, a), (0, 3)]) (st' := []) (by decide +kernel) rfl ?_
  have L1 : ∀ (n : Nat) (kL1 : Int) (hL1 : Hp), n = ((kL1 + 1)).toNat → (-1 ≤ kL1 ∧ kL1 ≤ 3) → (fld hL1 37 41 = fld h 37 41 + 3 - kL1) → zI hL1 → zMR ms119 h hL1 → zwW sc (0) 119 2 [(2, 37), (0, a), (0, kL1)] [] hL1 (zwRv (fun g => zI g ∧ zMR ms119 h g ∧ (fld g 37 41 = fld h 37 41 + 4))) := by
    intro n
    induction n using Nat.strongRecOn with
    | ind n IHL1 =>
      intro kL1 hL1 hnL1 iL1_0 iL1_1 IhL1 RhL1
      refine zwW_p [(1, 2, 0)] (q := 3) (ls' := [(2, 37), (0, a), (0, kL1)]) (st' := [(0, kL1)]) (by decide +kernel) rfl ?_
      refine zwif_lt (q := 38) (nx := 6) (by decide +kernel) (fun c2 => ?_) (fun c2 => ?_)
      · refine zwW_retv (nx := 39) (a := 0) (b := 0) (by decide +kernel) ?_
        exact ⟨IhL1, RhL1, by omega⟩
      · refine zwW_p [(1, 0, 2)] (q := 7) (ls' := [(2, 37), (0, a), (0, kL1)]) (st' := [(2, 37)]) (by decide +kernel) rfl ?_
        refine zwW_gc IhL1 (kd := 13) (bn := 40) (n := 97) (c := 98) (nx := 10) (by decide +kernel) ?_
        refine zwW_p [(1, 0, 2)] (q := 11) (ls' := [(2, 37), (0, a), (0, kL1)]) (st' := [(2, 37), (2, 98)]) (by decide +kernel) rfl ?_
        refine zwW_gs IhL1 (kd := 13) (bn := 41) (n := 97) (t := 0) (lo := 0) (hi := 400) (nx := 14) (by decide +kernel) ?_
        intro v3 ev3 lv3 uv3
        refine zwW_p [(1, 1, 0), (0, 8, 0), (1, 2, 0)] (q := 18) (ls' := [(2, 37), (0, a), (0, kL1)]) (st' := [(0, kL1), (0, 8), (0, a), (0, v3), (2, 98)]) (by decide +kernel) rfl ?_
        refine zwW_mul (nx := 19) (by decide +kernel) (by first | omega | exact ⟨by omega, by omega⟩) ?_
        refine zwW_any2 (a := 10) (nx := 20) (by decide +kernel) rfl (by first | omega | exact ⟨by omega, by omega⟩) (Or.inr (by first | decide | exact ⟨by decide, by decide⟩)) ?_
        intro v4 lv4 uv4
        refine zwW_i2b (nx := 21) (by decide +kernel) ?_
        refine zwW_asb IhL1 (a1 := 98) (a2 := 98) (n := 400) (nx := 22) (by decide +kernel) (by first | decide | exact ⟨by decide, by decide⟩) (by first | omega | exact ⟨by omega, by omega⟩) ?_
        intro h5 eh5 Ih5
        have th5_37_41 : fld h5 37 41 = fld hL1 37 41 := by rw [eh5]; exact fld_wr (by omega)
        have Rh5 : zMR ms119 h h5 := RhL1.w (a1 := 98) (a2 := 98) (j1 := 0) (j2 := 400) (by decide +kernel) (by first | decide | exact ⟨by decide, by decide⟩) (by first | omega | exact ⟨by omega, by omega⟩) eh5
        refine zwW_p [(1, 0, 2), (12, 0, 0)] (q := 24) (ls' := [(2, 37), (0, a), (0, kL1)]) (st' := [(2, 37), (2, 37)]) (by decide +kernel) rfl ?_
        refine zwW_gs Ih5 (kd := 13) (bn := 41) (n := 97) (t := 0) (lo := 0) (hi := 400) (nx := 27) (by decide +kernel) ?_
        intro v6 ev6 lv6 uv6
        refine zwW_p [(0, 1, 0)] (q := 28) (ls' := [(2, 37), (0, a), (0, kL1)]) (st' := [(0, 1), (0, v6), (2, 37)]) (by decide +kernel) rfl ?_
        refine zwW_add (nx := 29) (by decide +kernel) (by first | omega | exact ⟨by omega, by omega⟩) ?_
        refine zwW_ps Ih5 (kd := 13) (bn := 41) (n := 97) (lo := 0) (hi := 400) (nx := 32) (by decide +kernel) (by first | omega | exact ⟨by omega, by omega⟩) ?_
        intro h7 eh7 Ih7
        have th7_37_41 : fld h7 37 41 = (v6 + 1) := by rw [eh7]; exact fld_wr_eq (Ih5.s (a1 := 37) (a2 := 37) (k := 13) (n := 97) (by decide +kernel) (by decide) (by decide)) (by decide)
        have Rh7 : zMR ms119 h h7 := Rh5.w (a1 := 37) (a2 := 37) (j1 := 41) (j2 := 42) (by decide +kernel) (by first | decide | exact ⟨by decide, by decide⟩) (by first | decide | exact ⟨by decide, by decide⟩) eh7
        refine zwW_inc (i := 2) (c := -1) (x := kL1) (nx := 35) (by decide +kernel) rfl (by first | omega | exact ⟨by omega, by omega⟩) (ls' := [(2, 37), (0, a), (0, (kL1 + (-1)))]) rfl ?_
        refine zwW_p [(24, 2, 0)] (q := 2) (ls' := [(2, 37), (0, a), (0, (kL1 + (-1)))]) (st' := []) (by decide +kernel) rfl ?_
        exact IHL1 (((kL1 + (-1)) + 1)).toNat (by omega) (kL1 + (-1)) h7 rfl (by omega) (by omega) Ih7 Rh7
  exact L1 _ 3 h rfl (by omega) (by omega) I R
def ms24 : Zms := [(37, 37, 41, 42), (98, 98, 0, 400)]
-- WheelLandModel.feed(IIIII)I
theorem m24 {sc : List Int} (h : Hp) (I : zI h) (a b c d e : Int) (q_a : -2147483648 ≤ a ∧ a ≤ 2147483647) (q_b : -2147483648 ≤ b ∧ b ≤ 2147483647) (q_c : -2147483648 ≤ c ∧ c ≤ 2147483647) (q_d : -2147483648 ≤ d ∧ d ≤ 2147483647) (q_e : -2147483648 ≤ e ∧ e ≤ 2147483647) : zwC sc 2 24 [(2, 37), (0, a), (0, b), (0, c), (0, d), (0, e)] h (zwRt 0 (fun x g => zI g ∧ zMR ms24 h g ∧ (-2147483648 ≤ x ∧ x ≤ 2147483647) ∧ ((x = fld h 37 41 + 20 ∧ fld g 37 41 = x ∧ fld h 37 41 + 20 ≤ 400) ∨ (x = -1 ∧ fld g 37 41 = fld h 37 41 ∧ 400 < fld h 37 41 + 20)))) := by
  refine zwC_of (D := 1) 6 (by decide +kernel) rfl (ls := [(2, 37), (0, a), (0, b), (0, c), (0, d), (0, e)]) rfl ?_
  have R : zMR ms24 h h := zMR.rf _ _
  refine zwW_p [(1, 0, 2)] (q := 1) (ls' := [(2, 37), (0, a), (0, b), (0, c), (0, d), (0, e)]) (st' := [(2, 37)]) (by decide +kernel) rfl ?_
  refine zwW_gs I (kd := 13) (bn := 41) (n := 97) (t := 0) (lo := 0) (hi := 400) (nx := 4) (by decide +kernel) ?_
  intro v1 ev1 lv1 uv1
  refine zwW_p [(0, 20, 0)] (q := 6) (ls' := [(2, 37), (0, a), (0, b), (0, c), (0, d), (0, e)]) (st' := [(0, 20), (0, v1)]) (by decide +kernel) rfl ?_
  refine zwW_add (nx := 7) (by decide +kernel) (by first | omega | exact ⟨by omega, by omega⟩) ?_
  refine zwW_p [(0, 400, 0)] (q := 10) (ls' := [(2, 37), (0, a), (0, b), (0, c), (0, d), (0, e)]) (st' := [(0, 400), (0, (v1 + 20))]) (by decide +kernel) rfl ?_
  refine zwic_le (q := 15) (nx := 13) (by decide +kernel) (fun c2 => ?_) (fun c2 => ?_)
  · refine zwW_p [(1, 0, 2), (1, 1, 0)] (q := 17) (ls' := [(2, 37), (0, a), (0, b), (0, c), (0, d), (0, e)]) (st' := [(0, a), (2, 37)]) (by decide +kernel) rfl ?_
    refine zwW_cmv I (op := 60) (k' := 119) (n := 1) (kd := 13) (m := 97) (nx := 20) (r := 37) (tl := [(0, a)]) (st' := []) (by decide +kernel) rfl (by decide +kernel) rfl (m119 h I a (by omega) (by omega)) ?_
    rintro h4 ⟨Ih4, Qh4, f3⟩
    have Rh4 : zMR ms24 h h4 := R.tr Qh4 (by decide +kernel)
    refine zwW_p [(1, 0, 2), (1, 2, 0)] (q := 22) (ls' := [(2, 37), (0, a), (0, b), (0, c), (0, d), (0, e)]) (st' := [(0, b), (2, 37)]) (by decide +kernel) rfl ?_
    refine zwW_cmv Ih4 (op := 60) (k' := 119) (n := 1) (kd := 13) (m := 97) (nx := 25) (r := 37) (tl := [(0, b)]) (st' := []) (by decide +kernel) rfl (by decide +kernel) rfl (m119 h4 Ih4 b (by omega) (by omega)) ?_
    rintro h6 ⟨Ih6, Qh6, f5⟩
    have Rh6 : zMR ms24 h h6 := Rh4.tr Qh6 (by decide +kernel)
    refine zwW_p [(1, 0, 2), (1, 3, 0)] (q := 27) (ls' := [(2, 37), (0, a), (0, b), (0, c), (0, d), (0, e)]) (st' := [(0, c), (2, 37)]) (by decide +kernel) rfl ?_
    refine zwW_cmv Ih6 (op := 60) (k' := 119) (n := 1) (kd := 13) (m := 97) (nx := 30) (r := 37) (tl := [(0, c)]) (st' := []) (by decide +kernel) rfl (by decide +kernel) rfl (m119 h6 Ih6 c (by omega) (by omega)) ?_
    rintro h8 ⟨Ih8, Qh8, f7⟩
    have Rh8 : zMR ms24 h h8 := Rh6.tr Qh8 (by decide +kernel)
    refine zwW_p [(1, 0, 2), (1, 4, 0)] (q := 33) (ls' := [(2, 37), (0, a), (0, b), (0, c), (0, d), (0, e)]) (st' := [(0, d), (2, 37)]) (by decide +kernel) rfl ?_
    refine zwW_cmv Ih8 (op := 60) (k' := 119) (n := 1) (kd := 13) (m := 97) (nx := 36) (r := 37) (tl := [(0, d)]) (st' := []) (by decide +kernel) rfl (by decide +kernel) rfl (m119 h8 Ih8 d (by omega) (by omega)) ?_
    rintro h10 ⟨Ih10, Qh10, f9⟩
    have Rh10 : zMR ms24 h h10 := Rh8.tr Qh10 (by decide +kernel)
    refine zwW_p [(1, 0, 2), (1, 5, 0)] (q := 39) (ls' := [(2, 37), (0, a), (0, b), (0, c), (0, d), (0, e)]) (st' := [(0, e), (2, 37)]) (by decide +kernel) rfl ?_
    refine zwW_cmv Ih10 (op := 60) (k' := 119) (n := 1) (kd := 13) (m := 97) (nx := 42) (r := 37) (tl := [(0, e)]) (st' := []) (by decide +kernel) rfl (by decide +kernel) rfl (m119 h10 Ih10 e (by omega) (by omega)) ?_
    rintro h12 ⟨Ih12, Qh12, f11⟩
    have Rh12 : zMR ms24 h h12 := Rh10.tr Qh12 (by decide +kernel)
    refine zwW_p [(1, 0, 2)] (q := 43) (ls' := [(2, 37), (0, a), (0, b), (0, c), (0, d), (0, e)]) (st' := [(2, 37)]) (by decide +kernel) rfl ?_
    refine zwW_gs Ih12 (kd := 13) (bn := 41) (n := 97) (t := 0) (lo := 0) (hi := 400) (nx := 46) (by decide +kernel) ?_
    intro v13 ev13 lv13 uv13
    refine zwW_ret (nx := 47) (a := 0) (b := 0) (by decide +kernel) rfl (Or.inl rfl) ?_
    exact ⟨Ih12, Rh12, by omega, by omega⟩
  · refine zwW_p [(0, -1, 0)] (q := 14) (ls' := [(2, 37), (0, a), (0, b), (0, c), (0, d), (0, e)]) (st' := [(0, -1)]) (by decide +kernel) rfl ?_
    refine zwW_ret (nx := 15) (a := 0) (b := 0) (by decide +kernel) rfl (Or.inl rfl) ?_
    exact ⟨I, R, by omega, by omega⟩
def ms26 : Zms := [(37, 37, 41, 42)]
-- WheelLandModel.end(I)Z
theorem m26 {sc : List Int} (h : Hp) (I : zI h) (a : Int) : zwC sc 2 26 [(2, 37), (0, a)] h (zwRt 0 (fun x g => zI g ∧ zMR ms26 h g ∧ (-2147483648 ≤ x ∧ x ≤ 2147483647) ∧ ((x = 1 ∧ fld g 37 41 = a ∧ 0 ≤ a ∧ a ≤ fld h 37 41) ∨ (x = 0 ∧ fld g 37 41 = fld h 37 41 ∧ (a < 0 ∨ fld h 37 41 < a))))) := by
  refine zwC_of (D := 1) 2 (by decide +kernel) rfl (ls := [(2, 37), (0, a)]) rfl ?_
  have R : zMR ms26 h h := zMR.rf _ _
  refine zwW_p [(1, 1, 0), (7, 0, 0), (0, 0, 1), (1, 0, 2)] (q := 4) (ls' := [(2, 37), (0, a)]) (st' := [(2, 37), (1, 0), (1, a)]) (by decide +kernel) rfl ?_
  refine zwW_gs I (kd := 13) (bn := 41) (n := 97) (t := 0) (lo := 0) (hi := 400) (nx := 7) (by decide +kernel) ?_
  intro v1 ev1 lv1 uv1
  refine zwW_p [(7, 0, 0)] (q := 8) (ls' := [(2, 37), (0, a)]) (st' := [(1, v1), (1, 0), (1, a)]) (by decide +kernel) rfl ?_
  refine zwW_cs (k' := 101) (n := 3) (nx := 11) (as := [(1, a), (1, 0), (1, v1)]) (st' := []) (by decide +kernel) rfl (m101 h a 0 v1) rfl ?_
  rintro x _ ⟨rfl, ⟨rfl, c2⟩ | ⟨rfl, c2⟩⟩
  · refine zwif_ne (q := 16) (nx := 14) (by decide +kernel) (fun c3 => ?_) (fun c3 => ?_)
    · refine zwW_p [(1, 0, 2), (1, 1, 0)] (q := 18) (ls' := [(2, 37), (0, a)]) (st' := [(0, a), (2, 37)]) (by decide +kernel) rfl ?_
      refine zwW_ps I (kd := 13) (bn := 41) (n := 97) (lo := 0) (hi := 400) (nx := 21) (by decide +kernel) (by first | omega | exact ⟨by omega, by omega⟩) ?_
      intro h4 eh4 Ih4
      have th4_37_41 : fld h4 37 41 = a := by rw [eh4]; exact fld_wr_eq (I.s (a1 := 37) (a2 := 37) (k := 13) (n := 97) (by decide +kernel) (by decide) (by decide)) (by decide)
      have Rh4 : zMR ms26 h h4 := R.w (a1 := 37) (a2 := 37) (j1 := 41) (j2 := 42) (by decide +kernel) (by first | decide | exact ⟨by decide, by decide⟩) (by first | decide | exact ⟨by decide, by decide⟩) eh4
      refine zwW_p [(0, 1, 0)] (q := 22) (ls' := [(2, 37), (0, a)]) (st' := [(0, 1)]) (by decide +kernel) rfl ?_
      refine zwW_ret (nx := 23) (a := 1) (b := 0) (by decide +kernel) rfl (Or.inr (Or.inl ⟨rfl, Or.inr rfl⟩)) ?_
      exact ⟨Ih4, Rh4, by omega, by omega⟩
    · exfalso; omega
  · refine zwif_ne (q := 16) (nx := 14) (by decide +kernel) (fun c5 => ?_) (fun c5 => ?_)
    · exfalso; omega
    · refine zwW_p [(0, 0, 0)] (q := 15) (ls' := [(2, 37), (0, a)]) (st' := [(0, 0)]) (by decide +kernel) rfl ?_
      refine zwW_ret (nx := 16) (a := 1) (b := 0) (by decide +kernel) rfl (Or.inr (Or.inl ⟨rfl, Or.inl rfl⟩)) ?_
      exact ⟨I, R, by omega, by omega⟩
-- WheelLandModel.sheetFor(II)I
theorem m126 {sc : List Int} (h : Hp) (I : zI h) (a b : Int) (p1 : 0 ≤ a) (p2 : a ≤ 4) (hF : ∀ k : Nat, (k : Int) < fld h 37 53 → fld h 164 k < fld h 37 52) : zwC sc 1 126 [(2, 37), (0, a), (0, b)] h (zwRt 0 (fun x g => h = g ∧ (-2147483648 ≤ x ∧ x ≤ 2147483647) ∧ (-1 ≤ x ∧ x ≤ 7) ∧ (x = -1 ∨ (0 ≤ x ∧ x < fld h 37 52 ∧ 0 < fld h (155 + x) a.toNat)))) := by
  refine zwC_of (D := 0) 5 (by decide +kernel) rfl (ls := [(2, 37), (0, a), (0, b), (9, 0), (9, 0)]) rfl ?_
  refine zwW_p [(0, -1, 0), (2, 3, 0), (0, 0, 0), (2, 4, 0)] (q := 5) (ls' := [(2, 37), (0, a), (0, b), (0, -1), (0, 0)]) (st' := []) (by decide +kernel) rfl ?_
  have L1 : ∀ (n : Nat) (zL1 kL1 : Int), n = ((100 - kL1)).toNat → (0 ≤ kL1 ∧ kL1 ≤ 12) → (-1 ≤ zL1 ∧ zL1 < kL1 ∧ zL1 < max 0 (fld h 37 53)) → (0 ≤ zL1 → 0 < fld h (155 + fld h 164 (zL1).toNat) a.toNat) → zwW sc (0) 126 5 [(2, 37), (0, a), (0, b), (0, zL1), (0, kL1)] [] h (zwRt 0 (fun x g => h = g ∧ (-2147483648 ≤ x ∧ x ≤ 2147483647) ∧ (-1 ≤ x ∧ x ≤ 7) ∧ (x = -1 ∨ (0 ≤ x ∧ x < fld h 37 52 ∧ 0 < fld h (155 + x) a.toNat)))) := by
    intro n
    induction n using Nat.strongRecOn with
    | ind n IHL1 =>
      intro zL1 kL1 hnL1 iL1_0 iL1_1 iL1_2
      refine zwW_p [(1, 4, 0), (1, 0, 2)] (q := 8) (ls' := [(2, 37), (0, a), (0, b), (0, zL1), (0, kL1)]) (st' := [(2, 37), (0, kL1)]) (by decide +kernel) rfl ?_
      refine zwW_gs I (kd := 13) (bn := 53) (n := 97) (t := 0) (lo := 0) (hi := 12) (nx := 11) (by decide +kernel) ?_
      intro v2 ev2 lv2 uv2
      refine zwic_ge (q := 72) (nx := 14) (by decide +kernel) (fun c3 => ?_) (fun c3 => ?_)
      · refine zwW_p [(1, 3, 0), (0, -1, 0)] (q := 74) (ls' := [(2, 37), (0, a), (0, b), (0, zL1), (0, kL1)]) (st' := [(0, -1), (0, zL1)]) (by decide +kernel) rfl ?_
        refine zwic_ne (q := 81) (nx := 77) (by decide +kernel) (fun c4 => ?_) (fun c4 => ?_)
        · refine zwW_p [(1, 0, 2)] (q := 82) (ls' := [(2, 37), (0, a), (0, b), (0, zL1), (0, kL1)]) (st' := [(2, 37)]) (by decide +kernel) rfl ?_
          refine zwW_gc I (kd := 13) (bn := 50) (n := 97) (c := 164) (nx := 85) (by decide +kernel) ?_
          have B85 := hF (zL1).toNat (by omega)
          have C85 := iL1_2 (by omega)
          refine zwW_p [(1, 3, 0)] (q := 86) (ls' := [(2, 37), (0, a), (0, b), (0, zL1), (0, kL1)]) (st' := [(0, zL1), (2, 164)]) (by decide +kernel) rfl ?_
          refine zwW_al I (a1 := 164) (a2 := 164) (kd := 20) (n := 12) (t := 0) (lo := 0) (hi := 7) (nx := 87) (by decide +kernel) (by first | decide | exact ⟨by decide, by decide⟩) (by first | omega | exact ⟨by omega, by omega⟩) ?_
          intro v5 ev5 lv5 uv5
          refine zwW_ret (nx := 88) (a := 0) (b := 0) (by decide +kernel) rfl (Or.inl rfl) ?_
          exact ⟨rfl, by omega, by omega, by first | omega | (subst_vars; omega)⟩
        · refine zwW_p [(0, -1, 0), (24, 87, 0)] (q := 87) (ls' := [(2, 37), (0, a), (0, b), (0, zL1), (0, kL1)]) (st' := [(0, -1)]) (by decide +kernel) rfl ?_
          refine zwW_ret (nx := 88) (a := 0) (b := 0) (by decide +kernel) rfl (Or.inl rfl) ?_
          exact ⟨rfl, by omega, by omega, by first | omega | (subst_vars; omega)⟩
      · refine zwW_p [(1, 0, 2)] (q := 15) (ls' := [(2, 37), (0, a), (0, b), (0, zL1), (0, kL1)]) (st' := [(2, 37)]) (by decide +kernel) rfl ?_
        refine zwW_gc I (kd := 13) (bn := 51) (n := 97) (c := 165) (nx := 18) (by decide +kernel) ?_
        refine zwW_p [(1, 4, 0)] (q := 20) (ls' := [(2, 37), (0, a), (0, b), (0, zL1), (0, kL1)]) (st' := [(0, kL1), (2, 165)]) (by decide +kernel) rfl ?_
        refine zwW_al I (a1 := 165) (a2 := 165) (kd := 20) (n := 12) (t := 0) (lo := 0) (hi := 155) (nx := 21) (by decide +kernel) (by first | decide | exact ⟨by decide, by decide⟩) (by first | omega | exact ⟨by omega, by omega⟩) ?_
        intro v6 ev6 lv6 uv6
        refine zwW_p [(1, 2, 0)] (q := 22) (ls' := [(2, 37), (0, a), (0, b), (0, zL1), (0, kL1)]) (st' := [(0, b), (0, v6)]) (by decide +kernel) rfl ?_
        refine zwic_gt (q := 66) (nx := 25) (by decide +kernel) (fun c7 => ?_) (fun c7 => ?_)
        · refine zwW_inc (i := 4) (c := 1) (x := kL1) (nx := 69) (by decide +kernel) rfl (by first | omega | exact ⟨by omega, by omega⟩) (ls' := [(2, 37), (0, a), (0, b), (0, zL1), (0, (kL1 + 1))]) rfl ?_
          refine zwW_p [(24, 5, 0)] (q := 5) (ls' := [(2, 37), (0, a), (0, b), (0, zL1), (0, (kL1 + 1))]) (st' := []) (by decide +kernel) rfl ?_
          exact IHL1 ((100 - (kL1 + 1))).toNat (by omega) zL1 (kL1 + 1) rfl (by omega) (by omega) (by first | exact iL1_2 | exact fun _ => (by subst_vars; omega))
        · refine zwW_p [(1, 0, 2)] (q := 26) (ls' := [(2, 37), (0, a), (0, b), (0, zL1), (0, kL1)]) (st' := [(2, 37)]) (by decide +kernel) rfl ?_
          refine zwW_gc I (kd := 13) (bn := 49) (n := 97) (c := 154) (nx := 29) (by decide +kernel) ?_
          refine zwW_p [(1, 0, 2)] (q := 30) (ls' := [(2, 37), (0, a), (0, b), (0, zL1), (0, kL1)]) (st' := [(2, 37), (2, 154)]) (by decide +kernel) rfl ?_
          refine zwW_gc I (kd := 13) (bn := 50) (n := 97) (c := 164) (nx := 33) (by decide +kernel) ?_
          refine zwW_p [(1, 4, 0)] (q := 35) (ls' := [(2, 37), (0, a), (0, b), (0, zL1), (0, kL1)]) (st' := [(0, kL1), (2, 164), (2, 154)]) (by decide +kernel) rfl ?_
          refine zwW_al I (a1 := 164) (a2 := 164) (kd := 20) (n := 12) (t := 0) (lo := 0) (hi := 7) (nx := 36) (by decide +kernel) (by first | decide | exact ⟨by decide, by decide⟩) (by first | omega | exact ⟨by omega, by omega⟩) ?_
          intro v8 ev8 lv8 uv8
          refine zwW_ro I (a := 154) (n := 9) (kd := 26) (base := 155) (step := 1) (nx := 37) (by decide +kernel) rfl (by first | omega | exact ⟨by omega, by omega⟩) ?_
          rw [show ((155 : Nat) : Int) + ((1 : Nat) : Int) * v8 = (155 + v8) by omega]
          refine zwW_p [(1, 1, 0)] (q := 38) (ls' := [(2, 37), (0, a), (0, b), (0, zL1), (0, kL1)]) (st' := [(0, a), (2, (155 + v8))]) (by decide +kernel) rfl ?_
          refine zwW_al I (a1 := 155) (a2 := 163) (kd := 20) (n := 5) (t := 0) (lo := 0) (hi := 400) (nx := 39) (by decide +kernel) (by first | omega | exact ⟨by omega, by omega⟩) (by first | omega | exact ⟨by omega, by omega⟩) ?_
          intro v9 ev9 lv9 uv9
          refine zwif_le (q := 66) (nx := 42) (by decide +kernel) (fun c10 => ?_) (fun c10 => ?_)
          · refine zwW_inc (i := 4) (c := 1) (x := kL1) (nx := 69) (by decide +kernel) rfl (by first | omega | exact ⟨by omega, by omega⟩) (ls' := [(2, 37), (0, a), (0, b), (0, zL1), (0, (kL1 + 1))]) rfl ?_
            refine zwW_p [(24, 5, 0)] (q := 5) (ls' := [(2, 37), (0, a), (0, b), (0, zL1), (0, (kL1 + 1))]) (st' := []) (by decide +kernel) rfl ?_
            exact IHL1 ((100 - (kL1 + 1))).toNat (by omega) zL1 (kL1 + 1) rfl (by omega) (by omega) (by first | exact iL1_2 | exact fun _ => (by subst_vars; omega))
          · refine zwW_p [(1, 3, 0), (0, -1, 0)] (q := 44) (ls' := [(2, 37), (0, a), (0, b), (0, zL1), (0, kL1)]) (st' := [(0, -1), (0, zL1)]) (by decide +kernel) rfl ?_
            refine zwic_eq (q := 63) (nx := 47) (by decide +kernel) (fun c11 => ?_) (fun c11 => ?_)
            · refine zwW_p [(1, 4, 0), (2, 3, 0)] (q := 66) (ls' := [(2, 37), (0, a), (0, b), (0, kL1), (0, kL1)]) (st' := []) (by decide +kernel) rfl ?_
              refine zwW_inc (i := 4) (c := 1) (x := kL1) (nx := 69) (by decide +kernel) rfl (by first | omega | exact ⟨by omega, by omega⟩) (ls' := [(2, 37), (0, a), (0, b), (0, kL1), (0, (kL1 + 1))]) rfl ?_
              refine zwW_p [(24, 5, 0)] (q := 5) (ls' := [(2, 37), (0, a), (0, b), (0, kL1), (0, (kL1 + 1))]) (st' := []) (by decide +kernel) rfl ?_
              exact IHL1 ((100 - (kL1 + 1))).toNat (by omega) kL1 (kL1 + 1) rfl (by omega) (by omega) (by first | exact iL1_2 | exact fun _ => (by subst_vars; omega))
            · refine zwW_p [(1, 0, 2)] (q := 48) (ls' := [(2, 37), (0, a), (0, b), (0, zL1), (0, kL1)]) (st' := [(2, 37)]) (by decide +kernel) rfl ?_
              refine zwW_gc I (kd := 13) (bn := 51) (n := 97) (c := 165) (nx := 51) (by decide +kernel) ?_
              refine zwW_p [(1, 4, 0)] (q := 53) (ls' := [(2, 37), (0, a), (0, b), (0, zL1), (0, kL1)]) (st' := [(0, kL1), (2, 165)]) (by decide +kernel) rfl ?_
              refine zwW_al I (a1 := 165) (a2 := 165) (kd := 20) (n := 12) (t := 0) (lo := 0) (hi := 155) (nx := 54) (by decide +kernel) (by first | decide | exact ⟨by decide, by decide⟩) (by first | omega | exact ⟨by omega, by omega⟩) ?_
              intro v12 ev12 lv12 uv12
              refine zwW_p [(1, 0, 2)] (q := 55) (ls' := [(2, 37), (0, a), (0, b), (0, zL1), (0, kL1)]) (st' := [(2, 37), (0, v12)]) (by decide +kernel) rfl ?_
              refine zwW_gc I (kd := 13) (bn := 51) (n := 97) (c := 165) (nx := 58) (by decide +kernel) ?_
              refine zwW_p [(1, 3, 0)] (q := 59) (ls' := [(2, 37), (0, a), (0, b), (0, zL1), (0, kL1)]) (st' := [(0, zL1), (2, 165), (0, v12)]) (by decide +kernel) rfl ?_
              refine zwW_al I (a1 := 165) (a2 := 165) (kd := 20) (n := 12) (t := 0) (lo := 0) (hi := 155) (nx := 60) (by decide +kernel) (by first | decide | exact ⟨by decide, by decide⟩) (by first | omega | exact ⟨by omega, by omega⟩) ?_
              intro v13 ev13 lv13 uv13
              refine zwic_lt (q := 66) (nx := 63) (by decide +kernel) (fun c14 => ?_) (fun c14 => ?_)
              · refine zwW_inc (i := 4) (c := 1) (x := kL1) (nx := 69) (by decide +kernel) rfl (by first | omega | exact ⟨by omega, by omega⟩) (ls' := [(2, 37), (0, a), (0, b), (0, zL1), (0, (kL1 + 1))]) rfl ?_
                refine zwW_p [(24, 5, 0)] (q := 5) (ls' := [(2, 37), (0, a), (0, b), (0, zL1), (0, (kL1 + 1))]) (st' := []) (by decide +kernel) rfl ?_
                exact IHL1 ((100 - (kL1 + 1))).toNat (by omega) zL1 (kL1 + 1) rfl (by omega) (by omega) (by first | exact iL1_2 | exact fun _ => (by subst_vars; omega))
              · refine zwW_p [(1, 4, 0), (2, 3, 0)] (q := 66) (ls' := [(2, 37), (0, a), (0, b), (0, kL1), (0, kL1)]) (st' := []) (by decide +kernel) rfl ?_
                refine zwW_inc (i := 4) (c := 1) (x := kL1) (nx := 69) (by decide +kernel) rfl (by first | omega | exact ⟨by omega, by omega⟩) (ls' := [(2, 37), (0, a), (0, b), (0, kL1), (0, (kL1 + 1))]) rfl ?_
                refine zwW_p [(24, 5, 0)] (q := 5) (ls' := [(2, 37), (0, a), (0, b), (0, kL1), (0, (kL1 + 1))]) (st' := []) (by decide +kernel) rfl ?_
                exact IHL1 ((100 - (kL1 + 1))).toNat (by omega) kL1 (kL1 + 1) rfl (by omega) (by omega) (by first | exact iL1_2 | exact fun _ => (by subst_vars; omega))
  exact L1 _ (-1) 0 rfl (by omega) (by omega) (fun hz => by omega)
def ms215 : Zms := [(168, 168, 0, 13)]
-- WheelLandModel.clears()V
theorem m215 {sc : List Int} (h : Hp) (I : zI h) : zwC sc 2 215 [(2, 37)] h (zwRv (fun g => zI g ∧ zMR ms215 h g)) := by
  refine zwC_of (D := 1) 2 (by decide +kernel) rfl (ls := [(2, 37), (9, 0)]) rfl ?_
  have R : zMR ms215 h h := zMR.rf _ _
  refine zwW_p [(0, 0, 0), (2, 1, 0)] (q := 2) (ls' := [(2, 37), (0, 0)]) (st' := []) (by decide +kernel) rfl ?_
  have L1 : ∀ (n : Nat) (kL1 : Int) (hL1 : Hp), n = ((100 - kL1)).toNat → (0 ≤ kL1 ∧ kL1 ≤ 13) → zI hL1 → zMR ms215 h hL1 → zwW sc (1) 215 2 [(2, 37), (0, kL1)] [] hL1 (zwRv (fun g => zI g ∧ zMR ms215 h g)) := by
    intro n
    induction n using Nat.strongRecOn with
    | ind n IHL1 =>
      intro kL1 hL1 hnL1 iL1_0 IhL1 RhL1
      refine zwW_p [(1, 1, 0), (0, 13, 0)] (q := 5) (ls' := [(2, 37), (0, kL1)]) (st' := [(0, 13), (0, kL1)]) (by decide +kernel) rfl ?_
      refine zwic_ge (q := 21) (nx := 8) (by decide +kernel) (fun c2 => ?_) (fun c2 => ?_)
      · refine zwW_p [(1, 0, 2)] (q := 22) (ls' := [(2, 37), (0, kL1)]) (st' := [(2, 37)]) (by decide +kernel) rfl ?_
        refine zwW_gc IhL1 (kd := 13) (bn := 56) (n := 97) (c := 168) (nx := 25) (by decide +kernel) ?_
        refine zwW_p [(0, 0, 0), (1, 0, 2)] (q := 27) (ls' := [(2, 37), (0, kL1)]) (st' := [(2, 37), (0, 0), (2, 168)]) (by decide +kernel) rfl ?_
        refine zwW_gs IhL1 (kd := 13) (bn := 0) (n := 97) (t := 0) (lo := 0) (hi := 156) (nx := 30) (by decide +kernel) ?_
        intro v3 ev3 lv3 uv3
        refine zwW_as IhL1 (a1 := 168) (a2 := 168) (n := 13) (lo := -2147483648) (hi := 2147483647) (nx := 31) (by decide +kernel) (by first | decide | exact ⟨by decide, by decide⟩) (by first | decide | exact ⟨by decide, by decide⟩) (by first | omega | exact ⟨by omega, by omega⟩) ?_
        intro h4 eh4 Ih4
        have Rh4 : zMR ms215 h h4 := RhL1.w (a1 := 168) (a2 := 168) (j1 := 0) (j2 := 13) (by decide +kernel) (by first | decide | exact ⟨by decide, by decide⟩) (by first | decide | exact ⟨by decide, by decide⟩) eh4
        refine zwW_p [(1, 0, 2)] (q := 32) (ls' := [(2, 37), (0, kL1)]) (st' := [(2, 37)]) (by decide +kernel) rfl ?_
        refine zwW_gc Ih4 (kd := 13) (bn := 56) (n := 97) (c := 168) (nx := 35) (by decide +kernel) ?_
        refine zwW_p [(0, 1, 0), (1, 0, 2)] (q := 37) (ls' := [(2, 37), (0, kL1)]) (st' := [(2, 37), (0, 1), (2, 168)]) (by decide +kernel) rfl ?_
        refine zwW_gs Ih4 (kd := 13) (bn := 0) (n := 97) (t := 0) (lo := 0) (hi := 156) (nx := 40) (by decide +kernel) ?_
        intro v5 ev5 lv5 uv5
        refine zwW_cs (k' := 174) (n := 1) (nx := 43) (as := [(0, v5)]) (st' := [(0, 1), (2, 168)]) (by decide +kernel) rfl (m174 h4 v5 (by omega) (by omega)) rfl ?_
        rintro v6 _ ⟨rfl, f7, f8, f9, f10⟩
        refine zwW_as Ih4 (a1 := 168) (a2 := 168) (n := 13) (lo := -2147483648) (hi := 2147483647) (nx := 44) (by decide +kernel) (by first | decide | exact ⟨by decide, by decide⟩) (by first | decide | exact ⟨by decide, by decide⟩) (by first | omega | exact ⟨by omega, by omega⟩) ?_
        intro h11 eh11 Ih11
        have Rh11 : zMR ms215 h h11 := Rh4.w (a1 := 168) (a2 := 168) (j1 := 0) (j2 := 13) (by decide +kernel) (by first | decide | exact ⟨by decide, by decide⟩) (by first | decide | exact ⟨by decide, by decide⟩) eh11
        refine zwW_retv (nx := 45) (a := 0) (b := 0) (by decide +kernel) ?_
        exact ⟨Ih11, Rh11⟩
      · refine zwW_p [(1, 0, 2)] (q := 9) (ls' := [(2, 37), (0, kL1)]) (st' := [(2, 37)]) (by decide +kernel) rfl ?_
        refine zwW_gc IhL1 (kd := 13) (bn := 56) (n := 97) (c := 168) (nx := 12) (by decide +kernel) ?_
        refine zwW_p [(1, 1, 0), (0, 0, 0)] (q := 14) (ls' := [(2, 37), (0, kL1)]) (st' := [(0, 0), (0, kL1), (2, 168)]) (by decide +kernel) rfl ?_
        refine zwW_as IhL1 (a1 := 168) (a2 := 168) (n := 13) (lo := -2147483648) (hi := 2147483647) (nx := 15) (by decide +kernel) (by first | decide | exact ⟨by decide, by decide⟩) (by first | omega | exact ⟨by omega, by omega⟩) (by first | decide | exact ⟨by decide, by decide⟩) ?_
        intro h12 eh12 Ih12
        have Rh12 : zMR ms215 h h12 := RhL1.w (a1 := 168) (a2 := 168) (j1 := 0) (j2 := 13) (by decide +kernel) (by first | decide | exact ⟨by decide, by decide⟩) (by first | omega | exact ⟨by omega, by omega⟩) eh12
        refine zwW_inc (i := 1) (c := 1) (x := kL1) (nx := 18) (by decide +kernel) rfl (by first | omega | exact ⟨by omega, by omega⟩) (ls' := [(2, 37), (0, (kL1 + 1))]) rfl ?_
        refine zwW_p [(24, 2, 0)] (q := 2) (ls' := [(2, 37), (0, (kL1 + 1))]) (st' := []) (by decide +kernel) rfl ?_
        exact IHL1 ((100 - (kL1 + 1))).toNat (by omega) (kL1 + 1) h12 rfl (by omega) Ih12 Rh12
  exact L1 _ 0 h rfl (by omega) I R
def ms225 : Zms := [(168, 168, 0, 13)]
-- WheelLandModel.asksOf(I)V
theorem m225 {sc : List Int} (h : Hp) (I : zI h) (a : Int) (p1 : 0 ≤ a) (p2 : a ≤ 19) : zwC sc 3 225 [(2, 37), (0, a)] h (zwRv (fun g => zI g ∧ zMR ms225 h g)) := by
  refine zwC_of (D := 2) 2 (by decide +kernel) rfl (ls := [(2, 37), (0, a)]) rfl ?_
  have R : zMR ms225 h h := zMR.rf _ _
  refine zwW_p [(1, 0, 2)] (q := 1) (ls' := [(2, 37), (0, a)]) (st' := [(2, 37)]) (by decide +kernel) rfl ?_
  refine zwW_cmv I (op := 60) (k' := 215) (n := 0) (kd := 13) (m := 97) (nx := 4) (r := 37) (tl := []) (st' := []) (by decide +kernel) rfl (by decide +kernel) rfl (m215 h I) ?_
  rintro h1 ⟨Ih1, Qh1⟩
  have Rh1 : zMR ms225 h h1 := R.tr Qh1 (by decide +kernel)
  refine zwW_p [(1, 0, 2)] (q := 5) (ls' := [(2, 37), (0, a)]) (st' := [(2, 37)]) (by decide +kernel) rfl ?_
  refine zwW_gc Ih1 (kd := 13) (bn := 56) (n := 97) (c := 168) (nx := 8) (by decide +kernel) ?_
  refine zwW_p [(0, 2, 0), (1, 0, 2)] (q := 10) (ls' := [(2, 37), (0, a)]) (st' := [(2, 37), (0, 2), (2, 168)]) (by decide +kernel) rfl ?_
  refine zwW_gc Ih1 (kd := 13) (bn := 24) (n := 97) (c := 83) (nx := 13) (by decide +kernel) ?_
  refine zwW_p [(1, 1, 0)] (q := 14) (ls' := [(2, 37), (0, a)]) (st' := [(0, a), (2, 83), (0, 2), (2, 168)]) (by decide +kernel) rfl ?_
  refine zwW_al Ih1 (a1 := 83) (a2 := 83) (kd := 20) (n := 20) (t := 0) (lo := 0) (hi := 9) (nx := 15) (by decide +kernel) (by first | decide | exact ⟨by decide, by decide⟩) (by first | omega | exact ⟨by omega, by omega⟩) ?_
  intro v2 ev2 lv2 uv2
  refine zwW_as Ih1 (a1 := 168) (a2 := 168) (n := 13) (lo := -2147483648) (hi := 2147483647) (nx := 16) (by decide +kernel) (by first | decide | exact ⟨by decide, by decide⟩) (by first | decide | exact ⟨by decide, by decide⟩) (by first | omega | exact ⟨by omega, by omega⟩) ?_
  intro h3 eh3 Ih3
  have Rh3 : zMR ms225 h h3 := Rh1.w (a1 := 168) (a2 := 168) (j1 := 0) (j2 := 13) (by decide +kernel) (by first | decide | exact ⟨by decide, by decide⟩) (by first | decide | exact ⟨by decide, by decide⟩) eh3
  refine zwW_p [(1, 0, 2)] (q := 17) (ls' := [(2, 37), (0, a)]) (st' := [(2, 37)]) (by decide +kernel) rfl ?_
  refine zwW_gc Ih3 (kd := 13) (bn := 56) (n := 97) (c := 168) (nx := 20) (by decide +kernel) ?_
  refine zwW_p [(0, 3, 0), (1, 0, 2)] (q := 22) (ls' := [(2, 37), (0, a)]) (st' := [(2, 37), (0, 3), (2, 168)]) (by decide +kernel) rfl ?_
  refine zwW_gc Ih3 (kd := 13) (bn := 21) (n := 97) (c := 80) (nx := 25) (by decide +kernel) ?_
  refine zwW_p [(1, 1, 0)] (q := 26) (ls' := [(2, 37), (0, a)]) (st' := [(0, a), (2, 80), (0, 3), (2, 168)]) (by decide +kernel) rfl ?_
  refine zwW_al Ih3 (a1 := 80) (a2 := 80) (kd := 20) (n := 20) (t := 0) (lo := 0) (hi := 5) (nx := 27) (by decide +kernel) (by first | decide | exact ⟨by decide, by decide⟩) (by first | omega | exact ⟨by omega, by omega⟩) ?_
  intro v4 ev4 lv4 uv4
  refine zwW_as Ih3 (a1 := 168) (a2 := 168) (n := 13) (lo := -2147483648) (hi := 2147483647) (nx := 28) (by decide +kernel) (by first | decide | exact ⟨by decide, by decide⟩) (by first | decide | exact ⟨by decide, by decide⟩) (by first | omega | exact ⟨by omega, by omega⟩) ?_
  intro h5 eh5 Ih5
  have Rh5 : zMR ms225 h h5 := Rh3.w (a1 := 168) (a2 := 168) (j1 := 0) (j2 := 13) (by decide +kernel) (by first | decide | exact ⟨by decide, by decide⟩) (by first | decide | exact ⟨by decide, by decide⟩) eh5
  refine zwW_p [(1, 0, 2)] (q := 29) (ls' := [(2, 37), (0, a)]) (st' := [(2, 37)]) (by decide +kernel) rfl ?_
  refine zwW_gc Ih5 (kd := 13) (bn := 56) (n := 97) (c := 168) (nx := 32) (by decide +kernel) ?_
  refine zwW_p [(0, 4, 0), (1, 0, 2)] (q := 34) (ls' := [(2, 37), (0, a)]) (st' := [(2, 37), (0, 4), (2, 168)]) (by decide +kernel) rfl ?_
  refine zwW_gc Ih5 (kd := 13) (bn := 22) (n := 97) (c := 81) (nx := 37) (by decide +kernel) ?_
  refine zwW_p [(1, 1, 0)] (q := 38) (ls' := [(2, 37), (0, a)]) (st' := [(0, a), (2, 81), (0, 4), (2, 168)]) (by decide +kernel) rfl ?_
  refine zwW_al Ih5 (a1 := 81) (a2 := 81) (kd := 20) (n := 20) (t := 0) (lo := 0) (hi := 9) (nx := 39) (by decide +kernel) (by first | decide | exact ⟨by decide, by decide⟩) (by first | omega | exact ⟨by omega, by omega⟩) ?_
  intro v6 ev6 lv6 uv6
  refine zwW_as Ih5 (a1 := 168) (a2 := 168) (n := 13) (lo := -2147483648) (hi := 2147483647) (nx := 40) (by decide +kernel) (by first | decide | exact ⟨by decide, by decide⟩) (by first | decide | exact ⟨by decide, by decide⟩) (by first | omega | exact ⟨by omega, by omega⟩) ?_
  intro h7 eh7 Ih7
  have Rh7 : zMR ms225 h h7 := Rh5.w (a1 := 168) (a2 := 168) (j1 := 0) (j2 := 13) (by decide +kernel) (by first | decide | exact ⟨by decide, by decide⟩) (by first | decide | exact ⟨by decide, by decide⟩) eh7
  refine zwW_p [(1, 0, 2)] (q := 41) (ls' := [(2, 37), (0, a)]) (st' := [(2, 37)]) (by decide +kernel) rfl ?_
  refine zwW_gc Ih7 (kd := 13) (bn := 56) (n := 97) (c := 168) (nx := 44) (by decide +kernel) ?_
  refine zwW_p [(0, 5, 0), (1, 0, 2)] (q := 46) (ls' := [(2, 37), (0, a)]) (st' := [(2, 37), (0, 5), (2, 168)]) (by decide +kernel) rfl ?_
  refine zwW_gc Ih7 (kd := 13) (bn := 23) (n := 97) (c := 82) (nx := 49) (by decide +kernel) ?_
  refine zwW_p [(1, 1, 0)] (q := 50) (ls' := [(2, 37), (0, a)]) (st' := [(0, a), (2, 82), (0, 5), (2, 168)]) (by decide +kernel) rfl ?_
  refine zwW_al Ih7 (a1 := 82) (a2 := 82) (kd := 20) (n := 20) (t := 0) (lo := 0) (hi := 5) (nx := 51) (by decide +kernel) (by first | decide | exact ⟨by decide, by decide⟩) (by first | omega | exact ⟨by omega, by omega⟩) ?_
  intro v8 ev8 lv8 uv8
  refine zwW_as Ih7 (a1 := 168) (a2 := 168) (n := 13) (lo := -2147483648) (hi := 2147483647) (nx := 52) (by decide +kernel) (by first | decide | exact ⟨by decide, by decide⟩) (by first | decide | exact ⟨by decide, by decide⟩) (by first | omega | exact ⟨by omega, by omega⟩) ?_
  intro h9 eh9 Ih9
  have Rh9 : zMR ms225 h h9 := Rh7.w (a1 := 168) (a2 := 168) (j1 := 0) (j2 := 13) (by decide +kernel) (by first | decide | exact ⟨by decide, by decide⟩) (by first | decide | exact ⟨by decide, by decide⟩) eh9
  refine zwW_p [(1, 0, 2)] (q := 53) (ls' := [(2, 37), (0, a)]) (st' := [(2, 37)]) (by decide +kernel) rfl ?_
  refine zwW_gc Ih9 (kd := 13) (bn := 56) (n := 97) (c := 168) (nx := 56) (by decide +kernel) ?_
  refine zwW_p [(0, 10, 0), (1, 0, 2)] (q := 59) (ls' := [(2, 37), (0, a)]) (st' := [(2, 37), (0, 10), (2, 168)]) (by decide +kernel) rfl ?_
  refine zwW_gc Ih9 (kd := 13) (bn := 3) (n := 97) (c := 38) (nx := 62) (by decide +kernel) ?_
  refine zwW_p [(1, 0, 2)] (q := 63) (ls' := [(2, 37), (0, a)]) (st' := [(2, 37), (2, 38), (0, 10), (2, 168)]) (by decide +kernel) rfl ?_
  refine zwW_gc Ih9 (kd := 13) (bn := 20) (n := 97) (c := 79) (nx := 66) (by decide +kernel) ?_
  refine zwW_p [(1, 1, 0)] (q := 67) (ls' := [(2, 37), (0, a)]) (st' := [(0, a), (2, 79), (2, 38), (0, 10), (2, 168)]) (by decide +kernel) rfl ?_
  refine zwW_al Ih9 (a1 := 79) (a2 := 79) (kd := 20) (n := 20) (t := 0) (lo := 0) (hi := 7) (nx := 68) (by decide +kernel) (by first | decide | exact ⟨by decide, by decide⟩) (by first | omega | exact ⟨by omega, by omega⟩) ?_
  intro v10 ev10 lv10 uv10
  refine zwW_ro Ih9 (a := 38) (n := 8) (kd := 26) (base := 39) (step := 1) (nx := 69) (by decide +kernel) rfl (by first | omega | exact ⟨by omega, by omega⟩) ?_
  rw [show ((39 : Nat) : Int) + ((1 : Nat) : Int) * v10 = (39 + v10) by omega]
  refine zwW_p [(1, 0, 2)] (q := 70) (ls' := [(2, 37), (0, a)]) (st' := [(2, 37), (2, (39 + v10)), (0, 10), (2, 168)]) (by decide +kernel) rfl ?_
  refine zwW_gs Ih9 (kd := 13) (bn := 0) (n := 97) (t := 0) (lo := 0) (hi := 156) (nx := 73) (by decide +kernel) ?_
  intro v11 ev11 lv11 uv11
  refine zwW_cs (k' := 174) (n := 1) (nx := 76) (as := [(0, v11)]) (st' := [(2, (39 + v10)), (0, 10), (2, 168)]) (by decide +kernel) rfl (m174 h9 v11 (by omega) (by omega)) rfl ?_
  rintro v12 _ ⟨rfl, f13, f14, f15, f16⟩
  refine zwW_al Ih9 (a1 := 39) (a2 := 46) (kd := 20) (n := 4) (t := 0) (lo := 0) (hi := 40) (nx := 77) (by decide +kernel) (by first | omega | exact ⟨by omega, by omega⟩) (by first | omega | exact ⟨by omega, by omega⟩) ?_
  intro v17 ev17 lv17 uv17
  refine zwW_as Ih9 (a1 := 168) (a2 := 168) (n := 13) (lo := -2147483648) (hi := 2147483647) (nx := 78) (by decide +kernel) (by first | decide | exact ⟨by decide, by decide⟩) (by first | decide | exact ⟨by decide, by decide⟩) (by first | omega | exact ⟨by omega, by omega⟩) ?_
  intro h18 eh18 Ih18
  have Rh18 : zMR ms225 h h18 := Rh9.w (a1 := 168) (a2 := 168) (j1 := 0) (j2 := 13) (by decide +kernel) (by first | decide | exact ⟨by decide, by decide⟩) (by first | decide | exact ⟨by decide, by decide⟩) eh18
  refine zwW_retv (nx := 79) (a := 0) (b := 0) (by decide +kernel) ?_
  exact ⟨Ih18, Rh18⟩
def ms176 : Zms := [(168, 168, 0, 13)]
-- WheelLandModel.asksOf(IIIIII)V
theorem m176 {sc : List Int} (h : Hp) (I : zI h) (a b c d e f : Int) (q_b : -2147483648 ≤ b ∧ b ≤ 2147483647) (q_c : -2147483648 ≤ c ∧ c ≤ 2147483647) (q_d : -2147483648 ≤ d ∧ d ≤ 2147483647) (q_e : -2147483648 ≤ e ∧ e ≤ 2147483647) (q_f : -2147483648 ≤ f ∧ f ≤ 2147483647) (p1 : 0 ≤ a) (p2 : a ≤ 19) : zwC sc 4 176 [(2, 37), (0, a), (0, b), (0, c), (0, d), (0, e), (0, f)] h (zwRv (fun g => zI g ∧ zMR ms176 h g)) := by
  refine zwC_of (D := 3) 7 (by decide +kernel) rfl (ls := [(2, 37), (0, a), (0, b), (0, c), (0, d), (0, e), (0, f)]) rfl ?_
  have R : zMR ms176 h h := zMR.rf _ _
  refine zwW_p [(1, 0, 2), (1, 1, 0)] (q := 2) (ls' := [(2, 37), (0, a), (0, b), (0, c), (0, d), (0, e), (0, f)]) (st' := [(0, a), (2, 37)]) (by decide +kernel) rfl ?_
  refine zwW_cmv I (op := 60) (k' := 225) (n := 1) (kd := 13) (m := 97) (nx := 5) (r := 37) (tl := [(0, a)]) (st' := []) (by decide +kernel) rfl (by decide +kernel) rfl (m225 h I a (by omega) (by omega)) ?_
  rintro h1 ⟨Ih1, Qh1⟩
  have Rh1 : zMR ms176 h h1 := R.tr Qh1 (by decide +kernel)
  refine zwW_p [(1, 0, 2)] (q := 6) (ls' := [(2, 37), (0, a), (0, b), (0, c), (0, d), (0, e), (0, f)]) (st' := [(2, 37)]) (by decide +kernel) rfl ?_
  refine zwW_gc Ih1 (kd := 13) (bn := 56) (n := 97) (c := 168) (nx := 9) (by decide +kernel) ?_
  refine zwW_p [(0, 6, 0), (1, 2, 0)] (q := 12) (ls' := [(2, 37), (0, a), (0, b), (0, c), (0, d), (0, e), (0, f)]) (st' := [(0, b), (0, 6), (2, 168)]) (by decide +kernel) rfl ?_
  refine zwW_as Ih1 (a1 := 168) (a2 := 168) (n := 13) (lo := -2147483648) (hi := 2147483647) (nx := 13) (by decide +kernel) (by first | decide | exact ⟨by decide, by decide⟩) (by first | decide | exact ⟨by decide, by decide⟩) (by first | omega | exact ⟨by omega, by omega⟩) ?_
  intro h2 eh2 Ih2
  have Rh2 : zMR ms176 h h2 := Rh1.w (a1 := 168) (a2 := 168) (j1 := 0) (j2 := 13) (by decide +kernel) (by first | decide | exact ⟨by decide, by decide⟩) (by first | decide | exact ⟨by decide, by decide⟩) eh2
  refine zwW_p [(1, 0, 2)] (q := 14) (ls' := [(2, 37), (0, a), (0, b), (0, c), (0, d), (0, e), (0, f)]) (st' := [(2, 37)]) (by decide +kernel) rfl ?_
  refine zwW_gc Ih2 (kd := 13) (bn := 56) (n := 97) (c := 168) (nx := 17) (by decide +kernel) ?_
  refine zwW_p [(0, 7, 0), (1, 3, 0)] (q := 20) (ls' := [(2, 37), (0, a), (0, b), (0, c), (0, d), (0, e), (0, f)]) (st' := [(0, c), (0, 7), (2, 168)]) (by decide +kernel) rfl ?_
  refine zwW_as Ih2 (a1 := 168) (a2 := 168) (n := 13) (lo := -2147483648) (hi := 2147483647) (nx := 21) (by decide +kernel) (by first | decide | exact ⟨by decide, by decide⟩) (by first | decide | exact ⟨by decide, by decide⟩) (by first | omega | exact ⟨by omega, by omega⟩) ?_
  intro h3 eh3 Ih3
  have Rh3 : zMR ms176 h h3 := Rh2.w (a1 := 168) (a2 := 168) (j1 := 0) (j2 := 13) (by decide +kernel) (by first | decide | exact ⟨by decide, by decide⟩) (by first | decide | exact ⟨by decide, by decide⟩) eh3
  refine zwW_p [(1, 0, 2)] (q := 22) (ls' := [(2, 37), (0, a), (0, b), (0, c), (0, d), (0, e), (0, f)]) (st' := [(2, 37)]) (by decide +kernel) rfl ?_
  refine zwW_gc Ih3 (kd := 13) (bn := 56) (n := 97) (c := 168) (nx := 25) (by decide +kernel) ?_
  refine zwW_p [(0, 8, 0), (1, 4, 0)] (q := 29) (ls' := [(2, 37), (0, a), (0, b), (0, c), (0, d), (0, e), (0, f)]) (st' := [(0, d), (0, 8), (2, 168)]) (by decide +kernel) rfl ?_
  refine zwW_as Ih3 (a1 := 168) (a2 := 168) (n := 13) (lo := -2147483648) (hi := 2147483647) (nx := 30) (by decide +kernel) (by first | decide | exact ⟨by decide, by decide⟩) (by first | decide | exact ⟨by decide, by decide⟩) (by first | omega | exact ⟨by omega, by omega⟩) ?_
  intro h4 eh4 Ih4
  have Rh4 : zMR ms176 h h4 := Rh3.w (a1 := 168) (a2 := 168) (j1 := 0) (j2 := 13) (by decide +kernel) (by first | decide | exact ⟨by decide, by decide⟩) (by first | decide | exact ⟨by decide, by decide⟩) eh4
  refine zwW_p [(1, 0, 2)] (q := 31) (ls' := [(2, 37), (0, a), (0, b), (0, c), (0, d), (0, e), (0, f)]) (st' := [(2, 37)]) (by decide +kernel) rfl ?_
  refine zwW_gc Ih4 (kd := 13) (bn := 56) (n := 97) (c := 168) (nx := 34) (by decide +kernel) ?_
  refine zwW_p [(0, 9, 0), (1, 5, 0)] (q := 38) (ls' := [(2, 37), (0, a), (0, b), (0, c), (0, d), (0, e), (0, f)]) (st' := [(0, e), (0, 9), (2, 168)]) (by decide +kernel) rfl ?_
  refine zwW_as Ih4 (a1 := 168) (a2 := 168) (n := 13) (lo := -2147483648) (hi := 2147483647) (nx := 39) (by decide +kernel) (by first | decide | exact ⟨by decide, by decide⟩) (by first | decide | exact ⟨by decide, by decide⟩) (by first | omega | exact ⟨by omega, by omega⟩) ?_
  intro h5 eh5 Ih5
  have Rh5 : zMR ms176 h h5 := Rh4.w (a1 := 168) (a2 := 168) (j1 := 0) (j2 := 13) (by decide +kernel) (by first | decide | exact ⟨by decide, by decide⟩) (by first | decide | exact ⟨by decide, by decide⟩) eh5
  refine zwW_p [(1, 0, 2)] (q := 40) (ls' := [(2, 37), (0, a), (0, b), (0, c), (0, d), (0, e), (0, f)]) (st' := [(2, 37)]) (by decide +kernel) rfl ?_
  refine zwW_gc Ih5 (kd := 13) (bn := 56) (n := 97) (c := 168) (nx := 43) (by decide +kernel) ?_
  refine zwW_p [(0, 11, 0), (1, 6, 0)] (q := 47) (ls' := [(2, 37), (0, a), (0, b), (0, c), (0, d), (0, e), (0, f)]) (st' := [(0, f), (0, 11), (2, 168)]) (by decide +kernel) rfl ?_
  refine zwW_as Ih5 (a1 := 168) (a2 := 168) (n := 13) (lo := -2147483648) (hi := 2147483647) (nx := 48) (by decide +kernel) (by first | decide | exact ⟨by decide, by decide⟩) (by first | decide | exact ⟨by decide, by decide⟩) (by first | omega | exact ⟨by omega, by omega⟩) ?_
  intro h6 eh6 Ih6
  have Rh6 : zMR ms176 h h6 := Rh5.w (a1 := 168) (a2 := 168) (j1 := 0) (j2 := 13) (by decide +kernel) (by first | decide | exact ⟨by decide, by decide⟩) (by first | decide | exact ⟨by decide, by decide⟩) eh6
  refine zwW_retv (nx := 49) (a := 0) (b := 0) (by decide +kernel) ?_
  exact ⟨Ih6, Rh6⟩
-- WheelLandModel.done(III)I
theorem m209 {sc : List Int} (h : Hp) (a b c : Int) (q_b : -2147483648 ≤ b ∧ b ≤ 2147483647) (q_c : -2147483648 ≤ c ∧ c ≤ 2147483647) : zwC sc 2 209 [(0, a), (0, b), (0, c)] h (zwRt 0 (fun x g => h = g ∧ (-2147483648 ≤ x ∧ x ≤ 2147483647) ∧ (-2147483648 ≤ x) ∧ (x ≤ 2147483647))) := by
  refine zwC_of (D := 1) 3 (by decide +kernel) rfl (ls := [(0, a), (0, b), (0, c)]) rfl ?_
  refine zwW_p [(1, 0, 0)] (q := 1) (ls' := [(0, a), (0, b), (0, c)]) (st' := [(0, a)]) (by decide +kernel) rfl ?_
  refine zwW_sw (d := 192) (os := [38, 188, 39, 192, 40, 192, 41, 192, 42, 134, 43, 116, 44, 192, 45, 125, 46, 192, 47, 143, 48, 192, 49, 192, 50, 192, 51, 192, 52, 192, 53, 192, 54, 192, 55, 192, 56, 192, 57, 192, 58, 192, 59, 192, 60, 155, 61, 177, 62, 166]) (by decide +kernel) ?_
  refine ⟨fun c1 => ?_, fun c1 => ?_⟩
  · show zwW _ _ _ 188 _ _ _ _
    refine zwW_p [(1, 1, 0), (1, 2, 0)] (q := 190) (ls' := [(0, a), (0, b), (0, c)]) (st' := [(0, c), (0, b)]) (by decide +kernel) rfl ?_
    refine zwW_any2 (a := 5) (nx := 191) (by decide +kernel) rfl (by first | omega | exact ⟨by omega, by omega⟩) (Or.inr (by first | decide | exact ⟨by decide, by decide⟩)) ?_
    intro v2 lv2 uv2
    refine zwW_ret (nx := 192) (a := 0) (b := 0) (by decide +kernel) rfl (Or.inl rfl) ?_
    exact ⟨rfl, by omega, by omega, by omega⟩
  refine ⟨fun c3 => ?_, fun c3 => ?_⟩
  · show zwW _ _ _ 192 _ _ _ _
    refine zwW_p [(1, 1, 0), (1, 2, 0)] (q := 194) (ls' := [(0, a), (0, b), (0, c)]) (st' := [(0, c), (0, b)]) (by decide +kernel) rfl ?_
    refine zwW_any2 (a := 6) (nx := 195) (by decide +kernel) rfl (by first | omega | exact ⟨by omega, by omega⟩) (Or.inr (by first | decide | exact ⟨by decide, by decide⟩)) ?_
    intro v4 lv4 uv4
    refine zwW_ret (nx := 196) (a := 0) (b := 0) (by decide +kernel) rfl (Or.inl rfl) ?_
    exact ⟨rfl, by omega, by omega, by omega⟩
  refine ⟨fun c5 => ?_, fun c5 => ?_⟩
  · show zwW _ _ _ 192 _ _ _ _
    refine zwW_p [(1, 1, 0), (1, 2, 0)] (q := 194) (ls' := [(0, a), (0, b), (0, c)]) (st' := [(0, c), (0, b)]) (by decide +kernel) rfl ?_
    refine zwW_any2 (a := 6) (nx := 195) (by decide +kernel) rfl (by first | omega | exact ⟨by omega, by omega⟩) (Or.inr (by first | decide | exact ⟨by decide, by decide⟩)) ?_
    intro v6 lv6 uv6
    refine zwW_ret (nx := 196) (a := 0) (b := 0) (by decide +kernel) rfl (Or.inl rfl) ?_
    exact ⟨rfl, by omega, by omega, by omega⟩
  refine ⟨fun c7 => ?_, fun c7 => ?_⟩
  · show zwW _ _ _ 192 _ _ _ _
    refine zwW_p [(1, 1, 0), (1, 2, 0)] (q := 194) (ls' := [(0, a), (0, b), (0, c)]) (st' := [(0, c), (0, b)]) (by decide +kernel) rfl ?_
    refine zwW_any2 (a := 6) (nx := 195) (by decide +kernel) rfl (by first | omega | exact ⟨by omega, by omega⟩) (Or.inr (by first | decide | exact ⟨by decide, by decide⟩)) ?_
    intro v8 lv8 uv8
    refine zwW_ret (nx := 196) (a := 0) (b := 0) (by decide +kernel) rfl (Or.inl rfl) ?_
    exact ⟨rfl, by omega, by omega, by omega⟩
  refine ⟨fun c9 => ?_, fun c9 => ?_⟩
  · show zwW _ _ _ 134 _ _ _ _
    refine zwW_p [(1, 1, 0), (7, 0, 0), (1, 2, 0), (7, 0, 0)] (q := 138) (ls' := [(0, a), (0, b), (0, c)]) (st' := [(1, c), (1, b)]) (by decide +kernel) rfl ?_
    refine zwW_lmw (nx := 139) (by decide +kernel) ?_
    intro v10 ev10 lv10 uv10
    refine zwW_cs (k' := 252) (n := 1) (nx := 142) (as := [(1, v10)]) (st' := []) (by decide +kernel) rfl (m252 h v10) rfl ?_
    rintro v11 _ ⟨rfl, f12, f13, f14, f15⟩
    refine zwW_ret (nx := 143) (a := 0) (b := 0) (by decide +kernel) rfl (Or.inl rfl) ?_
    exact ⟨rfl, by omega, by omega, by omega⟩
  refine ⟨fun c16 => ?_, fun c16 => ?_⟩
  · show zwW _ _ _ 116 _ _ _ _
    refine zwW_p [(1, 1, 0), (7, 0, 0), (1, 2, 0), (7, 0, 0)] (q := 120) (ls' := [(0, a), (0, b), (0, c)]) (st' := [(1, c), (1, b)]) (by decide +kernel) rfl ?_
    refine zwW_ladd (nx := 121) (by decide +kernel) (by first | omega | exact ⟨by omega, by omega⟩) ?_
    refine zwW_cs (k' := 252) (n := 1) (nx := 124) (as := [(1, (b + c))]) (st' := []) (by decide +kernel) rfl (m252 h (b + c)) rfl ?_
    rintro v17 _ ⟨rfl, f18, f19, f20, f21⟩
    refine zwW_ret (nx := 125) (a := 0) (b := 0) (by decide +kernel) rfl (Or.inl rfl) ?_
    exact ⟨rfl, by omega, by omega, by omega⟩
  refine ⟨fun c22 => ?_, fun c22 => ?_⟩
  · show zwW _ _ _ 192 _ _ _ _
    refine zwW_p [(1, 1, 0), (1, 2, 0)] (q := 194) (ls' := [(0, a), (0, b), (0, c)]) (st' := [(0, c), (0, b)]) (by decide +kernel) rfl ?_
    refine zwW_any2 (a := 6) (nx := 195) (by decide +kernel) rfl (by first | omega | exact ⟨by omega, by omega⟩) (Or.inr (by first | decide | exact ⟨by decide, by decide⟩)) ?_
    intro v23 lv23 uv23
    refine zwW_ret (nx := 196) (a := 0) (b := 0) (by decide +kernel) rfl (Or.inl rfl) ?_
    exact ⟨rfl, by omega, by omega, by omega⟩
  refine ⟨fun c24 => ?_, fun c24 => ?_⟩
  · show zwW _ _ _ 125 _ _ _ _
    refine zwW_p [(1, 1, 0), (7, 0, 0), (1, 2, 0), (7, 0, 0)] (q := 129) (ls' := [(0, a), (0, b), (0, c)]) (st' := [(1, c), (1, b)]) (by decide +kernel) rfl ?_
    refine zwW_lsub (nx := 130) (by decide +kernel) (by first | omega | exact ⟨by omega, by omega⟩) ?_
    refine zwW_cs (k' := 252) (n := 1) (nx := 133) (as := [(1, (b - c))]) (st' := []) (by decide +kernel) rfl (m252 h (b - c)) rfl ?_
    rintro v25 _ ⟨rfl, f26, f27, f28, f29⟩
    refine zwW_ret (nx := 134) (a := 0) (b := 0) (by decide +kernel) rfl (Or.inl rfl) ?_
    exact ⟨rfl, by omega, by omega, by omega⟩
  refine ⟨fun c30 => ?_, fun c30 => ?_⟩
  · show zwW _ _ _ 192 _ _ _ _
    refine zwW_p [(1, 1, 0), (1, 2, 0)] (q := 194) (ls' := [(0, a), (0, b), (0, c)]) (st' := [(0, c), (0, b)]) (by decide +kernel) rfl ?_
    refine zwW_any2 (a := 6) (nx := 195) (by decide +kernel) rfl (by first | omega | exact ⟨by omega, by omega⟩) (Or.inr (by first | decide | exact ⟨by decide, by decide⟩)) ?_
    intro v31 lv31 uv31
    refine zwW_ret (nx := 196) (a := 0) (b := 0) (by decide +kernel) rfl (Or.inl rfl) ?_
    exact ⟨rfl, by omega, by omega, by omega⟩
  refine ⟨fun c32 => ?_, fun c32 => ?_⟩
  · show zwW _ _ _ 143 _ _ _ _
    refine zwW_p [(1, 2, 0)] (q := 144) (ls' := [(0, a), (0, b), (0, c)]) (st' := [(0, c)]) (by decide +kernel) rfl ?_
    refine zwif_ne (q := 151) (nx := 147) (by decide +kernel) (fun c33 => ?_) (fun c33 => ?_)
    · refine zwW_p [(1, 1, 0), (1, 2, 0)] (q := 153) (ls' := [(0, a), (0, b), (0, c)]) (st' := [(0, c), (0, b)]) (by decide +kernel) rfl ?_
      refine zwW_any2 (a := 3) (nx := 154) (by decide +kernel) rfl (by first | omega | exact ⟨by omega, by omega⟩) (Or.inl (by omega)) ?_
      intro v34 lv34 uv34
      refine zwW_ret (nx := 155) (a := 0) (b := 0) (by decide +kernel) rfl (Or.inl rfl) ?_
      exact ⟨rfl, by omega, by omega, by omega⟩
    · refine zwW_p [(0, 0, 0), (24, 154, 0)] (q := 154) (ls' := [(0, a), (0, b), (0, c)]) (st' := [(0, 0)]) (by decide +kernel) rfl ?_
      refine zwW_ret (nx := 155) (a := 0) (b := 0) (by decide +kernel) rfl (Or.inl rfl) ?_
      exact ⟨rfl, by omega, by omega, by omega⟩
  refine ⟨fun c35 => ?_, fun c35 => ?_⟩
  · show zwW _ _ _ 192 _ _ _ _
    refine zwW_p [(1, 1, 0), (1, 2, 0)] (q := 194) (ls' := [(0, a), (0, b), (0, c)]) (st' := [(0, c), (0, b)]) (by decide +kernel) rfl ?_
    refine zwW_any2 (a := 6) (nx := 195) (by decide +kernel) rfl (by first | omega | exact ⟨by omega, by omega⟩) (Or.inr (by first | decide | exact ⟨by decide, by decide⟩)) ?_
    intro v36 lv36 uv36
    refine zwW_ret (nx := 196) (a := 0) (b := 0) (by decide +kernel) rfl (Or.inl rfl) ?_
    exact ⟨rfl, by omega, by omega, by omega⟩
  refine ⟨fun c37 => ?_, fun c37 => ?_⟩
  · show zwW _ _ _ 192 _ _ _ _
    refine zwW_p [(1, 1, 0), (1, 2, 0)] (q := 194) (ls' := [(0, a), (0, b), (0, c)]) (st' := [(0, c), (0, b)]) (by decide +kernel) rfl ?_
    refine zwW_any2 (a := 6) (nx := 195) (by decide +kernel) rfl (by first | omega | exact ⟨by omega, by omega⟩) (Or.inr (by first | decide | exact ⟨by decide, by decide⟩)) ?_
    intro v38 lv38 uv38
    refine zwW_ret (nx := 196) (a := 0) (b := 0) (by decide +kernel) rfl (Or.inl rfl) ?_
    exact ⟨rfl, by omega, by omega, by omega⟩
  refine ⟨fun c39 => ?_, fun c39 => ?_⟩
  · show zwW _ _ _ 192 _ _ _ _
    refine zwW_p [(1, 1, 0), (1, 2, 0)] (q := 194) (ls' := [(0, a), (0, b), (0, c)]) (st' := [(0, c), (0, b)]) (by decide +kernel) rfl ?_
    refine zwW_any2 (a := 6) (nx := 195) (by decide +kernel) rfl (by first | omega | exact ⟨by omega, by omega⟩) (Or.inr (by first | decide | exact ⟨by decide, by decide⟩)) ?_
    intro v40 lv40 uv40
    refine zwW_ret (nx := 196) (a := 0) (b := 0) (by decide +kernel) rfl (Or.inl rfl) ?_
    exact ⟨rfl, by omega, by omega, by omega⟩
  refine ⟨fun c41 => ?_, fun c41 => ?_⟩
  · show zwW _ _ _ 192 _ _ _ _
    refine zwW_p [(1, 1, 0), (1, 2, 0)] (q := 194) (ls' := [(0, a), (0, b), (0, c)]) (st' := [(0, c), (0, b)]) (by decide +kernel) rfl ?_
    refine zwW_any2 (a := 6) (nx := 195) (by decide +kernel) rfl (by first | omega | exact ⟨by omega, by omega⟩) (Or.inr (by first | decide | exact ⟨by decide, by decide⟩)) ?_
    intro v42 lv42 uv42
    refine zwW_ret (nx := 196) (a := 0) (b := 0) (by decide +kernel) rfl (Or.inl rfl) ?_
    exact ⟨rfl, by omega, by omega, by omega⟩
  refine ⟨fun c43 => ?_, fun c43 => ?_⟩
  · show zwW _ _ _ 192 _ _ _ _
    refine zwW_p [(1, 1, 0), (1, 2, 0)] (q := 194) (ls' := [(0, a), (0, b), (0, c)]) (st' := [(0, c), (0, b)]) (by decide +kernel) rfl ?_
    refine zwW_any2 (a := 6) (nx := 195) (by decide +kernel) rfl (by first | omega | exact ⟨by omega, by omega⟩) (Or.inr (by first | decide | exact ⟨by decide, by decide⟩)) ?_
    intro v44 lv44 uv44
    refine zwW_ret (nx := 196) (a := 0) (b := 0) (by decide +kernel) rfl (Or.inl rfl) ?_
    exact ⟨rfl, by omega, by omega, by omega⟩
  refine ⟨fun c45 => ?_, fun c45 => ?_⟩
  · show zwW _ _ _ 192 _ _ _ _
    refine zwW_p [(1, 1, 0), (1, 2, 0)] (q := 194) (ls' := [(0, a), (0, b), (0, c)]) (st' := [(0, c), (0, b)]) (by decide +kernel) rfl ?_
    refine zwW_any2 (a := 6) (nx := 195) (by decide +kernel) rfl (by first | omega | exact ⟨by omega, by omega⟩) (Or.inr (by first | decide | exact ⟨by decide, by decide⟩)) ?_
    intro v46 lv46 uv46
    refine zwW_ret (nx := 196) (a := 0) (b := 0) (by decide +kernel) rfl (Or.inl rfl) ?_
    exact ⟨rfl, by omega, by omega, by omega⟩
  refine ⟨fun c47 => ?_, fun c47 => ?_⟩
  · show zwW _ _ _ 192 _ _ _ _
    refine zwW_p [(1, 1, 0), (1, 2, 0)] (q := 194) (ls' := [(0, a), (0, b), (0, c)]) (st' := [(0, c), (0, b)]) (by decide +kernel) rfl ?_
    refine zwW_any2 (a := 6) (nx := 195) (by decide +kernel) rfl (by first | omega | exact ⟨by omega, by omega⟩) (Or.inr (by first | decide | exact ⟨by decide, by decide⟩)) ?_
    intro v48 lv48 uv48
    refine zwW_ret (nx := 196) (a := 0) (b := 0) (by decide +kernel) rfl (Or.inl rfl) ?_
    exact ⟨rfl, by omega, by omega, by omega⟩
  refine ⟨fun c49 => ?_, fun c49 => ?_⟩
  · show zwW _ _ _ 192 _ _ _ _
    refine zwW_p [(1, 1, 0), (1, 2, 0)] (q := 194) (ls' := [(0, a), (0, b), (0, c)]) (st' := [(0, c), (0, b)]) (by decide +kernel) rfl ?_
    refine zwW_any2 (a := 6) (nx := 195) (by decide +kernel) rfl (by first | omega | exact ⟨by omega, by omega⟩) (Or.inr (by first | decide | exact ⟨by decide, by decide⟩)) ?_
    intro v50 lv50 uv50
    refine zwW_ret (nx := 196) (a := 0) (b := 0) (by decide +kernel) rfl (Or.inl rfl) ?_
    exact ⟨rfl, by omega, by omega, by omega⟩
  refine ⟨fun c51 => ?_, fun c51 => ?_⟩
  · show zwW _ _ _ 192 _ _ _ _
    refine zwW_p [(1, 1, 0), (1, 2, 0)] (q := 194) (ls' := [(0, a), (0, b), (0, c)]) (st' := [(0, c), (0, b)]) (by decide +kernel) rfl ?_
    refine zwW_any2 (a := 6) (nx := 195) (by decide +kernel) rfl (by first | omega | exact ⟨by omega, by omega⟩) (Or.inr (by first | decide | exact ⟨by decide, by decide⟩)) ?_
    intro v52 lv52 uv52
    refine zwW_ret (nx := 196) (a := 0) (b := 0) (by decide +kernel) rfl (Or.inl rfl) ?_
    exact ⟨rfl, by omega, by omega, by omega⟩
  refine ⟨fun c53 => ?_, fun c53 => ?_⟩
  · show zwW _ _ _ 192 _ _ _ _
    refine zwW_p [(1, 1, 0), (1, 2, 0)] (q := 194) (ls' := [(0, a), (0, b), (0, c)]) (st' := [(0, c), (0, b)]) (by decide +kernel) rfl ?_
    refine zwW_any2 (a := 6) (nx := 195) (by decide +kernel) rfl (by first | omega | exact ⟨by omega, by omega⟩) (Or.inr (by first | decide | exact ⟨by decide, by decide⟩)) ?_
    intro v54 lv54 uv54
    refine zwW_ret (nx := 196) (a := 0) (b := 0) (by decide +kernel) rfl (Or.inl rfl) ?_
    exact ⟨rfl, by omega, by omega, by omega⟩
  refine ⟨fun c55 => ?_, fun c55 => ?_⟩
  · show zwW _ _ _ 192 _ _ _ _
    refine zwW_p [(1, 1, 0), (1, 2, 0)] (q := 194) (ls' := [(0, a), (0, b), (0, c)]) (st' := [(0, c), (0, b)]) (by decide +kernel) rfl ?_
    refine zwW_any2 (a := 6) (nx := 195) (by decide +kernel) rfl (by first | omega | exact ⟨by omega, by omega⟩) (Or.inr (by first | decide | exact ⟨by decide, by decide⟩)) ?_
    intro v56 lv56 uv56
    refine zwW_ret (nx := 196) (a := 0) (b := 0) (by decide +kernel) rfl (Or.inl rfl) ?_
    exact ⟨rfl, by omega, by omega, by omega⟩
  refine ⟨fun c57 => ?_, fun c57 => ?_⟩
  · show zwW _ _ _ 192 _ _ _ _
    refine zwW_p [(1, 1, 0), (1, 2, 0)] (q := 194) (ls' := [(0, a), (0, b), (0, c)]) (st' := [(0, c), (0, b)]) (by decide +kernel) rfl ?_
    refine zwW_any2 (a := 6) (nx := 195) (by decide +kernel) rfl (by first | omega | exact ⟨by omega, by omega⟩) (Or.inr (by first | decide | exact ⟨by decide, by decide⟩)) ?_
    intro v58 lv58 uv58
    refine zwW_ret (nx := 196) (a := 0) (b := 0) (by decide +kernel) rfl (Or.inl rfl) ?_
    exact ⟨rfl, by omega, by omega, by omega⟩
  refine ⟨fun c59 => ?_, fun c59 => ?_⟩
  · show zwW _ _ _ 155 _ _ _ _
    refine zwW_p [(1, 1, 0), (1, 2, 0)] (q := 157) (ls' := [(0, a), (0, b), (0, c)]) (st' := [(0, c), (0, b)]) (by decide +kernel) rfl ?_
    refine zwic_ge (q := 164) (nx := 160) (by decide +kernel) (fun c60 => ?_) (fun c60 => ?_)
    · refine zwW_p [(0, 0, 0)] (q := 165) (ls' := [(0, a), (0, b), (0, c)]) (st' := [(0, 0)]) (by decide +kernel) rfl ?_
      refine zwW_ret (nx := 166) (a := 0) (b := 0) (by decide +kernel) rfl (Or.inl rfl) ?_
      exact ⟨rfl, by omega, by omega, by omega⟩
    · refine zwW_p [(0, 1, 0), (24, 165, 0)] (q := 165) (ls' := [(0, a), (0, b), (0, c)]) (st' := [(0, 1)]) (by decide +kernel) rfl ?_
      refine zwW_ret (nx := 166) (a := 0) (b := 0) (by decide +kernel) rfl (Or.inl rfl) ?_
      exact ⟨rfl, by omega, by omega, by omega⟩
  refine ⟨fun c61 => ?_, fun c61 => ?_⟩
  · show zwW _ _ _ 177 _ _ _ _
    refine zwW_p [(1, 1, 0), (1, 2, 0)] (q := 179) (ls' := [(0, a), (0, b), (0, c)]) (st' := [(0, c), (0, b)]) (by decide +kernel) rfl ?_
    refine zwic_ne (q := 186) (nx := 182) (by decide +kernel) (fun c62 => ?_) (fun c62 => ?_)
    · refine zwW_p [(0, 0, 0)] (q := 187) (ls' := [(0, a), (0, b), (0, c)]) (st' := [(0, 0)]) (by decide +kernel) rfl ?_
      refine zwW_ret (nx := 188) (a := 0) (b := 0) (by decide +kernel) rfl (Or.inl rfl) ?_
      exact ⟨rfl, by omega, by omega, by omega⟩
    · refine zwW_p [(0, 1, 0), (24, 187, 0)] (q := 187) (ls' := [(0, a), (0, b), (0, c)]) (st' := [(0, 1)]) (by decide +kernel) rfl ?_
      refine zwW_ret (nx := 188) (a := 0) (b := 0) (by decide +kernel) rfl (Or.inl rfl) ?_
      exact ⟨rfl, by omega, by omega, by omega⟩
  refine ⟨fun c63 => ?_, fun c63 => ?_⟩
  · show zwW _ _ _ 166 _ _ _ _
    refine zwW_p [(1, 1, 0), (1, 2, 0)] (q := 168) (ls' := [(0, a), (0, b), (0, c)]) (st' := [(0, c), (0, b)]) (by decide +kernel) rfl ?_
    refine zwic_le (q := 175) (nx := 171) (by decide +kernel) (fun c64 => ?_) (fun c64 => ?_)
    · refine zwW_p [(0, 0, 0)] (q := 176) (ls' := [(0, a), (0, b), (0, c)]) (st' := [(0, 0)]) (by decide +kernel) rfl ?_
      refine zwW_ret (nx := 177) (a := 0) (b := 0) (by decide +kernel) rfl (Or.inl rfl) ?_
      exact ⟨rfl, by omega, by omega, by omega⟩
    · refine zwW_p [(0, 1, 0), (24, 176, 0)] (q := 176) (ls' := [(0, a), (0, b), (0, c)]) (st' := [(0, 1)]) (by decide +kernel) rfl ?_
      refine zwW_ret (nx := 177) (a := 0) (b := 0) (by decide +kernel) rfl (Or.inl rfl) ?_
      exact ⟨rfl, by omega, by omega, by omega⟩
  show zwW _ _ _ 192 _ _ _ _
  refine zwW_p [(1, 1, 0), (1, 2, 0)] (q := 194) (ls' := [(0, a), (0, b), (0, c)]) (st' := [(0, c), (0, b)]) (by decide +kernel) rfl ?_
  refine zwW_any2 (a := 6) (nx := 195) (by decide +kernel) rfl (by first | omega | exact ⟨by omega, by omega⟩) (Or.inr (by first | decide | exact ⟨by decide, by decide⟩)) ?_
  intro v65 lv65 uv65
  refine zwW_ret (nx := 196) (a := 0) (b := 0) (by decide +kernel) rfl (Or.inl rfl) ?_
  exact ⟨rfl, by omega, by omega, by omega⟩
def ms137 : Zms := [(169, 169, 0, 420)]
-- WheelLandModel.tells(I)I
theorem m137 {sc : List Int} (h : Hp) (I : zI h) (a : Int) (p1 : 0 ≤ a) (p2 : a ≤ 4) (hW : zCW h) : zwC sc 3 137 [(2, 37), (0, a)] h (zwRt 0 (fun x g => zI g ∧ zMR ms137 h g ∧ (-2147483648 ≤ x ∧ x ≤ 2147483647))) := by
  refine zwC_of (D := 2) 7 (by decide +kernel) rfl (ls := [(2, 37), (0, a), (9, 0), (9, 0), (9, 0), (9, 0), (9, 0)]) rfl ?_
  have R : zMR ms137 h h := zMR.rf _ _
  refine zwW_p [(1, 0, 2), (1, 1, 0), (1, 0, 2)] (q := 3) (ls' := [(2, 37), (0, a), (9, 0), (9, 0), (9, 0), (9, 0), (9, 0)]) (st' := [(2, 37), (0, a), (2, 37)]) (by decide +kernel) rfl ?_
  refine zwW_gs I (kd := 13) (bn := 0) (n := 97) (t := 0) (lo := 0) (hi := 156) (nx := 6) (by decide +kernel) ?_
  intro v1 ev1 lv1 uv1
  refine zwW_cm I (op := 60) (k' := 126) (n := 2) (kd := 13) (m := 97) (nx := 9) (r := 37) (tl := [(0, a), (0, v1)]) (st' := []) (by decide +kernel) rfl (by decide +kernel) rfl (m126 h I a v1 (by omega) (by omega) (hW.2)) ?_
  rintro v2 _ ⟨rfl, f3, f4, f5⟩
  refine zwW_p [(2, 2, 0), (1, 2, 0), (0, -1, 0)] (q := 12) (ls' := [(2, 37), (0, a), (0, v2), (9, 0), (9, 0), (9, 0), (9, 0)]) (st' := [(0, -1), (0, v2)]) (by decide +kernel) rfl ?_
  refine zwic_ne (q := 30) (nx := 15) (by decide +kernel) (fun c6 => ?_) (fun c6 => ?_)
  · have B30 := I.b (a1 := 155) (a2 := 163) (j1 := 0) (j2 := 5) (lo := 0) (hi := 400) (by decide +kernel) (r := 155 + v2) (j := a.toNat) (by omega) (by omega) (by omega) (by omega)
    have W30 := hW.1 (v2).toNat a.toNat (by omega) (by omega)
    rw [show (((v2).toNat : Nat) : Int) = v2 by omega, show ((a.toNat : Nat) : Int) = a by omega] at W30
    obtain ⟨Z30, K30⟩ := W30 (by omega)
    refine zwW_p [(0, 0, 0), (2, 3, 0), (0, 0, 0), (2, 4, 0)] (q := 35) (ls' := [(2, 37), (0, a), (0, v2), (0, 0), (0, 0), (9, 0), (9, 0)]) (st' := []) (by decide +kernel) rfl ?_
    have L7 : ∀ (n : Nat) (dL7 kL7 : Int) (w5L7 w6L7 : Vl) (hL7 : Hp), n = ((1000 - kL7)).toNat → (0 ≤ kL7 ∧ kL7 ≤ fld h (155 + v2) a.toNat) → (0 ≤ dL7 ∧ dL7 ≤ kL7) → (dL7 = zdp (fld h (101 + 6 * v2 + a)) (kL7).toNat) → zI hL7 → zMR ms137 h hL7 → zwW sc (2) 137 35 [(2, 37), (0, a), (0, v2), (0, dL7), (0, kL7), w5L7, w6L7] [] hL7 (zwRt 0 (fun x g => zI g ∧ zMR ms137 h g ∧ (-2147483648 ≤ x ∧ x ≤ 2147483647))) := by
      intro n
      induction n using Nat.strongRecOn with
      | ind n IHL7 =>
        intro dL7 kL7 w5L7 w6L7 hL7 hnL7 iL7_0 iL7_1 iL7_2 IhL7 RhL7
        refine zwW_p [(1, 4, 0), (1, 0, 2)] (q := 38) (ls' := [(2, 37), (0, a), (0, v2), (0, dL7), (0, kL7), w5L7, w6L7]) (st' := [(2, 37), (0, kL7)]) (by decide +kernel) rfl ?_
        refine zwW_gc IhL7 (kd := 13) (bn := 49) (n := 97) (c := 154) (nx := 41) (by decide +kernel) ?_
        refine zwW_p [(1, 2, 0)] (q := 42) (ls' := [(2, 37), (0, a), (0, v2), (0, dL7), (0, kL7), w5L7, w6L7]) (st' := [(0, v2), (2, 154), (0, kL7)]) (by decide +kernel) rfl ?_
        refine zwW_ro IhL7 (a := 154) (n := 9) (kd := 26) (base := 155) (step := 1) (nx := 43) (by decide +kernel) rfl (by first | omega | exact ⟨by omega, by omega⟩) ?_
        rw [show ((155 : Nat) : Int) + ((1 : Nat) : Int) * v2 = (155 + v2) by omega]
        refine zwW_p [(1, 1, 0)] (q := 44) (ls' := [(2, 37), (0, a), (0, v2), (0, dL7), (0, kL7), w5L7, w6L7]) (st' := [(0, a), (2, (155 + v2)), (0, kL7)]) (by decide +kernel) rfl ?_
        refine zwW_al IhL7 (a1 := 155) (a2 := 163) (kd := 20) (n := 5) (t := 0) (lo := 0) (hi := 400) (nx := 45) (by decide +kernel) (by first | omega | exact ⟨by omega, by omega⟩) (by first | omega | exact ⟨by omega, by omega⟩) ?_
        intro v8 ev8 lv8 uv8
        refine zwic_ge (q := 191) (nx := 48) (by decide +kernel) (fun c9 => ?_) (fun c9 => ?_)
        · refine zwW_p [(1, 0, 2)] (q := 192) (ls' := [(2, 37), (0, a), (0, v2), (0, dL7), (0, kL7), w5L7, w6L7]) (st' := [(2, 37)]) (by decide +kernel) rfl ?_
          refine zwW_gc IhL7 (kd := 13) (bn := 57) (n := 97) (c := 169) (nx := 195) (by decide +kernel) ?_
          refine zwW_p [(0, 0, 0)] (q := 196) (ls' := [(2, 37), (0, a), (0, v2), (0, dL7), (0, kL7), w5L7, w6L7]) (st' := [(0, 0), (2, 169)]) (by decide +kernel) rfl ?_
          refine zwW_al IhL7 (a1 := 169) (a2 := 169) (kd := 20) (n := 420) (t := 0) (lo := -2147483648) (hi := 2147483647) (nx := 197) (by decide +kernel) (by first | decide | exact ⟨by decide, by decide⟩) (by first | decide | exact ⟨by decide, by decide⟩) ?_
          intro v10 ev10 lv10 uv10
          refine zwW_ret (nx := 198) (a := 0) (b := 0) (by decide +kernel) rfl (Or.inl rfl) ?_
          exact ⟨IhL7, RhL7, by omega⟩
        · have C48 := RhL7.f (a1 := 155) (a2 := 163) (j1 := 0) (j2 := 5) (by decide +kernel) (r := 155 + v2) (j := a.toNat) (by first | omega | exact ⟨by omega, by omega⟩) (by first | omega | exact ⟨by omega, by omega⟩)
          refine zwW_p [(1, 0, 2)] (q := 49) (ls' := [(2, 37), (0, a), (0, v2), (0, dL7), (0, kL7), w5L7, w6L7]) (st' := [(2, 37)]) (by decide +kernel) rfl ?_
          refine zwW_gc IhL7 (kd := 13) (bn := 48) (n := 97) (c := 99) (nx := 52) (by decide +kernel) ?_
          refine zwW_p [(1, 2, 0)] (q := 53) (ls' := [(2, 37), (0, a), (0, v2), (0, dL7), (0, kL7), w5L7, w6L7]) (st' := [(0, v2), (2, 99)]) (by decide +kernel) rfl ?_
          refine zwW_ro IhL7 (a := 99) (n := 9) (kd := 27) (base := 100) (step := 6) (nx := 54) (by decide +kernel) rfl (by first | omega | exact ⟨by omega, by omega⟩) ?_
          rw [show ((100 : Nat) : Int) + ((6 : Nat) : Int) * v2 = (100 + 6 * v2) by omega]
          refine zwW_p [(1, 1, 0)] (q := 55) (ls' := [(2, 37), (0, a), (0, v2), (0, dL7), (0, kL7), w5L7, w6L7]) (st' := [(0, a), (2, (100 + 6 * v2))]) (by decide +kernel) rfl ?_
          refine zwW_ro2 IhL7 (s := v2) (nx := 56) (by decide +kernel) (by omega) (by first | omega | exact ⟨by omega, by omega⟩) (by first | omega | exact ⟨by omega, by omega⟩) ?_
          refine zwW_p [(0, 2, 0), (1, 4, 0)] (q := 59) (ls' := [(2, 37), (0, a), (0, v2), (0, dL7), (0, kL7), w5L7, w6L7]) (st' := [(0, kL7), (0, 2), (2, (101 + 6 * v2 + a))]) (by decide +kernel) rfl ?_
          refine zwW_mul (nx := 60) (by decide +kernel) (by first | omega | exact ⟨by omega, by omega⟩) ?_
          refine zwW_al3 IhL7 (s := v2) (c := a) (nx := 61) (by decide +kernel) rfl (by first | omega | exact ⟨by omega, by omega⟩) (by first | omega | exact ⟨by omega, by omega⟩) (by first | omega | exact ⟨by omega, by omega⟩) ?_
          intro v11 ev11 lv11 uv11
          refine zwW_p [(2, 5, 0), (1, 0, 2)] (q := 64) (ls' := [(2, 37), (0, a), (0, v2), (0, dL7), (0, kL7), (0, v11), w6L7]) (st' := [(2, 37)]) (by decide +kernel) rfl ?_
          refine zwW_gc IhL7 (kd := 13) (bn := 48) (n := 97) (c := 99) (nx := 67) (by decide +kernel) ?_
          refine zwW_p [(1, 2, 0)] (q := 68) (ls' := [(2, 37), (0, a), (0, v2), (0, dL7), (0, kL7), (0, v11), w6L7]) (st' := [(0, v2), (2, 99)]) (by decide +kernel) rfl ?_
          refine zwW_ro IhL7 (a := 99) (n := 9) (kd := 27) (base := 100) (step := 6) (nx := 69) (by decide +kernel) rfl (by first | omega | exact ⟨by omega, by omega⟩) ?_
          rw [show ((100 : Nat) : Int) + ((6 : Nat) : Int) * v2 = (100 + 6 * v2) by omega]
          refine zwW_p [(1, 1, 0)] (q := 70) (ls' := [(2, 37), (0, a), (0, v2), (0, dL7), (0, kL7), (0, v11), w6L7]) (st' := [(0, a), (2, (100 + 6 * v2))]) (by decide +kernel) rfl ?_
          refine zwW_ro2 IhL7 (s := v2) (nx := 71) (by decide +kernel) (by omega) (by first | omega | exact ⟨by omega, by omega⟩) (by first | omega | exact ⟨by omega, by omega⟩) ?_
          refine zwW_p [(0, 2, 0), (1, 4, 0)] (q := 74) (ls' := [(2, 37), (0, a), (0, v2), (0, dL7), (0, kL7), (0, v11), w6L7]) (st' := [(0, kL7), (0, 2), (2, (101 + 6 * v2 + a))]) (by decide +kernel) rfl ?_
          refine zwW_mul (nx := 75) (by decide +kernel) (by first | omega | exact ⟨by omega, by omega⟩) ?_
          refine zwW_p [(0, 1, 0)] (q := 76) (ls' := [(2, 37), (0, a), (0, v2), (0, dL7), (0, kL7), (0, v11), w6L7]) (st' := [(0, 1), (0, (2 * kL7)), (2, (101 + 6 * v2 + a))]) (by decide +kernel) rfl ?_
          refine zwW_add (nx := 77) (by decide +kernel) (by first | omega | exact ⟨by omega, by omega⟩) ?_
          refine zwW_al3 IhL7 (s := v2) (c := a) (nx := 78) (by decide +kernel) rfl (by first | omega | exact ⟨by omega, by omega⟩) (by first | omega | exact ⟨by omega, by omega⟩) (by first | omega | exact ⟨by omega, by omega⟩) ?_
          intro v12 ev12 lv12 uv12
          refine zwW_p [(2, 6, 0)] (q := 80) (ls' := [(2, 37), (0, a), (0, v2), (0, dL7), (0, kL7), (0, v11), (0, v12)]) (st' := []) (by decide +kernel) rfl ?_
          have F80 : ∀ j : Nat, j < 840 → fld hL7 (101 + 6 * v2 + a) j = fld h (101 + 6 * v2 + a) j := fun j hj => RhL7.f (a1 := 101) (a2 := 153) (j1 := 0) (j2 := 840) (by decide +kernel) (by first | omega | exact ⟨by omega, by omega⟩) (by first | omega | exact ⟨by omega, by omega⟩)
          have G1 : fld h (101 + 6 * v2 + a) (2 * (kL7).toNat) = v11 := by rw [← F80 _ (by omega), show 2 * (kL7).toNat = (2 * kL7).toNat by omega]; omega
          have G2 : fld h (101 + 6 * v2 + a) (2 * (kL7).toNat + 1) = v12 := by rw [← F80 _ (by omega), show 2 * (kL7).toNat + 1 = (2 * kL7 + 1).toNat by omega]; omega
          have S80 := K30 (kL7).toNat (by omega)
          have D80 : zdp (fld h (101 + 6 * v2 + a)) ((kL7).toNat + 1) = (if (fld h (101 + 6 * v2 + a)) (2 * (kL7).toNat) = 110 ∨ (fld h (101 + 6 * v2 + a)) (2 * (kL7).toNat) = 118 then zdp (fld h (101 + 6 * v2 + a)) (kL7).toNat + 1 else if (fld h (101 + 6 * v2 + a)) (2 * (kL7).toNat) = 33 then zdp (fld h (101 + 6 * v2 + a)) (kL7).toNat else zdp (fld h (101 + 6 * v2 + a)) (kL7).toNat - 1) := rfl
          unfold zst at S80
          rw [G1, G2] at S80
          rw [G1] at D80
          refine zwW_p [(1, 5, 0), (0, 110, 0)] (q := 84) (ls' := [(2, 37), (0, a), (0, v2), (0, dL7), (0, kL7), (0, v11), (0, v12)]) (st' := [(0, 110), (0, v11)]) (by decide +kernel) rfl ?_
          refine zwic_eq (q := 94) (nx := 87) (by decide +kernel) (fun c13 => ?_) (fun c13 => ?_)
          · refine zwW_p [(1, 0, 2)] (q := 95) (ls' := [(2, 37), (0, a), (0, v2), (0, dL7), (0, kL7), (0, v11), (0, v12)]) (st' := [(2, 37)]) (by decide +kernel) rfl ?_
            refine zwW_gc IhL7 (kd := 13) (bn := 57) (n := 97) (c := 169) (nx := 98) (by decide +kernel) ?_
            refine zwW_p [(1, 3, 0), (1, 5, 0), (0, 110, 0)] (q := 103) (ls' := [(2, 37), (0, a), (0, v2), (0, dL7), (0, kL7), (0, v11), (0, v12)]) (st' := [(0, 110), (0, v11), (0, dL7), (2, 169)]) (by decide +kernel) rfl ?_
            refine zwic_ne (q := 111) (nx := 106) (by decide +kernel) (fun c14 => ?_) (fun c14 => ?_)
            · exfalso; omega
            · refine zwW_p [(1, 6, 0), (24, 118, 0)] (q := 118) (ls' := [(2, 37), (0, a), (0, v2), (0, dL7), (0, kL7), (0, v11), (0, v12)]) (st' := [(0, v12), (0, dL7), (2, 169)]) (by decide +kernel) rfl ?_
              refine zwW_as IhL7 (a1 := 169) (a2 := 169) (n := 420) (lo := -2147483648) (hi := 2147483647) (nx := 119) (by decide +kernel) (by first | decide | exact ⟨by decide, by decide⟩) (by first | omega | exact ⟨by omega, by omega⟩) (by first | omega | exact ⟨by omega, by omega⟩) ?_
              intro h15 eh15 Ih15
              have Rh15 : zMR ms137 h h15 := RhL7.w (a1 := 169) (a2 := 169) (j1 := 0) (j2 := 420) (by decide +kernel) (by first | decide | exact ⟨by decide, by decide⟩) (by first | omega | exact ⟨by omega, by omega⟩) eh15
              refine zwW_inc (i := 3) (c := 1) (x := dL7) (nx := 122) (by decide +kernel) rfl (by first | omega | exact ⟨by omega, by omega⟩) (ls' := [(2, 37), (0, a), (0, v2), (0, (dL7 + 1)), (0, kL7), (0, v11), (0, v12)]) rfl ?_
              refine zwW_p [(24, 185, 0)] (q := 185) (ls' := [(2, 37), (0, a), (0, v2), (0, (dL7 + 1)), (0, kL7), (0, v11), (0, v12)]) (st' := []) (by decide +kernel) rfl ?_
              have Q185 : (dL7 + 1) = zdp (fld h (101 + 6 * v2 + a)) (kL7 + 1).toNat := by
                rw [show (kL7 + 1).toNat = (kL7).toNat + 1 by omega, D80]
                first | (rw [if_pos (by omega)]; omega) | (rw [if_neg (by omega), if_pos (by omega)]; omega) | (rw [if_neg (by omega), if_neg (by omega)]; omega)
              refine zwW_inc (i := 4) (c := 1) (x := kL7) (nx := 188) (by decide +kernel) rfl (by first | omega | exact ⟨by omega, by omega⟩) (ls' := [(2, 37), (0, a), (0, v2), (0, (dL7 + 1)), (0, (kL7 + 1)), (0, v11), (0, v12)]) rfl ?_
              refine zwW_p [(24, 35, 0)] (q := 35) (ls' := [(2, 37), (0, a), (0, v2), (0, (dL7 + 1)), (0, (kL7 + 1)), (0, v11), (0, v12)]) (st' := []) (by decide +kernel) rfl ?_
              exact IHL7 ((1000 - (kL7 + 1))).toNat (by omega) (dL7 + 1) (kL7 + 1) (0, v11) (0, v12) h15 rfl (by omega) (by omega) (Q185) Ih15 Rh15
          · refine zwW_p [(1, 5, 0), (0, 118, 0)] (q := 91) (ls' := [(2, 37), (0, a), (0, v2), (0, dL7), (0, kL7), (0, v11), (0, v12)]) (st' := [(0, 118), (0, v11)]) (by decide +kernel) rfl ?_
            refine zwic_ne (q := 125) (nx := 94) (by decide +kernel) (fun c16 => ?_) (fun c16 => ?_)
            · refine zwW_p [(1, 5, 0), (0, 33, 0)] (q := 129) (ls' := [(2, 37), (0, a), (0, v2), (0, dL7), (0, kL7), (0, v11), (0, v12)]) (st' := [(0, 33), (0, v11)]) (by decide +kernel) rfl ?_
              refine zwic_ne (q := 153) (nx := 132) (by decide +kernel) (fun c17 => ?_) (fun c17 => ?_)
              · refine zwW_p [(1, 0, 2)] (q := 154) (ls' := [(2, 37), (0, a), (0, v2), (0, dL7), (0, kL7), (0, v11), (0, v12)]) (st' := [(2, 37)]) (by decide +kernel) rfl ?_
                refine zwW_gc IhL7 (kd := 13) (bn := 57) (n := 97) (c := 169) (nx := 157) (by decide +kernel) ?_
                refine zwW_p [(1, 3, 0), (0, 2, 0)] (q := 159) (ls' := [(2, 37), (0, a), (0, v2), (0, dL7), (0, kL7), (0, v11), (0, v12)]) (st' := [(0, 2), (0, dL7), (2, 169)]) (by decide +kernel) rfl ?_
                refine zwW_sub (nx := 160) (by decide +kernel) (by first | omega | exact ⟨by omega, by omega⟩) ?_
                refine zwW_p [(1, 5, 0), (1, 0, 2)] (q := 163) (ls' := [(2, 37), (0, a), (0, v2), (0, dL7), (0, kL7), (0, v11), (0, v12)]) (st' := [(2, 37), (0, v11), (0, (dL7 - 2)), (2, 169)]) (by decide +kernel) rfl ?_
                refine zwW_gc IhL7 (kd := 13) (bn := 57) (n := 97) (c := 169) (nx := 166) (by decide +kernel) ?_
                refine zwW_p [(1, 3, 0), (0, 2, 0)] (q := 168) (ls' := [(2, 37), (0, a), (0, v2), (0, dL7), (0, kL7), (0, v11), (0, v12)]) (st' := [(0, 2), (0, dL7), (2, 169), (0, v11), (0, (dL7 - 2)), (2, 169)]) (by decide +kernel) rfl ?_
                refine zwW_sub (nx := 169) (by decide +kernel) (by first | omega | exact ⟨by omega, by omega⟩) ?_
                refine zwW_al IhL7 (a1 := 169) (a2 := 169) (kd := 20) (n := 420) (t := 0) (lo := -2147483648) (hi := 2147483647) (nx := 170) (by decide +kernel) (by first | decide | exact ⟨by decide, by decide⟩) (by first | omega | exact ⟨by omega, by omega⟩) ?_
                intro v18 ev18 lv18 uv18
                refine zwW_p [(1, 0, 2)] (q := 171) (ls' := [(2, 37), (0, a), (0, v2), (0, dL7), (0, kL7), (0, v11), (0, v12)]) (st' := [(2, 37), (0, v18), (0, v11), (0, (dL7 - 2)), (2, 169)]) (by decide +kernel) rfl ?_
                refine zwW_gc IhL7 (kd := 13) (bn := 57) (n := 97) (c := 169) (nx := 174) (by decide +kernel) ?_
                refine zwW_p [(1, 3, 0), (0, 1, 0)] (q := 176) (ls' := [(2, 37), (0, a), (0, v2), (0, dL7), (0, kL7), (0, v11), (0, v12)]) (st' := [(0, 1), (0, dL7), (2, 169), (0, v18), (0, v11), (0, (dL7 - 2)), (2, 169)]) (by decide +kernel) rfl ?_
                refine zwW_sub (nx := 177) (by decide +kernel) (by first | omega | exact ⟨by omega, by omega⟩) ?_
                refine zwW_al IhL7 (a1 := 169) (a2 := 169) (kd := 20) (n := 420) (t := 0) (lo := -2147483648) (hi := 2147483647) (nx := 178) (by decide +kernel) (by first | decide | exact ⟨by decide, by decide⟩) (by first | omega | exact ⟨by omega, by omega⟩) ?_
                intro v19 ev19 lv19 uv19
                refine zwW_cs (k' := 209) (n := 3) (nx := 181) (as := [(0, v11), (0, v18), (0, v19)]) (st' := [(0, (dL7 - 2)), (2, 169)]) (by decide +kernel) rfl (m209 hL7 v11 v18 v19 (by omega) (by omega)) rfl ?_
                rintro v20 _ ⟨rfl, f21, f22, f23⟩
                refine zwW_as IhL7 (a1 := 169) (a2 := 169) (n := 420) (lo := -2147483648) (hi := 2147483647) (nx := 182) (by decide +kernel) (by first | decide | exact ⟨by decide, by decide⟩) (by first | omega | exact ⟨by omega, by omega⟩) (by first | omega | exact ⟨by omega, by omega⟩) ?_
                intro h24 eh24 Ih24
                have Rh24 : zMR ms137 h h24 := RhL7.w (a1 := 169) (a2 := 169) (j1 := 0) (j2 := 420) (by decide +kernel) (by first | decide | exact ⟨by decide, by decide⟩) (by first | omega | exact ⟨by omega, by omega⟩) eh24
                refine zwW_inc (i := 3) (c := -1) (x := dL7) (nx := 185) (by decide +kernel) rfl (by first | omega | exact ⟨by omega, by omega⟩) (ls' := [(2, 37), (0, a), (0, v2), (0, (dL7 + (-1))), (0, kL7), (0, v11), (0, v12)]) rfl ?_
                have Q185 : (dL7 + (-1)) = zdp (fld h (101 + 6 * v2 + a)) (kL7 + 1).toNat := by
                  rw [show (kL7 + 1).toNat = (kL7).toNat + 1 by omega, D80]
                  first | (rw [if_pos (by omega)]; omega) | (rw [if_neg (by omega), if_pos (by omega)]; omega) | (rw [if_neg (by omega), if_neg (by omega)]; omega)
                refine zwW_inc (i := 4) (c := 1) (x := kL7) (nx := 188) (by decide +kernel) rfl (by first | omega | exact ⟨by omega, by omega⟩) (ls' := [(2, 37), (0, a), (0, v2), (0, (dL7 + (-1))), (0, (kL7 + 1)), (0, v11), (0, v12)]) rfl ?_
                refine zwW_p [(24, 35, 0)] (q := 35) (ls' := [(2, 37), (0, a), (0, v2), (0, (dL7 + (-1))), (0, (kL7 + 1)), (0, v11), (0, v12)]) (st' := []) (by decide +kernel) rfl ?_
                exact IHL7 ((1000 - (kL7 + 1))).toNat (by omega) (dL7 + (-1)) (kL7 + 1) (0, v11) (0, v12) h24 rfl (by omega) (by omega) (Q185) Ih24 Rh24
              · refine zwW_p [(1, 0, 2)] (q := 133) (ls' := [(2, 37), (0, a), (0, v2), (0, dL7), (0, kL7), (0, v11), (0, v12)]) (st' := [(2, 37)]) (by decide +kernel) rfl ?_
                refine zwW_gc IhL7 (kd := 13) (bn := 57) (n := 97) (c := 169) (nx := 136) (by decide +kernel) ?_
                refine zwW_p [(1, 3, 0), (0, 1, 0)] (q := 138) (ls' := [(2, 37), (0, a), (0, v2), (0, dL7), (0, kL7), (0, v11), (0, v12)]) (st' := [(0, 1), (0, dL7), (2, 169)]) (by decide +kernel) rfl ?_
                refine zwW_sub (nx := 139) (by decide +kernel) (by first | omega | exact ⟨by omega, by omega⟩) ?_
                refine zwW_p [(0, 1, 0), (1, 0, 2)] (q := 141) (ls' := [(2, 37), (0, a), (0, v2), (0, dL7), (0, kL7), (0, v11), (0, v12)]) (st' := [(2, 37), (0, 1), (0, (dL7 - 1)), (2, 169)]) (by decide +kernel) rfl ?_
                refine zwW_gc IhL7 (kd := 13) (bn := 57) (n := 97) (c := 169) (nx := 144) (by decide +kernel) ?_
                refine zwW_p [(1, 3, 0), (0, 1, 0)] (q := 146) (ls' := [(2, 37), (0, a), (0, v2), (0, dL7), (0, kL7), (0, v11), (0, v12)]) (st' := [(0, 1), (0, dL7), (2, 169), (0, 1), (0, (dL7 - 1)), (2, 169)]) (by decide +kernel) rfl ?_
                refine zwW_sub (nx := 147) (by decide +kernel) (by first | omega | exact ⟨by omega, by omega⟩) ?_
                refine zwW_al IhL7 (a1 := 169) (a2 := 169) (kd := 20) (n := 420) (t := 0) (lo := -2147483648) (hi := 2147483647) (nx := 148) (by decide +kernel) (by first | decide | exact ⟨by decide, by decide⟩) (by first | omega | exact ⟨by omega, by omega⟩) ?_
                intro v25 ev25 lv25 uv25
                refine zwW_sbw (nx := 149) (by decide +kernel) ?_
                intro v26 ev26 lv26 uv26
                refine zwW_as IhL7 (a1 := 169) (a2 := 169) (n := 420) (lo := -2147483648) (hi := 2147483647) (nx := 150) (by decide +kernel) (by first | decide | exact ⟨by decide, by decide⟩) (by first | omega | exact ⟨by omega, by omega⟩) (by first | omega | exact ⟨by omega, by omega⟩) ?_
                intro h27 eh27 Ih27
                have Rh27 : zMR ms137 h h27 := RhL7.w (a1 := 169) (a2 := 169) (j1 := 0) (j2 := 420) (by decide +kernel) (by first | decide | exact ⟨by decide, by decide⟩) (by first | omega | exact ⟨by omega, by omega⟩) eh27
                refine zwW_p [(24, 185, 0)] (q := 185) (ls' := [(2, 37), (0, a), (0, v2), (0, dL7), (0, kL7), (0, v11), (0, v12)]) (st' := []) (by decide +kernel) rfl ?_
                have Q185 : dL7 = zdp (fld h (101 + 6 * v2 + a)) (kL7 + 1).toNat := by
                  rw [show (kL7 + 1).toNat = (kL7).toNat + 1 by omega, D80]
                  first | (rw [if_pos (by omega)]; omega) | (rw [if_neg (by omega), if_pos (by omega)]; omega) | (rw [if_neg (by omega), if_neg (by omega)]; omega)
                refine zwW_inc (i := 4) (c := 1) (x := kL7) (nx := 188) (by decide +kernel) rfl (by first | omega | exact ⟨by omega, by omega⟩) (ls' := [(2, 37), (0, a), (0, v2), (0, dL7), (0, (kL7 + 1)), (0, v11), (0, v12)]) rfl ?_
                refine zwW_p [(24, 35, 0)] (q := 35) (ls' := [(2, 37), (0, a), (0, v2), (0, dL7), (0, (kL7 + 1)), (0, v11), (0, v12)]) (st' := []) (by decide +kernel) rfl ?_
                exact IHL7 ((1000 - (kL7 + 1))).toNat (by omega) dL7 (kL7 + 1) (0, v11) (0, v12) h27 rfl (by omega) (by omega) (Q185) Ih27 Rh27
            · refine zwW_p [(1, 0, 2)] (q := 95) (ls' := [(2, 37), (0, a), (0, v2), (0, dL7), (0, kL7), (0, v11), (0, v12)]) (st' := [(2, 37)]) (by decide +kernel) rfl ?_
              refine zwW_gc IhL7 (kd := 13) (bn := 57) (n := 97) (c := 169) (nx := 98) (by decide +kernel) ?_
              refine zwW_p [(1, 3, 0), (1, 5, 0), (0, 110, 0)] (q := 103) (ls' := [(2, 37), (0, a), (0, v2), (0, dL7), (0, kL7), (0, v11), (0, v12)]) (st' := [(0, 110), (0, v11), (0, dL7), (2, 169)]) (by decide +kernel) rfl ?_
              refine zwic_ne (q := 111) (nx := 106) (by decide +kernel) (fun c28 => ?_) (fun c28 => ?_)
              · refine zwW_p [(1, 0, 2)] (q := 112) (ls' := [(2, 37), (0, a), (0, v2), (0, dL7), (0, kL7), (0, v11), (0, v12)]) (st' := [(2, 37), (0, dL7), (2, 169)]) (by decide +kernel) rfl ?_
                refine zwW_gc IhL7 (kd := 13) (bn := 56) (n := 97) (c := 168) (nx := 115) (by decide +kernel) ?_
                refine zwW_p [(1, 6, 0)] (q := 117) (ls' := [(2, 37), (0, a), (0, v2), (0, dL7), (0, kL7), (0, v11), (0, v12)]) (st' := [(0, v12), (2, 168), (0, dL7), (2, 169)]) (by decide +kernel) rfl ?_
                refine zwW_al IhL7 (a1 := 168) (a2 := 168) (kd := 20) (n := 13) (t := 0) (lo := -2147483648) (hi := 2147483647) (nx := 118) (by decide +kernel) (by first | decide | exact ⟨by decide, by decide⟩) (by first | omega | exact ⟨by omega, by omega⟩) ?_
                intro v29 ev29 lv29 uv29
                refine zwW_as IhL7 (a1 := 169) (a2 := 169) (n := 420) (lo := -2147483648) (hi := 2147483647) (nx := 119) (by decide +kernel) (by first | decide | exact ⟨by decide, by decide⟩) (by first | omega | exact ⟨by omega, by omega⟩) (by first | omega | exact ⟨by omega, by omega⟩) ?_
                intro h30 eh30 Ih30
                have Rh30 : zMR ms137 h h30 := RhL7.w (a1 := 169) (a2 := 169) (j1 := 0) (j2 := 420) (by decide +kernel) (by first | decide | exact ⟨by decide, by decide⟩) (by first | omega | exact ⟨by omega, by omega⟩) eh30
                refine zwW_inc (i := 3) (c := 1) (x := dL7) (nx := 122) (by decide +kernel) rfl (by first | omega | exact ⟨by omega, by omega⟩) (ls' := [(2, 37), (0, a), (0, v2), (0, (dL7 + 1)), (0, kL7), (0, v11), (0, v12)]) rfl ?_
                refine zwW_p [(24, 185, 0)] (q := 185) (ls' := [(2, 37), (0, a), (0, v2), (0, (dL7 + 1)), (0, kL7), (0, v11), (0, v12)]) (st' := []) (by decide +kernel) rfl ?_
                have Q185 : (dL7 + 1) = zdp (fld h (101 + 6 * v2 + a)) (kL7 + 1).toNat := by
                  rw [show (kL7 + 1).toNat = (kL7).toNat + 1 by omega, D80]
                  first | (rw [if_pos (by omega)]; omega) | (rw [if_neg (by omega), if_pos (by omega)]; omega) | (rw [if_neg (by omega), if_neg (by omega)]; omega)
                refine zwW_inc (i := 4) (c := 1) (x := kL7) (nx := 188) (by decide +kernel) rfl (by first | omega | exact ⟨by omega, by omega⟩) (ls' := [(2, 37), (0, a), (0, v2), (0, (dL7 + 1)), (0, (kL7 + 1)), (0, v11), (0, v12)]) rfl ?_
                refine zwW_p [(24, 35, 0)] (q := 35) (ls' := [(2, 37), (0, a), (0, v2), (0, (dL7 + 1)), (0, (kL7 + 1)), (0, v11), (0, v12)]) (st' := []) (by decide +kernel) rfl ?_
                exact IHL7 ((1000 - (kL7 + 1))).toNat (by omega) (dL7 + 1) (kL7 + 1) (0, v11) (0, v12) h30 rfl (by omega) (by omega) (Q185) Ih30 Rh30
              · exfalso; omega
    exact L7 _ 0 0 (9, 0) (9, 0) h rfl (by omega) (by omega) (rfl) I R
  · refine zwW_p [(1, 1, 0)] (q := 16) (ls' := [(2, 37), (0, a), (0, v2), (9, 0), (9, 0), (9, 0), (9, 0)]) (st' := [(0, a)]) (by decide +kernel) rfl ?_
    refine zwif_eq (q := 24) (nx := 19) (by decide +kernel) (fun c31 => ?_) (fun c31 => ?_)
    · refine zwW_p [(0, 0, 0), (24, 29, 0)] (q := 29) (ls' := [(2, 37), (0, a), (0, v2), (9, 0), (9, 0), (9, 0), (9, 0)]) (st' := [(0, 0)]) (by decide +kernel) rfl ?_
      refine zwW_ret (nx := 30) (a := 0) (b := 0) (by decide +kernel) rfl (Or.inl rfl) ?_
      exact ⟨I, R, by omega⟩
    · refine zwW_p [(1, 1, 0), (0, 2, 0)] (q := 21) (ls' := [(2, 37), (0, a), (0, v2), (9, 0), (9, 0), (9, 0), (9, 0)]) (st' := [(0, 2), (0, a)]) (by decide +kernel) rfl ?_
      refine zwic_ne (q := 28) (nx := 24) (by decide +kernel) (fun c32 => ?_) (fun c32 => ?_)
      · refine zwW_p [(0, 1, 0)] (q := 29) (ls' := [(2, 37), (0, a), (0, v2), (9, 0), (9, 0), (9, 0), (9, 0)]) (st' := [(0, 1)]) (by decide +kernel) rfl ?_
        refine zwW_ret (nx := 30) (a := 0) (b := 0) (by decide +kernel) rfl (Or.inl rfl) ?_
        exact ⟨I, R, by omega⟩
      · refine zwW_p [(0, 0, 0), (24, 29, 0)] (q := 29) (ls' := [(2, 37), (0, a), (0, v2), (9, 0), (9, 0), (9, 0), (9, 0)]) (st' := [(0, 0)]) (by decide +kernel) rfl ?_
        refine zwW_ret (nx := 30) (a := 0) (b := 0) (by decide +kernel) rfl (Or.inl rfl) ?_
        exact ⟨I, R, by omega⟩
