/-! contracts of the model's methods -/
-- WheelLandModel.in(JJJ)Z
theorem m101 {sc : List Int} (h : Hp) (a b c : Int) : zwC sc 1 101 [(1, a), (1, b), (1, c)] h (zwRt 0 (fun x g => h = g ∧ ((x = 1 ∧ (b ≤ a ∧ a ≤ c)) ∨ (x = 0 ∧ (a < b ∨ c < a))))) := by
  refine zwC_of (D := 0) 6 (by decide +kernel) rfl (ls := [(1, a), (9, 0), (1, b), (9, 0), (1, c), (9, 0)]) rfl ?_
  refine zwW_p [(1, 0, 1), (1, 2, 1)] (q := 2) (ls' := [(1, a), (9, 0), (1, b), (9, 0), (1, c), (9, 0)]) (st' := [(1, b), (1, a)]) (by decide +kernel) rfl ?_
  refine zwlc_lt (q := 17) (nx := 6) (m := 3) (by decide +kernel) (by decide +kernel) (fun c1 => ?_) (fun c1 => ?_)
  · refine zwW_p [(0, 0, 0)] (q := 18) (ls' := [(1, a), (9, 0), (1, b), (9, 0), (1, c), (9, 0)]) (st' := [(0, 0)]) (by decide +kernel) rfl ?_
    refine zwW_ret (nx := 19) (a := 1) (b := 0) (by decide +kernel) rfl (Or.inr (Or.inl ⟨rfl, by omega⟩)) ?_
    exact ⟨rfl, Or.inr ⟨rfl, by omega⟩⟩
  · refine zwW_p [(1, 0, 1), (1, 4, 1)] (q := 9) (ls' := [(1, a), (9, 0), (1, b), (9, 0), (1, c), (9, 0)]) (st' := [(1, c), (1, a)]) (by decide +kernel) rfl ?_
    refine zwlc_gt (q := 17) (nx := 13) (m := 10) (by decide +kernel) (by decide +kernel) (fun c2 => ?_) (fun c2 => ?_)
    · refine zwW_p [(0, 0, 0)] (q := 18) (ls' := [(1, a), (9, 0), (1, b), (9, 0), (1, c), (9, 0)]) (st' := [(0, 0)]) (by decide +kernel) rfl ?_
      refine zwW_ret (nx := 19) (a := 1) (b := 0) (by decide +kernel) rfl (Or.inr (Or.inl ⟨rfl, by omega⟩)) ?_
      exact ⟨rfl, Or.inr ⟨rfl, by omega⟩⟩
    · refine zwW_p [(0, 1, 0), (24, 18, 0)] (q := 18) (ls' := [(1, a), (9, 0), (1, b), (9, 0), (1, c), (9, 0)]) (st' := [(0, 1)]) (by decide +kernel) rfl ?_
      refine zwW_ret (nx := 19) (a := 1) (b := 0) (by decide +kernel) rfl (Or.inr (Or.inl ⟨rfl, by omega⟩)) ?_
      exact ⟨rfl, Or.inl ⟨rfl, by omega⟩⟩
-- WheelLandModel.isVillage(I)Z
theorem m104 {sc : List Int} (h : Hp) (I : zI h) (a : Int) : zwC sc 2 104 [(2, 37), (0, a)] h (zwRt 0 (fun x g => h = g ∧ ((x = 1 ∧ (0 ≤ a ∧ a < fld h 37 1 ∧ a ≤ 7)) ∨ (x = 0 ∧ (a < 0 ∨ fld h 37 1 ≤ a))))) := by
  refine zwC_of (D := 1) 2 (by decide +kernel) rfl (ls := [(2, 37), (0, a)]) rfl ?_
  refine zwW_p [(1, 1, 0), (7, 0, 0), (0, 0, 1), (1, 0, 2)] (q := 4) (ls' := [(2, 37), (0, a)]) (st' := [(2, 37), (1, 0), (1, a)]) (by decide +kernel) rfl ?_
  refine zwW_gs I (kd := 13) (bn := 1) (n := 97) (t := 0) (lo := 0) (hi := 8) (nx := 7) (by decide +kernel) ?_
  intro v1 ev1 lv1 uv1
  refine zwW_p [(0, 1, 0)] (q := 8) (ls' := [(2, 37), (0, a)]) (st' := [(0, 1), (0, v1), (1, 0), (1, a)]) (by decide +kernel) rfl ?_
  refine zwW_sub (nx := 9) (by decide +kernel) ⟨by omega, by omega⟩ ?_
  refine zwW_p [(7, 0, 0)] (q := 10) (ls' := [(2, 37), (0, a)]) (st' := [(1, (v1 - 1)), (1, 0), (1, a)]) (by decide +kernel) rfl ?_
  refine zwW_cs (k' := 101) (n := 3) (nx := 13) (as := [(1, a), (1, 0), (1, (v1 - 1))]) (st' := []) (by decide +kernel) rfl (m101 h a 0 (v1 - 1)) rfl ?_
  rintro x _ ⟨rfl, ⟨rfl, c2⟩ | ⟨rfl, c2⟩⟩
  · refine zwW_ret (nx := 14) (a := 1) (b := 0) (by decide +kernel) rfl (Or.inr (Or.inl ⟨rfl, by omega⟩)) ?_
    exact ⟨rfl, Or.inl ⟨rfl, by omega⟩⟩
  · refine zwW_ret (nx := 14) (a := 1) (b := 0) (by decide +kernel) rfl (Or.inr (Or.inl ⟨rfl, by omega⟩)) ?_
    exact ⟨rfl, Or.inr ⟨rfl, by omega⟩⟩
-- WheelLandModel.isHouse(I)Z
theorem m111 {sc : List Int} (h : Hp) (I : zI h) (a : Int) : zwC sc 2 111 [(2, 37), (0, a)] h (zwRt 0 (fun x g => h = g ∧ ((x = 1 ∧ (0 ≤ a ∧ a < fld h 37 2 ∧ a ≤ 19)) ∨ (x = 0 ∧ (a < 0 ∨ fld h 37 2 ≤ a))))) := by
  refine zwC_of (D := 1) 2 (by decide +kernel) rfl (ls := [(2, 37), (0, a)]) rfl ?_
  refine zwW_p [(1, 1, 0), (7, 0, 0), (0, 0, 1), (1, 0, 2)] (q := 4) (ls' := [(2, 37), (0, a)]) (st' := [(2, 37), (1, 0), (1, a)]) (by decide +kernel) rfl ?_
  refine zwW_gs I (kd := 13) (bn := 2) (n := 97) (t := 0) (lo := 0) (hi := 20) (nx := 7) (by decide +kernel) ?_
  intro v1 ev1 lv1 uv1
  refine zwW_p [(0, 1, 0)] (q := 8) (ls' := [(2, 37), (0, a)]) (st' := [(0, 1), (0, v1), (1, 0), (1, a)]) (by decide +kernel) rfl ?_
  refine zwW_sub (nx := 9) (by decide +kernel) ⟨by omega, by omega⟩ ?_
  refine zwW_p [(7, 0, 0)] (q := 10) (ls' := [(2, 37), (0, a)]) (st' := [(1, (v1 - 1)), (1, 0), (1, a)]) (by decide +kernel) rfl ?_
  refine zwW_cs (k' := 101) (n := 3) (nx := 13) (as := [(1, a), (1, 0), (1, (v1 - 1))]) (st' := []) (by decide +kernel) rfl (m101 h a 0 (v1 - 1)) rfl ?_
  rintro x _ ⟨rfl, ⟨rfl, c2⟩ | ⟨rfl, c2⟩⟩
  · refine zwW_ret (nx := 14) (a := 1) (b := 0) (by decide +kernel) rfl (Or.inr (Or.inl ⟨rfl, by omega⟩)) ?_
    exact ⟨rfl, Or.inl ⟨rfl, by omega⟩⟩
  · refine zwW_ret (nx := 14) (a := 1) (b := 0) (by decide +kernel) rfl (Or.inr (Or.inl ⟨rfl, by omega⟩)) ?_
    exact ⟨rfl, Or.inr ⟨rfl, by omega⟩⟩
-- WheelLandModel.isLot(I)Z
theorem m116 {sc : List Int} (h : Hp) (I : zI h) (a : Int) : zwC sc 2 116 [(2, 37), (0, a)] h (zwRt 0 (fun x g => h = g ∧ ((x = 1 ∧ (0 ≤ a ∧ a < fld h 37 64 ∧ a ≤ 299)) ∨ (x = 0 ∧ (a < 0 ∨ fld h 37 64 ≤ a))))) := by
  refine zwC_of (D := 1) 2 (by decide +kernel) rfl (ls := [(2, 37), (0, a)]) rfl ?_
  refine zwW_p [(1, 1, 0), (7, 0, 0), (0, 0, 1), (1, 0, 2)] (q := 4) (ls' := [(2, 37), (0, a)]) (st' := [(2, 37), (1, 0), (1, a)]) (by decide +kernel) rfl ?_
  refine zwW_gs I (kd := 13) (bn := 64) (n := 97) (t := 0) (lo := 0) (hi := 300) (nx := 7) (by decide +kernel) ?_
  intro v1 ev1 lv1 uv1
  refine zwW_p [(0, 1, 0)] (q := 8) (ls' := [(2, 37), (0, a)]) (st' := [(0, 1), (0, v1), (1, 0), (1, a)]) (by decide +kernel) rfl ?_
  refine zwW_sub (nx := 9) (by decide +kernel) ⟨by omega, by omega⟩ ?_
  refine zwW_p [(7, 0, 0)] (q := 10) (ls' := [(2, 37), (0, a)]) (st' := [(1, (v1 - 1)), (1, 0), (1, a)]) (by decide +kernel) rfl ?_
  refine zwW_cs (k' := 101) (n := 3) (nx := 13) (as := [(1, a), (1, 0), (1, (v1 - 1))]) (st' := []) (by decide +kernel) rfl (m101 h a 0 (v1 - 1)) rfl ?_
  rintro x _ ⟨rfl, ⟨rfl, c2⟩ | ⟨rfl, c2⟩⟩
  · refine zwW_ret (nx := 14) (a := 1) (b := 0) (by decide +kernel) rfl (Or.inr (Or.inl ⟨rfl, by omega⟩)) ?_
    exact ⟨rfl, Or.inl ⟨rfl, by omega⟩⟩
  · refine zwW_ret (nx := 14) (a := 1) (b := 0) (by decide +kernel) rfl (Or.inr (Or.inl ⟨rfl, by omega⟩)) ?_
    exact ⟨rfl, Or.inr ⟨rfl, by omega⟩⟩
-- WheelLandModel.isCloth(I)Z
theorem m139 {sc : List Int} (h : Hp) (I : zI h) (a : Int) : zwC sc 2 139 [(2, 37), (0, a)] h (zwRt 0 (fun x g => h = g ∧ ((x = 1 ∧ (0 ≤ a ∧ a < fld h 37 78 ∧ a ≤ 199)) ∨ (x = 0 ∧ (a < 0 ∨ fld h 37 78 ≤ a))))) := by
  refine zwC_of (D := 1) 2 (by decide +kernel) rfl (ls := [(2, 37), (0, a)]) rfl ?_
  refine zwW_p [(1, 1, 0), (7, 0, 0), (0, 0, 1), (1, 0, 2)] (q := 4) (ls' := [(2, 37), (0, a)]) (st' := [(2, 37), (1, 0), (1, a)]) (by decide +kernel) rfl ?_
  refine zwW_gs I (kd := 13) (bn := 78) (n := 97) (t := 0) (lo := 0) (hi := 200) (nx := 7) (by decide +kernel) ?_
  intro v1 ev1 lv1 uv1
  refine zwW_p [(0, 1, 0)] (q := 8) (ls' := [(2, 37), (0, a)]) (st' := [(0, 1), (0, v1), (1, 0), (1, a)]) (by decide +kernel) rfl ?_
  refine zwW_sub (nx := 9) (by decide +kernel) ⟨by omega, by omega⟩ ?_
  refine zwW_p [(7, 0, 0)] (q := 10) (ls' := [(2, 37), (0, a)]) (st' := [(1, (v1 - 1)), (1, 0), (1, a)]) (by decide +kernel) rfl ?_
  refine zwW_cs (k' := 101) (n := 3) (nx := 13) (as := [(1, a), (1, 0), (1, (v1 - 1))]) (st' := []) (by decide +kernel) rfl (m101 h a 0 (v1 - 1)) rfl ?_
  rintro x _ ⟨rfl, ⟨rfl, c2⟩ | ⟨rfl, c2⟩⟩
  · refine zwW_ret (nx := 14) (a := 1) (b := 0) (by decide +kernel) rfl (Or.inr (Or.inl ⟨rfl, by omega⟩)) ?_
    exact ⟨rfl, Or.inl ⟨rfl, by omega⟩⟩
  · refine zwW_ret (nx := 14) (a := 1) (b := 0) (by decide +kernel) rfl (Or.inr (Or.inl ⟨rfl, by omega⟩)) ?_
    exact ⟨rfl, Or.inr ⟨rfl, by omega⟩⟩
-- WheelLandModel.season(I)I
theorem m174 {sc : List Int} (h : Hp) (a : Int) (p1 : 0 ≤ a) (p2 : a ≤ 156) : zwC sc 1 174 [(0, a)] h (zwRt 0 (fun x g => h = g ∧ (x = a / 13 % 4) ∧ (0 ≤ x) ∧ (x ≤ 3))) := by
  refine zwC_of (D := 0) 1 (by decide +kernel) rfl (ls := [(0, a)]) rfl ?_
  refine zwW_p [(1, 0, 0), (0, 13, 0)] (q := 3) (ls' := [(0, a)]) (st' := [(0, 13), (0, a)]) (by decide +kernel) rfl ?_
  refine zwW_div (nx := 4) (by decide +kernel) (by omega) (by omega) (by omega) ?_
  refine zwW_p [(0, 4, 0)] (q := 5) (ls' := [(0, a)]) (st' := [(0, 4), (0, (a / 13))]) (by decide +kernel) rfl ?_
  refine zwW_rem (nx := 6) (by decide +kernel) (by omega) (by omega) ?_
  refine zwW_ret (nx := 7) (a := 0) (b := 0) (by decide +kernel) rfl (Or.inl rfl) ?_
  exact ⟨rfl, by omega, by omega, by omega⟩
-- WheelLandModel.least(I)I
theorem m129 {sc : List Int} (h : Hp) (a : Int) : zwC sc 1 129 [(0, a)] h (zwRt 0 (fun x g => h = g ∧ ((x = a ∧ 0 ≤ a) ∨ (x = 0 ∧ a < 0)) ∧ (0 ≤ x))) := by
  refine zwC_of (D := 0) 1 (by decide +kernel) rfl (ls := [(0, a)]) rfl ?_
  refine zwW_p [(1, 0, 0)] (q := 1) (ls' := [(0, a)]) (st' := [(0, a)]) (by decide +kernel) rfl ?_
  refine zwif_ge (q := 8) (nx := 4) (by decide +kernel) (fun c1 => ?_) (fun c1 => ?_)
  · refine zwW_p [(1, 0, 0)] (q := 9) (ls' := [(0, a)]) (st' := [(0, a)]) (by decide +kernel) rfl ?_
    refine zwW_ret (nx := 10) (a := 0) (b := 0) (by decide +kernel) rfl (Or.inl rfl) ?_
    exact ⟨rfl, by omega, by omega⟩
  · refine zwW_p [(0, 0, 0), (24, 9, 0)] (q := 9) (ls' := [(0, a)]) (st' := [(0, 0)]) (by decide +kernel) rfl ?_
    refine zwW_ret (nx := 10) (a := 0) (b := 0) (by decide +kernel) rfl (Or.inl rfl) ?_
    exact ⟨rfl, by omega, by omega⟩
-- WheelLandModel.brought(J)I
theorem m252 {sc : List Int} (h : Hp) (a : Int) : zwC sc 1 252 [(1, a)] h (zwRt 0 (fun x g => h = g ∧ (-1000000 ≤ x) ∧ (x ≤ 1000000) ∧ (x = max (-1000000) (min a 1000000)))) := by
  refine zwC_of (D := 0) 2 (by decide +kernel) rfl (ls := [(1, a), (9, 0)]) rfl ?_
  refine zwW_p [(1, 0, 1), (0, -1000000, 1)] (q := 4) (ls' := [(1, a), (9, 0)]) (st' := [(1, -1000000), (1, a)]) (by decide +kernel) rfl ?_
  refine zwlc_ge (q := 14) (nx := 8) (m := 5) (by decide +kernel) (by decide +kernel) (fun c1 => ?_) (fun c1 => ?_)
  · refine zwW_p [(1, 0, 1), (0, 1000000, 1)] (q := 18) (ls' := [(1, a), (9, 0)]) (st' := [(1, 1000000), (1, a)]) (by decide +kernel) rfl ?_
    refine zwlc_le (q := 28) (nx := 22) (m := 19) (by decide +kernel) (by decide +kernel) (fun c2 => ?_) (fun c2 => ?_)
    · refine zwW_p [(1, 0, 1)] (q := 29) (ls' := [(1, a), (9, 0)]) (st' := [(1, a)]) (by decide +kernel) rfl ?_
      refine zwW_l2i (nx := 30) (by decide +kernel) ⟨by omega, by omega⟩ ?_
      refine zwW_ret (nx := 31) (a := 0) (b := 0) (by decide +kernel) rfl (Or.inl rfl) ?_
      exact ⟨rfl, by omega, by omega, by omega⟩
    · refine zwW_p [(0, 1000000, 1), (24, 29, 0)] (q := 29) (ls' := [(1, a), (9, 0)]) (st' := [(1, 1000000)]) (by decide +kernel) rfl ?_
      refine zwW_l2i (nx := 30) (by decide +kernel) ⟨by omega, by omega⟩ ?_
      refine zwW_ret (nx := 31) (a := 0) (b := 0) (by decide +kernel) rfl (Or.inl rfl) ?_
      exact ⟨rfl, by omega, by omega, by omega⟩
  · refine zwW_p [(0, -1000000, 1), (24, 29, 0)] (q := 29) (ls' := [(1, a), (9, 0)]) (st' := [(1, -1000000)]) (by decide +kernel) rfl ?_
    refine zwW_l2i (nx := 30) (by decide +kernel) ⟨by omega, by omega⟩ ?_
    refine zwW_ret (nx := 31) (a := 0) (b := 0) (by decide +kernel) rfl (Or.inl rfl) ?_
    exact ⟨rfl, by omega, by omega, by omega⟩
-- WheelLandModel.isLetter(I)Z
theorem m244 {sc : List Int} (h : Hp) (a : Int) : zwC sc 1 244 [(0, a)] h (zwRt 0 (fun x g => h = g ∧ ((x = 1 ∧ (97 ≤ a ∧ a ≤ 122)) ∨ (x = 0 ∧ (a < 97 ∨ 122 < a))))) := by
  refine zwC_of (D := 0) 1 (by decide +kernel) rfl (ls := [(0, a)]) rfl ?_
  refine zwW_p [(1, 0, 0), (0, 97, 0)] (q := 3) (ls' := [(0, a)]) (st' := [(0, 97), (0, a)]) (by decide +kernel) rfl ?_
  refine zwic_lt (q := 16) (nx := 6) (by decide +kernel) (fun c1 => ?_) (fun c1 => ?_)
  · refine zwW_p [(0, 0, 0)] (q := 17) (ls' := [(0, a)]) (st' := [(0, 0)]) (by decide +kernel) rfl ?_
    refine zwW_ret (nx := 18) (a := 1) (b := 0) (by decide +kernel) rfl (Or.inr (Or.inl ⟨rfl, by omega⟩)) ?_
    exact ⟨rfl, Or.inr ⟨rfl, by omega⟩⟩
  · refine zwW_p [(1, 0, 0), (0, 122, 0)] (q := 9) (ls' := [(0, a)]) (st' := [(0, 122), (0, a)]) (by decide +kernel) rfl ?_
    refine zwic_gt (q := 16) (nx := 12) (by decide +kernel) (fun c2 => ?_) (fun c2 => ?_)
    · refine zwW_p [(0, 0, 0)] (q := 17) (ls' := [(0, a)]) (st' := [(0, 0)]) (by decide +kernel) rfl ?_
      refine zwW_ret (nx := 18) (a := 1) (b := 0) (by decide +kernel) rfl (Or.inr (Or.inl ⟨rfl, by omega⟩)) ?_
      exact ⟨rfl, Or.inr ⟨rfl, by omega⟩⟩
    · refine zwW_p [(0, 1, 0), (24, 17, 0)] (q := 17) (ls' := [(0, a)]) (st' := [(0, 1)]) (by decide +kernel) rfl ?_
      refine zwW_ret (nx := 18) (a := 1) (b := 0) (by decide +kernel) rfl (Or.inr (Or.inl ⟨rfl, by omega⟩)) ?_
      exact ⟨rfl, Or.inl ⟨rfl, by omega⟩⟩
-- WheelLandModel.isDigit(I)Z
theorem m245 {sc : List Int} (h : Hp) (a : Int) : zwC sc 1 245 [(0, a)] h (zwRt 0 (fun x g => h = g ∧ ((x = 1 ∧ (48 ≤ a ∧ a ≤ 57)) ∨ (x = 0 ∧ (a < 48 ∨ 57 < a))))) := by
  refine zwC_of (D := 0) 1 (by decide +kernel) rfl (ls := [(0, a)]) rfl ?_
  refine zwW_p [(1, 0, 0), (0, 48, 0)] (q := 3) (ls' := [(0, a)]) (st' := [(0, 48), (0, a)]) (by decide +kernel) rfl ?_
  refine zwic_lt (q := 16) (nx := 6) (by decide +kernel) (fun c1 => ?_) (fun c1 => ?_)
  · refine zwW_p [(0, 0, 0)] (q := 17) (ls' := [(0, a)]) (st' := [(0, 0)]) (by decide +kernel) rfl ?_
    refine zwW_ret (nx := 18) (a := 1) (b := 0) (by decide +kernel) rfl (Or.inr (Or.inl ⟨rfl, by omega⟩)) ?_
    exact ⟨rfl, Or.inr ⟨rfl, by omega⟩⟩
  · refine zwW_p [(1, 0, 0), (0, 57, 0)] (q := 9) (ls' := [(0, a)]) (st' := [(0, 57), (0, a)]) (by decide +kernel) rfl ?_
    refine zwic_gt (q := 16) (nx := 12) (by decide +kernel) (fun c2 => ?_) (fun c2 => ?_)
    · refine zwW_p [(0, 0, 0)] (q := 17) (ls' := [(0, a)]) (st' := [(0, 0)]) (by decide +kernel) rfl ?_
      refine zwW_ret (nx := 18) (a := 1) (b := 0) (by decide +kernel) rfl (Or.inr (Or.inl ⟨rfl, by omega⟩)) ?_
      exact ⟨rfl, Or.inr ⟨rfl, by omega⟩⟩
    · refine zwW_p [(0, 1, 0), (24, 17, 0)] (q := 17) (ls' := [(0, a)]) (st' := [(0, 1)]) (by decide +kernel) rfl ?_
      refine zwW_ret (nx := 18) (a := 1) (b := 0) (by decide +kernel) rfl (Or.inr (Or.inl ⟨rfl, by omega⟩)) ?_
      exact ⟨rfl, Or.inl ⟨rfl, by omega⟩⟩
-- WheelLandModel.hasLoom(I)Z
theorem m112 {sc : List Int} (h : Hp) (I : zI h) (a : Int) (p1 : 0 ≤ a) (p2 : a ≤ 19) : zwC sc 1 112 [(2, 37), (0, a)] h (zwRt 0 (fun x g => h = g ∧ ((x = 1 ∧ (0 < fld h 91 a.toNat)) ∨ (x = 0 ∧ (fld h 91 a.toNat ≤ 0))))) := by
  refine zwC_of (D := 0) 2 (by decide +kernel) rfl (ls := [(2, 37), (0, a)]) rfl ?_
  refine zwW_p [(1, 0, 2)] (q := 1) (ls' := [(2, 37), (0, a)]) (st' := [(2, 37)]) (by decide +kernel) rfl ?_
  refine zwW_gc I (kd := 13) (bn := 32) (n := 97) (c := 91) (nx := 4) (by decide +kernel) ?_
  refine zwW_p [(1, 1, 0)] (q := 5) (ls' := [(2, 37), (0, a)]) (st' := [(0, a), (2, 91)]) (by decide +kernel) rfl ?_
  refine zwW_al I (a1 := 91) (a2 := 91) (kd := 20) (n := 20) (t := 0) (lo := -2147483648) (hi := 2147483647) (nx := 6) (by decide +kernel) ⟨by decide, by decide⟩ ⟨by omega, by omega⟩ ?_
  intro v1 ev1 lv1 uv1
  refine zwif_le (q := 13) (nx := 9) (by decide +kernel) (fun c2 => ?_) (fun c2 => ?_)
  · refine zwW_p [(0, 0, 0)] (q := 14) (ls' := [(2, 37), (0, a)]) (st' := [(0, 0)]) (by decide +kernel) rfl ?_
    refine zwW_ret (nx := 15) (a := 1) (b := 0) (by decide +kernel) rfl (Or.inr (Or.inl ⟨rfl, by omega⟩)) ?_
    exact ⟨rfl, Or.inr ⟨rfl, by omega⟩⟩
  · refine zwW_p [(0, 1, 0), (24, 14, 0)] (q := 14) (ls' := [(2, 37), (0, a)]) (st' := [(0, 1)]) (by decide +kernel) rfl ?_
    refine zwW_ret (nx := 15) (a := 1) (b := 0) (by decide +kernel) rfl (Or.inr (Or.inl ⟨rfl, by omega⟩)) ?_
    exact ⟨rfl, Or.inl ⟨rfl, by omega⟩⟩
def ms4 : Zms := [(37, 37, 1, 2), (39, 46, 0, 4), (57, 64, 0, 157), (65, 65, 0, 8), (66, 66, 0, 8), (70, 70, 0, 8), (71, 71, 0, 8)]
-- WheelLandModel.village(III)I
theorem m4 {sc : List Int} (h : Hp) (I : zI h) (a b c : Int) (q_a : -2147483648 ≤ a ∧ a ≤ 2147483647) : zwC sc 3 4 [(2, 37), (0, a), (0, b), (0, c)] h (zwRt 0 (fun x g => zI g ∧ zMR ms4 h g ∧ ((x = fld h 37 1 ∧ x < 8 ∧ fld g 37 1 = fld h 37 1 + 1 ∧ 0 ≤ a ∧ a / 1000000 ≤ 40 ∧ a / 10000 % 100 ≤ 40 ∧ a / 100 % 100 ≤ 40 ∧ a % 100 ≤ 40 ∧ 1 ≤ b ∧ b ≤ 9 ∧ 0 ≤ c ∧ c ≤ 9999) ∨ (x = -1 ∧ fld g 37 1 = fld h 37 1 ∧ (8 ≤ fld h 37 1 ∨ a < 0 ∨ 40 < a / 1000000 ∨ 40 < a / 10000 % 100 ∨ 40 < a / 100 % 100 ∨ 40 < a % 100 ∨ b < 1 ∨ 9 < b ∨ c < 0 ∨ 9999 < c))))) := by
  refine zwC_of (D := 2) 6 (by decide +kernel) rfl (ls := [(2, 37), (0, a), (0, b), (0, c), (9, 0), (9, 0)]) rfl ?_
  have R : zMR ms4 h h := zMR.rf _ _
  refine zwW_p [(1, 1, 0)] (q := 1) (ls' := [(2, 37), (0, a), (0, b), (0, c), (9, 0), (9, 0)]) (st' := [(0, a)]) (by decide +kernel) rfl ?_
  refine zwif_lt (q := 81) (nx := 4) (by decide +kernel) (fun c1 => ?_) (fun c1 => ?_)
  · refine zwW_p [(0, -1, 0)] (q := 82) (ls' := [(2, 37), (0, a), (0, b), (0, c), (9, 0), (9, 0)]) (st' := [(0, -1)]) (by decide +kernel) rfl ?_
    refine zwW_ret (nx := 83) (a := 0) (b := 0) (by decide +kernel) rfl (Or.inl rfl) ?_
    exact ⟨I, R, by omega⟩
  · refine zwW_p [(1, 1, 0), (0, 1000000, 0)] (q := 8) (ls' := [(2, 37), (0, a), (0, b), (0, c), (9, 0), (9, 0)]) (st' := [(0, 1000000), (0, a)]) (by decide +kernel) rfl ?_
    refine zwW_div (nx := 9) (by decide +kernel) (by omega) (by omega) (by omega) ?_
    refine zwW_p [(0, 40, 0)] (q := 11) (ls' := [(2, 37), (0, a), (0, b), (0, c), (9, 0), (9, 0)]) (st' := [(0, 40), (0, (a / 1000000))]) (by decide +kernel) rfl ?_
    refine zwic_gt (q := 81) (nx := 14) (by decide +kernel) (fun c2 => ?_) (fun c2 => ?_)
    · refine zwW_p [(0, -1, 0)] (q := 82) (ls' := [(2, 37), (0, a), (0, b), (0, c), (9, 0), (9, 0)]) (st' := [(0, -1)]) (by decide +kernel) rfl ?_
      refine zwW_ret (nx := 83) (a := 0) (b := 0) (by decide +kernel) rfl (Or.inl rfl) ?_
      exact ⟨I, R, by omega⟩
    · refine zwW_p [(1, 1, 0), (0, 10000, 0)] (q := 18) (ls' := [(2, 37), (0, a), (0, b), (0, c), (9, 0), (9, 0)]) (st' := [(0, 10000), (0, a)]) (by decide +kernel) rfl ?_
      refine zwW_div (nx := 19) (by decide +kernel) (by omega) (by omega) (by omega) ?_
      refine zwW_p [(0, 100, 0)] (q := 21) (ls' := [(2, 37), (0, a), (0, b), (0, c), (9, 0), (9, 0)]) (st' := [(0, 100), (0, (a / 10000))]) (by decide +kernel) rfl ?_
      refine zwW_rem (nx := 22) (by decide +kernel) (by omega) (by omega) ?_
      refine zwW_p [(0, 40, 0)] (q := 24) (ls' := [(2, 37), (0, a), (0, b), (0, c), (9, 0), (9, 0)]) (st' := [(0, 40), (0, ((a / 10000) % 100))]) (by decide +kernel) rfl ?_
      refine zwic_gt (q := 81) (nx := 27) (by decide +kernel) (fun c3 => ?_) (fun c3 => ?_)
      · refine zwW_p [(0, -1, 0)] (q := 82) (ls' := [(2, 37), (0, a), (0, b), (0, c), (9, 0), (9, 0)]) (st' := [(0, -1)]) (by decide +kernel) rfl ?_
        refine zwW_ret (nx := 83) (a := 0) (b := 0) (by decide +kernel) rfl (Or.inl rfl) ?_
        exact ⟨I, R, by omega⟩
      · refine zwW_p [(1, 1, 0), (0, 100, 0)] (q := 30) (ls' := [(2, 37), (0, a), (0, b), (0, c), (9, 0), (9, 0)]) (st' := [(0, 100), (0, a)]) (by decide +kernel) rfl ?_
        refine zwW_div (nx := 31) (by decide +kernel) (by omega) (by omega) (by omega) ?_
        refine zwW_p [(0, 100, 0)] (q := 33) (ls' := [(2, 37), (0, a), (0, b), (0, c), (9, 0), (9, 0)]) (st' := [(0, 100), (0, (a / 100))]) (by decide +kernel) rfl ?_
        refine zwW_rem (nx := 34) (by decide +kernel) (by omega) (by omega) ?_
        refine zwW_p [(0, 40, 0)] (q := 36) (ls' := [(2, 37), (0, a), (0, b), (0, c), (9, 0), (9, 0)]) (st' := [(0, 40), (0, ((a / 100) % 100))]) (by decide +kernel) rfl ?_
        refine zwic_gt (q := 81) (nx := 39) (by decide +kernel) (fun c4 => ?_) (fun c4 => ?_)
        · refine zwW_p [(0, -1, 0)] (q := 82) (ls' := [(2, 37), (0, a), (0, b), (0, c), (9, 0), (9, 0)]) (st' := [(0, -1)]) (by decide +kernel) rfl ?_
          refine zwW_ret (nx := 83) (a := 0) (b := 0) (by decide +kernel) rfl (Or.inl rfl) ?_
          exact ⟨I, R, by omega⟩
        · refine zwW_p [(1, 1, 0), (0, 100, 0)] (q := 42) (ls' := [(2, 37), (0, a), (0, b), (0, c), (9, 0), (9, 0)]) (st' := [(0, 100), (0, a)]) (by decide +kernel) rfl ?_
          refine zwW_rem (nx := 43) (by decide +kernel) (by omega) (by omega) ?_
          refine zwW_p [(0, 40, 0)] (q := 45) (ls' := [(2, 37), (0, a), (0, b), (0, c), (9, 0), (9, 0)]) (st' := [(0, 40), (0, (a % 100))]) (by decide +kernel) rfl ?_
          refine zwic_gt (q := 81) (nx := 48) (by decide +kernel) (fun c5 => ?_) (fun c5 => ?_)
          · refine zwW_p [(0, -1, 0)] (q := 82) (ls' := [(2, 37), (0, a), (0, b), (0, c), (9, 0), (9, 0)]) (st' := [(0, -1)]) (by decide +kernel) rfl ?_
            refine zwW_ret (nx := 83) (a := 0) (b := 0) (by decide +kernel) rfl (Or.inl rfl) ?_
            exact ⟨I, R, by omega⟩
          · refine zwW_p [(1, 2, 0), (7, 0, 0), (0, 1, 1), (0, 9, 1)] (q := 54) (ls' := [(2, 37), (0, a), (0, b), (0, c), (9, 0), (9, 0)]) (st' := [(1, 9), (1, 1), (1, b)]) (by decide +kernel) rfl ?_
            refine zwW_cs (k' := 101) (n := 3) (nx := 57) (as := [(1, b), (1, 1), (1, 9)]) (st' := []) (by decide +kernel) rfl (m101 h b 1 9) rfl ?_
            rintro x _ ⟨rfl, ⟨rfl, c6⟩ | ⟨rfl, c6⟩⟩
            · refine zwif_eq (q := 81) (nx := 60) (by decide +kernel) (fun c7 => ?_) (fun c7 => ?_)
              · exfalso; omega
              · refine zwW_p [(1, 3, 0), (7, 0, 0), (0, 0, 1), (0, 9999, 1)] (q := 66) (ls' := [(2, 37), (0, a), (0, b), (0, c), (9, 0), (9, 0)]) (st' := [(1, 9999), (1, 0), (1, c)]) (by decide +kernel) rfl ?_
                refine zwW_cs (k' := 101) (n := 3) (nx := 69) (as := [(1, c), (1, 0), (1, 9999)]) (st' := []) (by decide +kernel) rfl (m101 h c 0 9999) rfl ?_
                rintro x _ ⟨rfl, ⟨rfl, c8⟩ | ⟨rfl, c8⟩⟩
                · refine zwif_eq (q := 81) (nx := 72) (by decide +kernel) (fun c9 => ?_) (fun c9 => ?_)
                  · exfalso; omega
                  · refine zwW_p [(1, 0, 2)] (q := 73) (ls' := [(2, 37), (0, a), (0, b), (0, c), (9, 0), (9, 0)]) (st' := [(2, 37)]) (by decide +kernel) rfl ?_
                    refine zwW_gs I (kd := 13) (bn := 1) (n := 97) (t := 0) (lo := 0) (hi := 8) (nx := 76) (by decide +kernel) ?_
                    intro v10 ev10 lv10 uv10
                    refine zwW_p [(0, 8, 0)] (q := 78) (ls' := [(2, 37), (0, a), (0, b), (0, c), (9, 0), (9, 0)]) (st' := [(0, 8), (0, v10)]) (by decide +kernel) rfl ?_
                    refine zwic_ne (q := 83) (nx := 81) (by decide +kernel) (fun c11 => ?_) (fun c11 => ?_)
                    · refine zwW_p [(1, 0, 2)] (q := 84) (ls' := [(2, 37), (0, a), (0, b), (0, c), (9, 0), (9, 0)]) (st' := [(2, 37)]) (by decide +kernel) rfl ?_
                      refine zwW_gs I (kd := 13) (bn := 1) (n := 97) (t := 0) (lo := 0) (hi := 8) (nx := 87) (by decide +kernel) ?_
                      intro v12 ev12 lv12 uv12
                      refine zwW_p [(2, 4, 0), (1, 0, 2)] (q := 90) (ls' := [(2, 37), (0, a), (0, b), (0, c), (0, v12), (9, 0)]) (st' := [(2, 37)]) (by decide +kernel) rfl ?_
                      refine zwW_gc I (kd := 13) (bn := 3) (n := 97) (c := 38) (nx := 93) (by decide +kernel) ?_
                      refine zwW_p [(1, 4, 0)] (q := 95) (ls' := [(2, 37), (0, a), (0, b), (0, c), (0, v12), (9, 0)]) (st' := [(0, v12), (2, 38)]) (by decide +kernel) rfl ?_
                      refine zwW_ro I (a := 38) (n := 8) (kd := 26) (base := 39) (step := 1) (nx := 96) (by decide +kernel) rfl ⟨by omega, by omega⟩ ?_
                      obtain ⟨r13, er13⟩ : ∃ z, z = ((39 : Nat) : Int) + ((1 : Nat) : Int) * v12 := ⟨_, rfl⟩
                      rw [← er13]
                      refine zwW_p [(0, 0, 0), (1, 1, 0), (0, 1000000, 0)] (q := 101) (ls' := [(2, 37), (0, a), (0, b), (0, c), (0, v12), (9, 0)]) (st' := [(0, 1000000), (0, a), (0, 0), (2, r13)]) (by decide +kernel) rfl ?_
                      refine zwW_div (nx := 102) (by decide +kernel) (by omega) (by omega) (by omega) ?_
                      refine zwW_as I (a1 := 39) (a2 := 46) (n := 4) (lo := 0) (hi := 40) (nx := 103) (by decide +kernel) ⟨by omega, by omega⟩ ⟨by decide, by decide⟩ ⟨by omega, by omega⟩ ?_
                      intro h14 eh14 Ih14
                      have th14_37_1 : fld h14 37 1 = fld h 37 1 := by rw [eh14]; exact fld_wr (by omega)
                      have Rh14 : zMR ms4 h h14 := R.w (a1 := 39) (a2 := 46) (j1 := 0) (j2 := 4) (by decide +kernel) ⟨by omega, by omega⟩ ⟨by decide, by decide⟩ eh14
                      refine zwW_p [(1, 0, 2)] (q := 104) (ls' := [(2, 37), (0, a), (0, b), (0, c), (0, v12), (9, 0)]) (st' := [(2, 37)]) (by decide +kernel) rfl ?_
                      refine zwW_gc Ih14 (kd := 13) (bn := 3) (n := 97) (c := 38) (nx := 107) (by decide +kernel) ?_
                      refine zwW_p [(1, 4, 0)] (q := 109) (ls' := [(2, 37), (0, a), (0, b), (0, c), (0, v12), (9, 0)]) (st' := [(0, v12), (2, 38)]) (by decide +kernel) rfl ?_
                      refine zwW_ro Ih14 (a := 38) (n := 8) (kd := 26) (base := 39) (step := 1) (nx := 110) (by decide +kernel) rfl ⟨by omega, by omega⟩ ?_
                      obtain ⟨r15, er15⟩ : ∃ z, z = ((39 : Nat) : Int) + ((1 : Nat) : Int) * v12 := ⟨_, rfl⟩
                      rw [← er15]
                      refine zwW_p [(0, 1, 0), (1, 1, 0), (0, 10000, 0)] (q := 115) (ls' := [(2, 37), (0, a), (0, b), (0, c), (0, v12), (9, 0)]) (st' := [(0, 10000), (0, a), (0, 1), (2, r15)]) (by decide +kernel) rfl ?_
                      refine zwW_div (nx := 116) (by decide +kernel) (by omega) (by omega) (by omega) ?_
                      refine zwW_p [(0, 100, 0)] (q := 118) (ls' := [(2, 37), (0, a), (0, b), (0, c), (0, v12), (9, 0)]) (st' := [(0, 100), (0, (a / 10000)), (0, 1), (2, r15)]) (by decide +kernel) rfl ?_
                      refine zwW_rem (nx := 119) (by decide +kernel) (by omega) (by omega) ?_
                      refine zwW_as Ih14 (a1 := 39) (a2 := 46) (n := 4) (lo := 0) (hi := 40) (nx := 120) (by decide +kernel) ⟨by omega, by omega⟩ ⟨by decide, by decide⟩ ⟨by omega, by omega⟩ ?_
                      intro h16 eh16 Ih16
                      have th16_37_1 : fld h16 37 1 = fld h14 37 1 := by rw [eh16]; exact fld_wr (by omega)
                      have Rh16 : zMR ms4 h h16 := Rh14.w (a1 := 39) (a2 := 46) (j1 := 0) (j2 := 4) (by decide +kernel) ⟨by omega, by omega⟩ ⟨by decide, by decide⟩ eh16
                      refine zwW_p [(1, 0, 2)] (q := 121) (ls' := [(2, 37), (0, a), (0, b), (0, c), (0, v12), (9, 0)]) (st' := [(2, 37)]) (by decide +kernel) rfl ?_
                      refine zwW_gc Ih16 (kd := 13) (bn := 3) (n := 97) (c := 38) (nx := 124) (by decide +kernel) ?_
                      refine zwW_p [(1, 4, 0)] (q := 126) (ls' := [(2, 37), (0, a), (0, b), (0, c), (0, v12), (9, 0)]) (st' := [(0, v12), (2, 38)]) (by decide +kernel) rfl ?_
                      refine zwW_ro Ih16 (a := 38) (n := 8) (kd := 26) (base := 39) (step := 1) (nx := 127) (by decide +kernel) rfl ⟨by omega, by omega⟩ ?_
                      obtain ⟨r17, er17⟩ : ∃ z, z = ((39 : Nat) : Int) + ((1 : Nat) : Int) * v12 := ⟨_, rfl⟩
                      rw [← er17]
                      refine zwW_p [(0, 2, 0), (1, 1, 0), (0, 100, 0)] (q := 131) (ls' := [(2, 37), (0, a), (0, b), (0, c), (0, v12), (9, 0)]) (st' := [(0, 100), (0, a), (0, 2), (2, r17)]) (by decide +kernel) rfl ?_
                      refine zwW_div (nx := 132) (by decide +kernel) (by omega) (by omega) (by omega) ?_
                      refine zwW_p [(0, 100, 0)] (q := 134) (ls' := [(2, 37), (0, a), (0, b), (0, c), (0, v12), (9, 0)]) (st' := [(0, 100), (0, (a / 100)), (0, 2), (2, r17)]) (by decide +kernel) rfl ?_
                      refine zwW_rem (nx := 135) (by decide +kernel) (by omega) (by omega) ?_
                      refine zwW_as Ih16 (a1 := 39) (a2 := 46) (n := 4) (lo := 0) (hi := 40) (nx := 136) (by decide +kernel) ⟨by omega, by omega⟩ ⟨by decide, by decide⟩ ⟨by omega, by omega⟩ ?_
                      intro h18 eh18 Ih18
                      have th18_37_1 : fld h18 37 1 = fld h16 37 1 := by rw [eh18]; exact fld_wr (by omega)
                      have Rh18 : zMR ms4 h h18 := Rh16.w (a1 := 39) (a2 := 46) (j1 := 0) (j2 := 4) (by decide +kernel) ⟨by omega, by omega⟩ ⟨by decide, by decide⟩ eh18
                      refine zwW_p [(1, 0, 2)] (q := 137) (ls' := [(2, 37), (0, a), (0, b), (0, c), (0, v12), (9, 0)]) (st' := [(2, 37)]) (by decide +kernel) rfl ?_
                      refine zwW_gc Ih18 (kd := 13) (bn := 3) (n := 97) (c := 38) (nx := 140) (by decide +kernel) ?_
                      refine zwW_p [(1, 4, 0)] (q := 142) (ls' := [(2, 37), (0, a), (0, b), (0, c), (0, v12), (9, 0)]) (st' := [(0, v12), (2, 38)]) (by decide +kernel) rfl ?_
                      refine zwW_ro Ih18 (a := 38) (n := 8) (kd := 26) (base := 39) (step := 1) (nx := 143) (by decide +kernel) rfl ⟨by omega, by omega⟩ ?_
                      obtain ⟨r19, er19⟩ : ∃ z, z = ((39 : Nat) : Int) + ((1 : Nat) : Int) * v12 := ⟨_, rfl⟩
                      rw [← er19]
                      refine zwW_p [(0, 3, 0), (1, 1, 0), (0, 100, 0)] (q := 147) (ls' := [(2, 37), (0, a), (0, b), (0, c), (0, v12), (9, 0)]) (st' := [(0, 100), (0, a), (0, 3), (2, r19)]) (by decide +kernel) rfl ?_
                      refine zwW_rem (nx := 148) (by decide +kernel) (by omega) (by omega) ?_
                      refine zwW_as Ih18 (a1 := 39) (a2 := 46) (n := 4) (lo := 0) (hi := 40) (nx := 149) (by decide +kernel) ⟨by omega, by omega⟩ ⟨by decide, by decide⟩ ⟨by omega, by omega⟩ ?_
                      intro h20 eh20 Ih20
                      have th20_37_1 : fld h20 37 1 = fld h18 37 1 := by rw [eh20]; exact fld_wr (by omega)
                      have Rh20 : zMR ms4 h h20 := Rh18.w (a1 := 39) (a2 := 46) (j1 := 0) (j2 := 4) (by decide +kernel) ⟨by omega, by omega⟩ ⟨by decide, by decide⟩ eh20
                      refine zwW_p [(1, 0, 2)] (q := 150) (ls' := [(2, 37), (0, a), (0, b), (0, c), (0, v12), (9, 0)]) (st' := [(2, 37)]) (by decide +kernel) rfl ?_
                      refine zwW_gc Ih20 (kd := 13) (bn := 6) (n := 97) (c := 65) (nx := 153) (by decide +kernel) ?_
                      refine zwW_p [(1, 4, 0), (1, 2, 0)] (q := 156) (ls' := [(2, 37), (0, a), (0, b), (0, c), (0, v12), (9, 0)]) (st' := [(0, b), (0, v12), (2, 65)]) (by decide +kernel) rfl ?_
                      refine zwW_as Ih20 (a1 := 65) (a2 := 65) (n := 8) (lo := 0) (hi := 9) (nx := 157) (by decide +kernel) ⟨by decide, by decide⟩ ⟨by omega, by omega⟩ ⟨by omega, by omega⟩ ?_
                      intro h21 eh21 Ih21
                      have th21_37_1 : fld h21 37 1 = fld h20 37 1 := by rw [eh21]; exact fld_wr (by omega)
                      have Rh21 : zMR ms4 h h21 := Rh20.w (a1 := 65) (a2 := 65) (j1 := 0) (j2 := 8) (by decide +kernel) ⟨by decide, by decide⟩ ⟨by omega, by omega⟩ eh21
                      refine zwW_p [(1, 0, 2)] (q := 158) (ls' := [(2, 37), (0, a), (0, b), (0, c), (0, v12), (9, 0)]) (st' := [(2, 37)]) (by decide +kernel) rfl ?_
                      refine zwW_gc Ih21 (kd := 13) (bn := 7) (n := 97) (c := 66) (nx := 161) (by decide +kernel) ?_
                      refine zwW_p [(1, 4, 0), (1, 3, 0)] (q := 164) (ls' := [(2, 37), (0, a), (0, b), (0, c), (0, v12), (9, 0)]) (st' := [(0, c), (0, v12), (2, 66)]) (by decide +kernel) rfl ?_
                      refine zwW_as Ih21 (a1 := 66) (a2 := 66) (n := 8) (lo := -2147483648) (hi := 2147483647) (nx := 165) (by decide +kernel) ⟨by decide, by decide⟩ ⟨by omega, by omega⟩ ⟨by omega, by omega⟩ ?_
                      intro h22 eh22 Ih22
                      have th22_37_1 : fld h22 37 1 = fld h21 37 1 := by rw [eh22]; exact fld_wr (by omega)
                      have Rh22 : zMR ms4 h h22 := Rh21.w (a1 := 66) (a2 := 66) (j1 := 0) (j2 := 8) (by decide +kernel) ⟨by decide, by decide⟩ ⟨by omega, by omega⟩ eh22
                      refine zwW_p [(1, 0, 2)] (q := 166) (ls' := [(2, 37), (0, a), (0, b), (0, c), (0, v12), (9, 0)]) (st' := [(2, 37)]) (by decide +kernel) rfl ?_
                      refine zwW_gc Ih22 (kd := 13) (bn := 11) (n := 97) (c := 70) (nx := 169) (by decide +kernel) ?_
                      refine zwW_p [(1, 4, 0), (0, 20, 0)] (q := 173) (ls' := [(2, 37), (0, a), (0, b), (0, c), (0, v12), (9, 0)]) (st' := [(0, 20), (0, v12), (2, 70)]) (by decide +kernel) rfl ?_
                      refine zwW_as Ih22 (a1 := 70) (a2 := 70) (n := 8) (lo := -2147483648) (hi := 2147483647) (nx := 174) (by decide +kernel) ⟨by decide, by decide⟩ ⟨by omega, by omega⟩ ⟨by decide, by decide⟩ ?_
                      intro h23 eh23 Ih23
                      have th23_37_1 : fld h23 37 1 = fld h22 37 1 := by rw [eh23]; exact fld_wr (by omega)
                      have Rh23 : zMR ms4 h h23 := Rh22.w (a1 := 70) (a2 := 70) (j1 := 0) (j2 := 8) (by decide +kernel) ⟨by decide, by decide⟩ ⟨by omega, by omega⟩ eh23
                      refine zwW_p [(1, 0, 2)] (q := 175) (ls' := [(2, 37), (0, a), (0, b), (0, c), (0, v12), (9, 0)]) (st' := [(2, 37)]) (by decide +kernel) rfl ?_
                      refine zwW_gc Ih23 (kd := 13) (bn := 12) (n := 97) (c := 71) (nx := 178) (by decide +kernel) ?_
                      refine zwW_p [(1, 4, 0), (0, 10, 0)] (q := 182) (ls' := [(2, 37), (0, a), (0, b), (0, c), (0, v12), (9, 0)]) (st' := [(0, 10), (0, v12), (2, 71)]) (by decide +kernel) rfl ?_
                      refine zwW_as Ih23 (a1 := 71) (a2 := 71) (n := 8) (lo := -2147483648) (hi := 2147483647) (nx := 183) (by decide +kernel) ⟨by decide, by decide⟩ ⟨by omega, by omega⟩ ⟨by decide, by decide⟩ ?_
                      intro h24 eh24 Ih24
                      have th24_37_1 : fld h24 37 1 = fld h23 37 1 := by rw [eh24]; exact fld_wr (by omega)
                      have Rh24 : zMR ms4 h h24 := Rh23.w (a1 := 71) (a2 := 71) (j1 := 0) (j2 := 8) (by decide +kernel) ⟨by decide, by decide⟩ ⟨by omega, by omega⟩ eh24
                      refine zwW_p [(0, 0, 0), (2, 5, 0)] (q := 186) (ls' := [(2, 37), (0, a), (0, b), (0, c), (0, v12), (0, 0)]) (st' := []) (by decide +kernel) rfl ?_
                      have L25 : ∀ (n : Nat) (wL25 : Int) (hL25 : Hp), n = ((200 - wL25)).toNat → (0 ≤ wL25) → (fld hL25 37 1 = fld h 37 1) → zI hL25 → zMR ms4 h hL25 → zwW sc 2 4 186 [(2, 37), (0, a), (0, b), (0, c), (0, v12), (0, wL25)] [] hL25 (zwRt 0 (fun x g => zI g ∧ zMR ms4 h g ∧ ((x = fld h 37 1 ∧ x < 8 ∧ fld g 37 1 = fld h 37 1 + 1 ∧ 0 ≤ a ∧ a / 1000000 ≤ 40 ∧ a / 10000 % 100 ≤ 40 ∧ a / 100 % 100 ≤ 40 ∧ a % 100 ≤ 40 ∧ 1 ≤ b ∧ b ≤ 9 ∧ 0 ≤ c ∧ c ≤ 9999) ∨ (x = -1 ∧ fld g 37 1 = fld h 37 1 ∧ (8 ≤ fld h 37 1 ∨ a < 0 ∨ 40 < a / 1000000 ∨ 40 < a / 10000 % 100 ∨ 40 < a / 100 % 100 ∨ 40 < a % 100 ∨ b < 1 ∨ 9 < b ∨ c < 0 ∨ 9999 < c))))) := by
                        intro n
                        induction n using Nat.strongRecOn with
                        | ind n IHL25 =>
                          intro wL25 hL25 hnL25 iL25_0 iL25_1 IhL25 RhL25
                          refine zwW_p [(1, 5, 0), (1, 0, 2)] (q := 189) (ls' := [(2, 37), (0, a), (0, b), (0, c), (0, v12), (0, wL25)]) (st' := [(2, 37), (0, wL25)]) (by decide +kernel) rfl ?_
                          refine zwW_gs IhL25 (kd := 13) (bn := 0) (n := 97) (t := 0) (lo := 0) (hi := 156) (nx := 192) (by decide +kernel) ?_
                          intro v26 ev26 lv26 uv26
                          refine zwic_gt (q := 213) (nx := 195) (by decide +kernel) (fun c27 => ?_) (fun c27 => ?_)
                          · refine zwW_p [(1, 0, 2), (12, 0, 0)] (q := 215) (ls' := [(2, 37), (0, a), (0, b), (0, c), (0, v12), (0, wL25)]) (st' := [(2, 37), (2, 37)]) (by decide +kernel) rfl ?_
                            refine zwW_gs IhL25 (kd := 13) (bn := 1) (n := 97) (t := 0) (lo := 0) (hi := 8) (nx := 218) (by decide +kernel) ?_
                            intro v28 ev28 lv28 uv28
                            refine zwW_p [(0, 1, 0)] (q := 219) (ls' := [(2, 37), (0, a), (0, b), (0, c), (0, v12), (0, wL25)]) (st' := [(0, 1), (0, v28), (2, 37)]) (by decide +kernel) rfl ?_
                            refine zwW_add (nx := 220) (by decide +kernel) ⟨by omega, by omega⟩ ?_
                            refine zwW_ps IhL25 (kd := 13) (bn := 1) (n := 97) (lo := 0) (hi := 8) (nx := 223) (by decide +kernel) ⟨by omega, by omega⟩ ?_
                            intro h29 eh29 Ih29
                            have th29_37_1 : fld h29 37 1 = (v28 + 1) := by rw [eh29]; exact fld_wr_eq (IhL25.s (a1 := 37) (a2 := 37) (k := 13) (n := 97) (by decide +kernel) (by decide) (by decide)) (by decide)
                            have Rh29 : zMR ms4 h h29 := RhL25.w (a1 := 37) (a2 := 37) (j1 := 1) (j2 := 2) (by decide +kernel) ⟨by decide, by decide⟩ ⟨by decide, by decide⟩ eh29
                            refine zwW_p [(1, 4, 0)] (q := 225) (ls' := [(2, 37), (0, a), (0, b), (0, c), (0, v12), (0, wL25)]) (st' := [(0, v12)]) (by decide +kernel) rfl ?_
                            refine zwW_ret (nx := 226) (a := 0) (b := 0) (by decide +kernel) rfl (Or.inl rfl) ?_
                            exact ⟨Ih29, Rh29, by omega⟩
                          · refine zwW_p [(1, 0, 2)] (q := 196) (ls' := [(2, 37), (0, a), (0, b), (0, c), (0, v12), (0, wL25)]) (st' := [(2, 37)]) (by decide +kernel) rfl ?_
                            refine zwW_gc IhL25 (kd := 13) (bn := 5) (n := 97) (c := 56) (nx := 199) (by decide +kernel) ?_
                            refine zwW_p [(1, 4, 0)] (q := 201) (ls' := [(2, 37), (0, a), (0, b), (0, c), (0, v12), (0, wL25)]) (st' := [(0, v12), (2, 56)]) (by decide +kernel) rfl ?_
                            refine zwW_ro IhL25 (a := 56) (n := 8) (kd := 26) (base := 57) (step := 1) (nx := 202) (by decide +kernel) rfl ⟨by omega, by omega⟩ ?_
                            obtain ⟨r30, er30⟩ : ∃ z, z = ((57 : Nat) : Int) + ((1 : Nat) : Int) * v12 := ⟨_, rfl⟩
                            rw [← er30]
                            refine zwW_p [(1, 5, 0), (0, 10, 0)] (q := 206) (ls' := [(2, 37), (0, a), (0, b), (0, c), (0, v12), (0, wL25)]) (st' := [(0, 10), (0, wL25), (2, r30)]) (by decide +kernel) rfl ?_
                            refine zwW_as IhL25 (a1 := 57) (a2 := 64) (n := 157) (lo := -2147483648) (hi := 2147483647) (nx := 207) (by decide +kernel) ⟨by omega, by omega⟩ ⟨by omega, by omega⟩ ⟨by decide, by decide⟩ ?_
                            intro h31 eh31 Ih31
                            have th31_37_1 : fld h31 37 1 = fld hL25 37 1 := by rw [eh31]; exact fld_wr (by omega)
                            have Rh31 : zMR ms4 h h31 := RhL25.w (a1 := 57) (a2 := 64) (j1 := 0) (j2 := 157) (by decide +kernel) ⟨by omega, by omega⟩ ⟨by omega, by omega⟩ eh31
                            refine zwW_inc (i := 5) (c := 1) (x := wL25) (nx := 210) (by decide +kernel) rfl ⟨by omega, by omega⟩ (ls' := [(2, 37), (0, a), (0, b), (0, c), (0, v12), (0, (wL25 + 1))]) rfl ?_
                            refine zwW_p [(24, 186, 0)] (q := 186) (ls' := [(2, 37), (0, a), (0, b), (0, c), (0, v12), (0, (wL25 + 1))]) (st' := []) (by decide +kernel) rfl ?_
                            exact IHL25 ((200 - (wL25 + 1))).toNat (by omega) (wL25 + 1) h31 rfl (by omega) (by omega) Ih31 Rh31
                      exact L25 _ 0 h24 rfl (by omega) (by omega) Ih24 Rh24
                    · refine zwW_p [(0, -1, 0)] (q := 82) (ls' := [(2, 37), (0, a), (0, b), (0, c), (9, 0), (9, 0)]) (st' := [(0, -1)]) (by decide +kernel) rfl ?_
                      refine zwW_ret (nx := 83) (a := 0) (b := 0) (by decide +kernel) rfl (Or.inl rfl) ?_
                      exact ⟨I, R, by omega⟩
                · refine zwif_eq (q := 81) (nx := 72) (by decide +kernel) (fun c32 => ?_) (fun c32 => ?_)
                  · refine zwW_p [(0, -1, 0)] (q := 82) (ls' := [(2, 37), (0, a), (0, b), (0, c), (9, 0), (9, 0)]) (st' := [(0, -1)]) (by decide +kernel) rfl ?_
                    refine zwW_ret (nx := 83) (a := 0) (b := 0) (by decide +kernel) rfl (Or.inl rfl) ?_
                    exact ⟨I, R, by omega⟩
                  · exfalso; omega
            · refine zwif_eq (q := 81) (nx := 60) (by decide +kernel) (fun c33 => ?_) (fun c33 => ?_)
              · refine zwW_p [(0, -1, 0)] (q := 82) (ls' := [(2, 37), (0, a), (0, b), (0, c), (9, 0), (9, 0)]) (st' := [(0, -1)]) (by decide +kernel) rfl ?_
                refine zwW_ret (nx := 83) (a := 0) (b := 0) (by decide +kernel) rfl (Or.inl rfl) ?_
                exact ⟨I, R, by omega⟩
              · exfalso; omega
def ms6 : Zms := [(48, 55, 0, 8)]
-- WheelLandModel.road(III)Z
theorem m6 {sc : List Int} (h : Hp) (I : zI h) (a b c : Int) : zwC sc 3 6 [(2, 37), (0, a), (0, b), (0, c)] h (zwRt 0 (fun x g => zI g ∧ zMR ms6 h g ∧ ((x = 1 ∧ 0 ≤ a ∧ a < fld h 37 1 ∧ 0 ≤ b ∧ b < fld h 37 1 ∧ a ≠ b ∧ 1 ≤ c ∧ c ≤ 9) ∨ (x = 0 ∧ (a < 0 ∨ fld h 37 1 ≤ a ∨ b < 0 ∨ fld h 37 1 ≤ b ∨ a = b ∨ c < 1 ∨ 9 < c))))) := by
  refine zwC_of (D := 2) 4 (by decide +kernel) rfl (ls := [(2, 37), (0, a), (0, b), (0, c)]) rfl ?_
  have R : zMR ms6 h h := zMR.rf _ _
  refine zwW_p [(1, 0, 2), (1, 1, 0)] (q := 2) (ls' := [(2, 37), (0, a), (0, b), (0, c)]) (st' := [(0, a), (2, 37)]) (by decide +kernel) rfl ?_
  refine zwW_cm I (op := 60) (k' := 104) (n := 1) (kd := 13) (m := 97) (nx := 5) (r := 37) (tl := [(0, a)]) (st' := []) (by decide +kernel) rfl (by decide +kernel) rfl (m104 h I a) ?_
  rintro x _ ⟨rfl, ⟨rfl, c1⟩ | ⟨rfl, c1⟩⟩
  · refine zwif_eq (q := 33) (nx := 8) (by decide +kernel) (fun c2 => ?_) (fun c2 => ?_)
    · exfalso; omega
    · refine zwW_p [(1, 0, 2), (1, 2, 0)] (q := 10) (ls' := [(2, 37), (0, a), (0, b), (0, c)]) (st' := [(0, b), (2, 37)]) (by decide +kernel) rfl ?_
      refine zwW_cm I (op := 60) (k' := 104) (n := 1) (kd := 13) (m := 97) (nx := 13) (r := 37) (tl := [(0, b)]) (st' := []) (by decide +kernel) rfl (by decide +kernel) rfl (m104 h I b) ?_
      rintro x _ ⟨rfl, ⟨rfl, c3⟩ | ⟨rfl, c3⟩⟩
      · refine zwif_eq (q := 33) (nx := 16) (by decide +kernel) (fun c4 => ?_) (fun c4 => ?_)
        · exfalso; omega
        · refine zwW_p [(1, 1, 0), (1, 2, 0)] (q := 18) (ls' := [(2, 37), (0, a), (0, b), (0, c)]) (st' := [(0, b), (0, a)]) (by decide +kernel) rfl ?_
          refine zwic_eq (q := 33) (nx := 21) (by decide +kernel) (fun c5 => ?_) (fun c5 => ?_)
          · refine zwW_p [(0, 0, 0)] (q := 34) (ls' := [(2, 37), (0, a), (0, b), (0, c)]) (st' := [(0, 0)]) (by decide +kernel) rfl ?_
            refine zwW_ret (nx := 35) (a := 1) (b := 0) (by decide +kernel) rfl (Or.inr (Or.inl ⟨rfl, by omega⟩)) ?_
            exact ⟨I, R, by omega⟩
          · refine zwW_p [(1, 3, 0), (7, 0, 0), (0, 1, 1), (0, 9, 1)] (q := 27) (ls' := [(2, 37), (0, a), (0, b), (0, c)]) (st' := [(1, 9), (1, 1), (1, c)]) (by decide +kernel) rfl ?_
            refine zwW_cs (k' := 101) (n := 3) (nx := 30) (as := [(1, c), (1, 1), (1, 9)]) (st' := []) (by decide +kernel) rfl (m101 h c 1 9) rfl ?_
            rintro x _ ⟨rfl, ⟨rfl, c6⟩ | ⟨rfl, c6⟩⟩
            · refine zwif_ne (q := 35) (nx := 33) (by decide +kernel) (fun c7 => ?_) (fun c7 => ?_)
              · refine zwW_p [(1, 0, 2)] (q := 36) (ls' := [(2, 37), (0, a), (0, b), (0, c)]) (st' := [(2, 37)]) (by decide +kernel) rfl ?_
                refine zwW_gc I (kd := 13) (bn := 4) (n := 97) (c := 47) (nx := 39) (by decide +kernel) ?_
                refine zwW_p [(1, 1, 0)] (q := 40) (ls' := [(2, 37), (0, a), (0, b), (0, c)]) (st' := [(0, a), (2, 47)]) (by decide +kernel) rfl ?_
                refine zwW_ro I (a := 47) (n := 8) (kd := 26) (base := 48) (step := 1) (nx := 41) (by decide +kernel) rfl ⟨by omega, by omega⟩ ?_
                obtain ⟨r8, er8⟩ : ∃ z, z = ((48 : Nat) : Int) + ((1 : Nat) : Int) * a := ⟨_, rfl⟩
                rw [← er8]
                refine zwW_p [(1, 2, 0), (1, 3, 0)] (q := 43) (ls' := [(2, 37), (0, a), (0, b), (0, c)]) (st' := [(0, c), (0, b), (2, r8)]) (by decide +kernel) rfl ?_
                refine zwW_as I (a1 := 48) (a2 := 55) (n := 8) (lo := 0) (hi := 9) (nx := 44) (by decide +kernel) ⟨by omega, by omega⟩ ⟨by omega, by omega⟩ ⟨by omega, by omega⟩ ?_
                intro h9 eh9 Ih9
                have Rh9 : zMR ms6 h h9 := R.w (a1 := 48) (a2 := 55) (j1 := 0) (j2 := 8) (by decide +kernel) ⟨by omega, by omega⟩ ⟨by omega, by omega⟩ eh9
                refine zwW_p [(1, 0, 2)] (q := 45) (ls' := [(2, 37), (0, a), (0, b), (0, c)]) (st' := [(2, 37)]) (by decide +kernel) rfl ?_
                refine zwW_gc Ih9 (kd := 13) (bn := 4) (n := 97) (c := 47) (nx := 48) (by decide +kernel) ?_
                refine zwW_p [(1, 2, 0)] (q := 49) (ls' := [(2, 37), (0, a), (0, b), (0, c)]) (st' := [(0, b), (2, 47)]) (by decide +kernel) rfl ?_
                refine zwW_ro Ih9 (a := 47) (n := 8) (kd := 26) (base := 48) (step := 1) (nx := 50) (by decide +kernel) rfl ⟨by omega, by omega⟩ ?_
                obtain ⟨r10, er10⟩ : ∃ z, z = ((48 : Nat) : Int) + ((1 : Nat) : Int) * b := ⟨_, rfl⟩
                rw [← er10]
                refine zwW_p [(1, 1, 0), (1, 3, 0)] (q := 52) (ls' := [(2, 37), (0, a), (0, b), (0, c)]) (st' := [(0, c), (0, a), (2, r10)]) (by decide +kernel) rfl ?_
                refine zwW_as Ih9 (a1 := 48) (a2 := 55) (n := 8) (lo := 0) (hi := 9) (nx := 53) (by decide +kernel) ⟨by omega, by omega⟩ ⟨by omega, by omega⟩ ⟨by omega, by omega⟩ ?_
                intro h11 eh11 Ih11
                have Rh11 : zMR ms6 h h11 := Rh9.w (a1 := 48) (a2 := 55) (j1 := 0) (j2 := 8) (by decide +kernel) ⟨by omega, by omega⟩ ⟨by omega, by omega⟩ eh11
                refine zwW_p [(0, 1, 0)] (q := 54) (ls' := [(2, 37), (0, a), (0, b), (0, c)]) (st' := [(0, 1)]) (by decide +kernel) rfl ?_
                refine zwW_ret (nx := 55) (a := 1) (b := 0) (by decide +kernel) rfl (Or.inr (Or.inl ⟨rfl, by omega⟩)) ?_
                exact ⟨Ih11, Rh11, by omega⟩
              · exfalso; omega
            · refine zwif_ne (q := 35) (nx := 33) (by decide +kernel) (fun c12 => ?_) (fun c12 => ?_)
              · exfalso; omega
              · refine zwW_p [(0, 0, 0)] (q := 34) (ls' := [(2, 37), (0, a), (0, b), (0, c)]) (st' := [(0, 0)]) (by decide +kernel) rfl ?_
                refine zwW_ret (nx := 35) (a := 1) (b := 0) (by decide +kernel) rfl (Or.inr (Or.inl ⟨rfl, by omega⟩)) ?_
                exact ⟨I, R, by omega⟩
      · refine zwif_eq (q := 33) (nx := 16) (by decide +kernel) (fun c13 => ?_) (fun c13 => ?_)
        · refine zwW_p [(0, 0, 0)] (q := 34) (ls' := [(2, 37), (0, a), (0, b), (0, c)]) (st' := [(0, 0)]) (by decide +kernel) rfl ?_
          refine zwW_ret (nx := 35) (a := 1) (b := 0) (by decide +kernel) rfl (Or.inr (Or.inl ⟨rfl, by omega⟩)) ?_
          exact ⟨I, R, by omega⟩
        · exfalso; omega
  · refine zwif_eq (q := 33) (nx := 8) (by decide +kernel) (fun c14 => ?_) (fun c14 => ?_)
    · refine zwW_p [(0, 0, 0)] (q := 34) (ls' := [(2, 37), (0, a), (0, b), (0, c)]) (st' := [(0, 0)]) (by decide +kernel) rfl ?_
      refine zwW_ret (nx := 35) (a := 1) (b := 0) (by decide +kernel) rfl (Or.inr (Or.inl ⟨rfl, by omega⟩)) ?_
      exact ⟨I, R, by omega⟩
    · exfalso; omega
