/-! contracts of methods -/
-- WheelLandModel.coins(II)I
theorem m16_z {sc : List Int} (h : Hp) (I : zI h) (a b : Int) : zwC sc 3 16 [(2, 37), (0, a), (0, b)] h (zwRt 0 (fun x g => zI g ∧ zMR ms16 h g ∧ (-2147483648 ≤ x ∧ x ≤ 2147483647) ∧ (x = yCoinA (yM h) a b) ∧ (yM g = yCoin (yM h) a b))) := by
  refine zwC_of (D := 2) 3 (by decide +kernel) rfl (ls := [(2, 37), (0, a), (0, b)]) rfl ?_
  have R : zMR ms16 h h := zMR.rf _ _
  have u0 : yM h 37 0 = fld h 37 0 := rfl
  have u1 : yM h 37 1 = fld h 37 1 := rfl
  have u2 : yM h 37 2 = fld h 37 2 := rfl
  have u64 : yM h 37 64 = fld h 37 64 := rfl
  have u78 : yM h 37 78 = fld h 37 78 := rfl
  refine zwW_p [(1, 0, 2), (1, 1, 0)] (q := 2) (ls' := [(2, 37), (0, a), (0, b)]) (st' := [(0, a), (2, 37)]) (by decide +kernel) rfl ?_
  refine zwW_cm I (op := 60) (k' := 111) (n := 1) (kd := 13) (m := 97) (nx := 5) (r := 37) (tl := [(0, a)]) (st' := []) (by decide +kernel) rfl (by decide +kernel) rfl (m111 h I a) ?_
  rintro x _ ⟨rfl, ⟨rfl, c1⟩ | ⟨rfl, c1⟩⟩
  · refine zwif_eq (q := 22) (nx := 8) (by decide +kernel) (fun c2 => ?_) (fun c2 => ?_)
    · exfalso; omega
    · refine zwW_p [(1, 2, 0), (7, 0, 0), (0, -9999, 1), (0, 9999, 1)] (q := 16) (ls' := [(2, 37), (0, a), (0, b)]) (st' := [(1, 9999), (1, -9999), (1, b)]) (by decide +kernel) rfl ?_
      refine zwW_cs (k' := 101) (n := 3) (nx := 19) (as := [(1, b), (1, -9999), (1, 9999)]) (st' := []) (by decide +kernel) rfl (m101 h b (-9999) 9999) rfl ?_
      rintro x _ ⟨rfl, ⟨rfl, c3⟩ | ⟨rfl, c3⟩⟩
      · refine zwif_ne (q := 26) (nx := 22) (by decide +kernel) (fun c4 => ?_) (fun c4 => ?_)
        · refine zwW_p [(1, 0, 2)] (q := 27) (ls' := [(2, 37), (0, a), (0, b)]) (st' := [(2, 37)]) (by decide +kernel) rfl ?_
          refine zwW_gc I (kd := 13) (bn := 25) (n := 97) (c := 84) (nx := 30) (by decide +kernel) ?_
          refine zwW_p [(1, 1, 0), (14, 0, 0)] (q := 32) (ls' := [(2, 37), (0, a), (0, b)]) (st' := [(0, a), (2, 84), (0, a), (2, 84)]) (by decide +kernel) rfl ?_
          refine zwW_al I (a1 := 84) (a2 := 84) (kd := 20) (n := 20) (t := 0) (lo := -2147483648) (hi := 2147483647) (nx := 33) (by decide +kernel) ⟨by decide, by decide⟩ ⟨by omega, by omega⟩ ?_
          intro v5 ev5 lv5 uv5
          have sv5 : v5 = (yM h) 84 a.toNat := Eq.trans ev5 (Eq.trans (Eq.symm (yM_p (h := h) (a := 84) (n := 20) (i := a.toNat) rfl (by omega))) (Eq.trans (congrFun (congrFun (rfl : yM h = yM h) 84) a.toNat) rfl))
          refine zwW_p [(1, 2, 0)] (q := 34) (ls' := [(2, 37), (0, a), (0, b)]) (st' := [(0, b), (0, v5), (0, a), (2, 84)]) (by decide +kernel) rfl ?_
          refine zwW_adw (nx := 35) (by decide +kernel) ?_
          intro v6 ev6 lv6 uv6
          have Ev6 : v6 = w32 (((yM h) 84 a.toNat) + b) := by rw [ev6, sv5]
          refine zwW_as I (a1 := 84) (a2 := 84) (n := 20) (lo := -2147483648) (hi := 2147483647) (nx := 36) (by decide +kernel) ⟨by decide, by decide⟩ ⟨by omega, by omega⟩ ⟨by omega, by omega⟩ ?_
          intro h7 eh7 Ih7
          have Zh7 : yM h7 = (zs (yM h) 84 a.toNat (w32 (((yM h) 84 a.toNat) + b))) := by rw [yM_w (a := 84) (n := 20) (i := a.toNat) (kd := 20) rfl (I.s (a1 := 84) (a2 := 84) (by decide +kernel) (by decide) (by decide)) (by omega) eh7, Ev6]
          have Rh7 : zMR ms16 h h7 := R.w (a1 := 84) (a2 := 84) (j1 := 0) (j2 := 20) (by decide +kernel) ⟨by decide, by decide⟩ ⟨by omega, by omega⟩ eh7
          refine zwW_p [(1, 0, 2)] (q := 37) (ls' := [(2, 37), (0, a), (0, b)]) (st' := [(2, 37)]) (by decide +kernel) rfl ?_
          refine zwW_gc Ih7 (kd := 13) (bn := 25) (n := 97) (c := 84) (nx := 40) (by decide +kernel) ?_
          refine zwW_p [(1, 1, 0)] (q := 41) (ls' := [(2, 37), (0, a), (0, b)]) (st' := [(0, a), (2, 84)]) (by decide +kernel) rfl ?_
          refine zwW_al Ih7 (a1 := 84) (a2 := 84) (kd := 20) (n := 20) (t := 0) (lo := -2147483648) (hi := 2147483647) (nx := 42) (by decide +kernel) ⟨by decide, by decide⟩ ⟨by omega, by omega⟩ ?_
          intro v8 ev8 lv8 uv8
          have sv8 : v8 = (w32 (((yM h) 84 a.toNat) + b)) := Eq.trans ev8 (Eq.trans (Eq.symm (yM_p (h := h7) (a := 84) (n := 20) (i := a.toNat) rfl (by omega))) (Eq.trans (congrFun (congrFun Zh7 84) a.toNat) (zs_eq : (zs (yM h) 84 a.toNat (w32 (((yM h) 84 a.toNat) + b))) 84 a.toNat = (w32 (((yM h) 84 a.toNat) + b)))))
          refine zwW_ret (nx := 43) (a := 0) (b := 0) (by decide +kernel) rfl (Or.inl rfl) ?_
          exact ⟨Ih7, Rh7, by omega, by unfold yCoinA; (repeat' (first | rw [if_pos (by omega)] | rw [if_neg (by omega)])); all_goals (first | rfl | omega), by refine Eq.trans Zh7 ?_; unfold yCoin; (repeat' (first | rw [if_pos (by omega)] | rw [if_neg (by omega)])); all_goals (repeat' (first | rfl | omega | apply zs_cg))⟩
        · exfalso; omega
      · refine zwif_ne (q := 26) (nx := 22) (by decide +kernel) (fun c9 => ?_) (fun c9 => ?_)
        · exfalso; omega
        · refine zwW_p [(0, -2147483648, 0)] (q := 25) (ls' := [(2, 37), (0, a), (0, b)]) (st' := [(0, -2147483648)]) (by decide +kernel) rfl ?_
          refine zwW_ret (nx := 26) (a := 0) (b := 0) (by decide +kernel) rfl (Or.inl rfl) ?_
          exact ⟨I, R, by omega, by unfold yCoinA; (repeat' (first | rw [if_pos (by omega)] | rw [if_neg (by omega)])); all_goals (first | rfl | omega), by refine Eq.trans (rfl : yM h = yM h) ?_; unfold yCoin; (repeat' (first | rw [if_pos (by omega)] | rw [if_neg (by omega)])); all_goals (repeat' (first | rfl | omega | apply zs_cg))⟩
  · refine zwif_eq (q := 22) (nx := 8) (by decide +kernel) (fun c10 => ?_) (fun c10 => ?_)
    · refine zwW_p [(0, -2147483648, 0)] (q := 25) (ls' := [(2, 37), (0, a), (0, b)]) (st' := [(0, -2147483648)]) (by decide +kernel) rfl ?_
      refine zwW_ret (nx := 26) (a := 0) (b := 0) (by decide +kernel) rfl (Or.inl rfl) ?_
      exact ⟨I, R, by omega, by unfold yCoinA; (repeat' (first | rw [if_pos (by omega)] | rw [if_neg (by omega)])); all_goals (first | rfl | omega), by refine Eq.trans (rfl : yM h = yM h) ?_; unfold yCoin; (repeat' (first | rw [if_pos (by omega)] | rw [if_neg (by omega)])); all_goals (repeat' (first | rfl | omega | apply zs_cg))⟩
    · exfalso; omega
-- WheelLandModel.cotton(II)I
theorem m18_z {sc : List Int} (h : Hp) (I : zI h) (a b : Int) : zwC sc 3 18 [(2, 37), (0, a), (0, b)] h (zwRt 0 (fun x g => zI g ∧ zMR ms18 h g ∧ (-2147483648 ≤ x ∧ x ≤ 2147483647) ∧ (x = yCottA (yM h) a b) ∧ (yM g = yCott (yM h) a b))) := by
  refine zwC_of (D := 2) 3 (by decide +kernel) rfl (ls := [(2, 37), (0, a), (0, b)]) rfl ?_
  have R : zMR ms18 h h := zMR.rf _ _
  have u0 : yM h 37 0 = fld h 37 0 := rfl
  have u1 : yM h 37 1 = fld h 37 1 := rfl
  have u2 : yM h 37 2 = fld h 37 2 := rfl
  have u64 : yM h 37 64 = fld h 37 64 := rfl
  have u78 : yM h 37 78 = fld h 37 78 := rfl
  refine zwW_p [(1, 0, 2), (1, 1, 0)] (q := 2) (ls' := [(2, 37), (0, a), (0, b)]) (st' := [(0, a), (2, 37)]) (by decide +kernel) rfl ?_
  refine zwW_cm I (op := 60) (k' := 104) (n := 1) (kd := 13) (m := 97) (nx := 5) (r := 37) (tl := [(0, a)]) (st' := []) (by decide +kernel) rfl (by decide +kernel) rfl (m104 h I a) ?_
  rintro x _ ⟨rfl, ⟨rfl, c1⟩ | ⟨rfl, c1⟩⟩
  · refine zwif_eq (q := 34) (nx := 8) (by decide +kernel) (fun c2 => ?_) (fun c2 => ?_)
    · exfalso; omega
    · refine zwW_p [(1, 2, 0), (7, 0, 0), (0, 1, 1), (0, 999, 1)] (q := 14) (ls' := [(2, 37), (0, a), (0, b)]) (st' := [(1, 999), (1, 1), (1, b)]) (by decide +kernel) rfl ?_
      refine zwW_cs (k' := 101) (n := 3) (nx := 17) (as := [(1, b), (1, 1), (1, 999)]) (st' := []) (by decide +kernel) rfl (m101 h b 1 999) rfl ?_
      rintro x _ ⟨rfl, ⟨rfl, c3⟩ | ⟨rfl, c3⟩⟩
      · refine zwif_eq (q := 34) (nx := 20) (by decide +kernel) (fun c4 => ?_) (fun c4 => ?_)
        · exfalso; omega
        · refine zwW_p [(1, 0, 2)] (q := 21) (ls' := [(2, 37), (0, a), (0, b)]) (st' := [(2, 37)]) (by decide +kernel) rfl ?_
          refine zwW_gc I (kd := 13) (bn := 7) (n := 97) (c := 66) (nx := 24) (by decide +kernel) ?_
          refine zwW_p [(1, 1, 0)] (q := 25) (ls' := [(2, 37), (0, a), (0, b)]) (st' := [(0, a), (2, 66)]) (by decide +kernel) rfl ?_
          refine zwW_al I (a1 := 66) (a2 := 66) (kd := 20) (n := 8) (t := 0) (lo := -2147483648) (hi := 2147483647) (nx := 26) (by decide +kernel) ⟨by decide, by decide⟩ ⟨by omega, by omega⟩ ?_
          intro v5 ev5 lv5 uv5
          have sv5 : v5 = (yM h) 66 a.toNat := Eq.trans ev5 (Eq.trans (Eq.symm (yM_p (h := h) (a := 66) (n := 8) (i := a.toNat) rfl (by omega))) (Eq.trans (congrFun (congrFun (rfl : yM h = yM h) 66) a.toNat) rfl))
          refine zwW_p [(1, 2, 0)] (q := 27) (ls' := [(2, 37), (0, a), (0, b)]) (st' := [(0, b), (0, v5)]) (by decide +kernel) rfl ?_
          refine zwW_adw (nx := 28) (by decide +kernel) ?_
          intro v6 ev6 lv6 uv6
          have Ev6 : v6 = w32 (((yM h) 66 a.toNat) + b) := by rw [ev6, sv5]
          refine zwW_p [(0, 9999, 0)] (q := 31) (ls' := [(2, 37), (0, a), (0, b)]) (st' := [(0, 9999), (0, v6)]) (by decide +kernel) rfl ?_
          refine zwic_le (q := 36) (nx := 34) (by decide +kernel) (fun c7 => ?_) (fun c7 => ?_)
          · refine zwW_p [(1, 0, 2)] (q := 37) (ls' := [(2, 37), (0, a), (0, b)]) (st' := [(2, 37)]) (by decide +kernel) rfl ?_
            refine zwW_gc I (kd := 13) (bn := 7) (n := 97) (c := 66) (nx := 40) (by decide +kernel) ?_
            refine zwW_p [(1, 1, 0), (14, 0, 0)] (q := 42) (ls' := [(2, 37), (0, a), (0, b)]) (st' := [(0, a), (2, 66), (0, a), (2, 66)]) (by decide +kernel) rfl ?_
            refine zwW_al I (a1 := 66) (a2 := 66) (kd := 20) (n := 8) (t := 0) (lo := -2147483648) (hi := 2147483647) (nx := 43) (by decide +kernel) ⟨by decide, by decide⟩ ⟨by omega, by omega⟩ ?_
            intro v8 ev8 lv8 uv8
            have sv8 : v8 = (yM h) 66 a.toNat := Eq.trans ev8 (Eq.trans (Eq.symm (yM_p (h := h) (a := 66) (n := 8) (i := a.toNat) rfl (by omega))) (Eq.trans (congrFun (congrFun (rfl : yM h = yM h) 66) a.toNat) rfl))
            refine zwW_p [(1, 2, 0)] (q := 44) (ls' := [(2, 37), (0, a), (0, b)]) (st' := [(0, b), (0, v8), (0, a), (2, 66)]) (by decide +kernel) rfl ?_
            refine zwW_adw (nx := 45) (by decide +kernel) ?_
            intro v9 ev9 lv9 uv9
            have Ev9 : v9 = w32 (((yM h) 66 a.toNat) + b) := by rw [ev9, sv8]
            refine zwW_as I (a1 := 66) (a2 := 66) (n := 8) (lo := -2147483648) (hi := 2147483647) (nx := 46) (by decide +kernel) ⟨by decide, by decide⟩ ⟨by omega, by omega⟩ ⟨by omega, by omega⟩ ?_
            intro h10 eh10 Ih10
            have Zh10 : yM h10 = (zs (yM h) 66 a.toNat (w32 (((yM h) 66 a.toNat) + b))) := by rw [yM_w (a := 66) (n := 8) (i := a.toNat) (kd := 20) rfl (I.s (a1 := 66) (a2 := 66) (by decide +kernel) (by decide) (by decide)) (by omega) eh10, Ev9]
            have Rh10 : zMR ms18 h h10 := R.w (a1 := 66) (a2 := 66) (j1 := 0) (j2 := 8) (by decide +kernel) ⟨by decide, by decide⟩ ⟨by omega, by omega⟩ eh10
            refine zwW_p [(1, 0, 2)] (q := 47) (ls' := [(2, 37), (0, a), (0, b)]) (st' := [(2, 37)]) (by decide +kernel) rfl ?_
            refine zwW_gc Ih10 (kd := 13) (bn := 7) (n := 97) (c := 66) (nx := 50) (by decide +kernel) ?_
            refine zwW_p [(1, 1, 0)] (q := 51) (ls' := [(2, 37), (0, a), (0, b)]) (st' := [(0, a), (2, 66)]) (by decide +kernel) rfl ?_
            refine zwW_al Ih10 (a1 := 66) (a2 := 66) (kd := 20) (n := 8) (t := 0) (lo := -2147483648) (hi := 2147483647) (nx := 52) (by decide +kernel) ⟨by decide, by decide⟩ ⟨by omega, by omega⟩ ?_
            intro v11 ev11 lv11 uv11
            have sv11 : v11 = (w32 (((yM h) 66 a.toNat) + b)) := Eq.trans ev11 (Eq.trans (Eq.symm (yM_p (h := h10) (a := 66) (n := 8) (i := a.toNat) rfl (by omega))) (Eq.trans (congrFun (congrFun Zh10 66) a.toNat) (zs_eq : (zs (yM h) 66 a.toNat (w32 (((yM h) 66 a.toNat) + b))) 66 a.toNat = (w32 (((yM h) 66 a.toNat) + b)))))
            refine zwW_ret (nx := 53) (a := 0) (b := 0) (by decide +kernel) rfl (Or.inl rfl) ?_
            exact ⟨Ih10, Rh10, by omega, by unfold yCottA; (repeat' (first | rw [if_pos (by omega)] | rw [if_neg (by omega)])); all_goals (first | rfl | omega), by refine Eq.trans Zh10 ?_; unfold yCott; (repeat' (first | rw [if_pos (by omega)] | rw [if_neg (by omega)])); all_goals (repeat' (first | rfl | omega | apply zs_cg))⟩
          · refine zwW_p [(0, -1, 0)] (q := 35) (ls' := [(2, 37), (0, a), (0, b)]) (st' := [(0, -1)]) (by decide +kernel) rfl ?_
            refine zwW_ret (nx := 36) (a := 0) (b := 0) (by decide +kernel) rfl (Or.inl rfl) ?_
            exact ⟨I, R, by omega, by unfold yCottA; (repeat' (first | rw [if_pos (by omega)] | rw [if_neg (by omega)])); all_goals (first | rfl | omega), by refine Eq.trans (rfl : yM h = yM h) ?_; unfold yCott; (repeat' (first | rw [if_pos (by omega)] | rw [if_neg (by omega)])); all_goals (repeat' (first | rfl | omega | apply zs_cg))⟩
      · refine zwif_eq (q := 34) (nx := 20) (by decide +kernel) (fun c12 => ?_) (fun c12 => ?_)
        · refine zwW_p [(0, -1, 0)] (q := 35) (ls' := [(2, 37), (0, a), (0, b)]) (st' := [(0, -1)]) (by decide +kernel) rfl ?_
          refine zwW_ret (nx := 36) (a := 0) (b := 0) (by decide +kernel) rfl (Or.inl rfl) ?_
          exact ⟨I, R, by omega, by unfold yCottA; (repeat' (first | rw [if_pos (by omega)] | rw [if_neg (by omega)])); all_goals (first | rfl | omega), by refine Eq.trans (rfl : yM h = yM h) ?_; unfold yCott; (repeat' (first | rw [if_pos (by omega)] | rw [if_neg (by omega)])); all_goals (repeat' (first | rfl | omega | apply zs_cg))⟩
        · exfalso; omega
  · refine zwif_eq (q := 34) (nx := 8) (by decide +kernel) (fun c13 => ?_) (fun c13 => ?_)
    · refine zwW_p [(0, -1, 0)] (q := 35) (ls' := [(2, 37), (0, a), (0, b)]) (st' := [(0, -1)]) (by decide +kernel) rfl ?_
      refine zwW_ret (nx := 36) (a := 0) (b := 0) (by decide +kernel) rfl (Or.inl rfl) ?_
      exact ⟨I, R, by omega, by unfold yCottA; (repeat' (first | rw [if_pos (by omega)] | rw [if_neg (by omega)])); all_goals (first | rfl | omega), by refine Eq.trans (rfl : yM h = yM h) ?_; unfold yCott; (repeat' (first | rw [if_pos (by omega)] | rw [if_neg (by omega)])); all_goals (repeat' (first | rfl | omega | apply zs_cg))⟩
    · exfalso; omega
-- WheelLandModel.mill(II)I
theorem m54_z {sc : List Int} (h : Hp) (I : zI h) (a b : Int) : zwC sc 3 54 [(2, 37), (0, a), (0, b)] h (zwRt 0 (fun x g => zI g ∧ zMR ms54 h g ∧ (-2147483648 ≤ x ∧ x ≤ 2147483647) ∧ (x = yMillA (yM h) a b) ∧ (yM g = yMill (yM h) a b))) := by
  refine zwC_of (D := 2) 3 (by decide +kernel) rfl (ls := [(2, 37), (0, a), (0, b)]) rfl ?_
  have R : zMR ms54 h h := zMR.rf _ _
  have u0 : yM h 37 0 = fld h 37 0 := rfl
  have u1 : yM h 37 1 = fld h 37 1 := rfl
  have u2 : yM h 37 2 = fld h 37 2 := rfl
  have u64 : yM h 37 64 = fld h 37 64 := rfl
  have u78 : yM h 37 78 = fld h 37 78 := rfl
  refine zwW_p [(1, 0, 2), (1, 1, 0)] (q := 2) (ls' := [(2, 37), (0, a), (0, b)]) (st' := [(0, a), (2, 37)]) (by decide +kernel) rfl ?_
  refine zwW_cm I (op := 60) (k' := 104) (n := 1) (kd := 13) (m := 97) (nx := 5) (r := 37) (tl := [(0, a)]) (st' := []) (by decide +kernel) rfl (by decide +kernel) rfl (m104 h I a) ?_
  rintro x _ ⟨rfl, ⟨rfl, c1⟩ | ⟨rfl, c1⟩⟩
  · refine zwif_eq (q := 34) (nx := 8) (by decide +kernel) (fun c2 => ?_) (fun c2 => ?_)
    · exfalso; omega
    · refine zwW_p [(1, 2, 0), (7, 0, 0), (0, 1, 1), (0, 999, 1)] (q := 14) (ls' := [(2, 37), (0, a), (0, b)]) (st' := [(1, 999), (1, 1), (1, b)]) (by decide +kernel) rfl ?_
      refine zwW_cs (k' := 101) (n := 3) (nx := 17) (as := [(1, b), (1, 1), (1, 999)]) (st' := []) (by decide +kernel) rfl (m101 h b 1 999) rfl ?_
      rintro x _ ⟨rfl, ⟨rfl, c3⟩ | ⟨rfl, c3⟩⟩
      · refine zwif_eq (q := 34) (nx := 20) (by decide +kernel) (fun c4 => ?_) (fun c4 => ?_)
        · exfalso; omega
        · refine zwW_p [(1, 0, 2)] (q := 21) (ls' := [(2, 37), (0, a), (0, b)]) (st' := [(2, 37)]) (by decide +kernel) rfl ?_
          refine zwW_gc I (kd := 13) (bn := 10) (n := 97) (c := 69) (nx := 24) (by decide +kernel) ?_
          refine zwW_p [(1, 1, 0)] (q := 25) (ls' := [(2, 37), (0, a), (0, b)]) (st' := [(0, a), (2, 69)]) (by decide +kernel) rfl ?_
          refine zwW_al I (a1 := 69) (a2 := 69) (kd := 20) (n := 8) (t := 0) (lo := -2147483648) (hi := 2147483647) (nx := 26) (by decide +kernel) ⟨by decide, by decide⟩ ⟨by omega, by omega⟩ ?_
          intro v5 ev5 lv5 uv5
          have sv5 : v5 = (yM h) 69 a.toNat := Eq.trans ev5 (Eq.trans (Eq.symm (yM_p (h := h) (a := 69) (n := 8) (i := a.toNat) rfl (by omega))) (Eq.trans (congrFun (congrFun (rfl : yM h = yM h) 69) a.toNat) rfl))
          refine zwW_p [(1, 2, 0)] (q := 27) (ls' := [(2, 37), (0, a), (0, b)]) (st' := [(0, b), (0, v5)]) (by decide +kernel) rfl ?_
          refine zwW_adw (nx := 28) (by decide +kernel) ?_
          intro v6 ev6 lv6 uv6
          have Ev6 : v6 = w32 (((yM h) 69 a.toNat) + b) := by rw [ev6, sv5]
          refine zwW_p [(0, 9999, 0)] (q := 31) (ls' := [(2, 37), (0, a), (0, b)]) (st' := [(0, 9999), (0, v6)]) (by decide +kernel) rfl ?_
          refine zwic_le (q := 36) (nx := 34) (by decide +kernel) (fun c7 => ?_) (fun c7 => ?_)
          · refine zwW_p [(1, 0, 2)] (q := 37) (ls' := [(2, 37), (0, a), (0, b)]) (st' := [(2, 37)]) (by decide +kernel) rfl ?_
            refine zwW_gc I (kd := 13) (bn := 10) (n := 97) (c := 69) (nx := 40) (by decide +kernel) ?_
            refine zwW_p [(1, 1, 0), (14, 0, 0)] (q := 42) (ls' := [(2, 37), (0, a), (0, b)]) (st' := [(0, a), (2, 69), (0, a), (2, 69)]) (by decide +kernel) rfl ?_
            refine zwW_al I (a1 := 69) (a2 := 69) (kd := 20) (n := 8) (t := 0) (lo := -2147483648) (hi := 2147483647) (nx := 43) (by decide +kernel) ⟨by decide, by decide⟩ ⟨by omega, by omega⟩ ?_
            intro v8 ev8 lv8 uv8
            have sv8 : v8 = (yM h) 69 a.toNat := Eq.trans ev8 (Eq.trans (Eq.symm (yM_p (h := h) (a := 69) (n := 8) (i := a.toNat) rfl (by omega))) (Eq.trans (congrFun (congrFun (rfl : yM h = yM h) 69) a.toNat) rfl))
            refine zwW_p [(1, 2, 0)] (q := 44) (ls' := [(2, 37), (0, a), (0, b)]) (st' := [(0, b), (0, v8), (0, a), (2, 69)]) (by decide +kernel) rfl ?_
            refine zwW_adw (nx := 45) (by decide +kernel) ?_
            intro v9 ev9 lv9 uv9
            have Ev9 : v9 = w32 (((yM h) 69 a.toNat) + b) := by rw [ev9, sv8]
            refine zwW_as I (a1 := 69) (a2 := 69) (n := 8) (lo := -2147483648) (hi := 2147483647) (nx := 46) (by decide +kernel) ⟨by decide, by decide⟩ ⟨by omega, by omega⟩ ⟨by omega, by omega⟩ ?_
            intro h10 eh10 Ih10
            have Zh10 : yM h10 = (zs (yM h) 69 a.toNat (w32 (((yM h) 69 a.toNat) + b))) := by rw [yM_w (a := 69) (n := 8) (i := a.toNat) (kd := 20) rfl (I.s (a1 := 69) (a2 := 69) (by decide +kernel) (by decide) (by decide)) (by omega) eh10, Ev9]
            have Rh10 : zMR ms54 h h10 := R.w (a1 := 69) (a2 := 69) (j1 := 0) (j2 := 8) (by decide +kernel) ⟨by decide, by decide⟩ ⟨by omega, by omega⟩ eh10
            refine zwW_p [(1, 0, 2)] (q := 47) (ls' := [(2, 37), (0, a), (0, b)]) (st' := [(2, 37)]) (by decide +kernel) rfl ?_
            refine zwW_gc Ih10 (kd := 13) (bn := 10) (n := 97) (c := 69) (nx := 50) (by decide +kernel) ?_
            refine zwW_p [(1, 1, 0)] (q := 51) (ls' := [(2, 37), (0, a), (0, b)]) (st' := [(0, a), (2, 69)]) (by decide +kernel) rfl ?_
            refine zwW_al Ih10 (a1 := 69) (a2 := 69) (kd := 20) (n := 8) (t := 0) (lo := -2147483648) (hi := 2147483647) (nx := 52) (by decide +kernel) ⟨by decide, by decide⟩ ⟨by omega, by omega⟩ ?_
            intro v11 ev11 lv11 uv11
            have sv11 : v11 = (w32 (((yM h) 69 a.toNat) + b)) := Eq.trans ev11 (Eq.trans (Eq.symm (yM_p (h := h10) (a := 69) (n := 8) (i := a.toNat) rfl (by omega))) (Eq.trans (congrFun (congrFun Zh10 69) a.toNat) (zs_eq : (zs (yM h) 69 a.toNat (w32 (((yM h) 69 a.toNat) + b))) 69 a.toNat = (w32 (((yM h) 69 a.toNat) + b)))))
            refine zwW_ret (nx := 53) (a := 0) (b := 0) (by decide +kernel) rfl (Or.inl rfl) ?_
            exact ⟨Ih10, Rh10, by omega, by unfold yMillA; (repeat' (first | rw [if_pos (by omega)] | rw [if_neg (by omega)])); all_goals (first | rfl | omega), by refine Eq.trans Zh10 ?_; unfold yMill; (repeat' (first | rw [if_pos (by omega)] | rw [if_neg (by omega)])); all_goals (repeat' (first | rfl | omega | apply zs_cg))⟩
          · refine zwW_p [(0, -1, 0)] (q := 35) (ls' := [(2, 37), (0, a), (0, b)]) (st' := [(0, -1)]) (by decide +kernel) rfl ?_
            refine zwW_ret (nx := 36) (a := 0) (b := 0) (by decide +kernel) rfl (Or.inl rfl) ?_
            exact ⟨I, R, by omega, by unfold yMillA; (repeat' (first | rw [if_pos (by omega)] | rw [if_neg (by omega)])); all_goals (first | rfl | omega), by refine Eq.trans (rfl : yM h = yM h) ?_; unfold yMill; (repeat' (first | rw [if_pos (by omega)] | rw [if_neg (by omega)])); all_goals (repeat' (first | rfl | omega | apply zs_cg))⟩
      · refine zwif_eq (q := 34) (nx := 20) (by decide +kernel) (fun c12 => ?_) (fun c12 => ?_)
        · refine zwW_p [(0, -1, 0)] (q := 35) (ls' := [(2, 37), (0, a), (0, b)]) (st' := [(0, -1)]) (by decide +kernel) rfl ?_
          refine zwW_ret (nx := 36) (a := 0) (b := 0) (by decide +kernel) rfl (Or.inl rfl) ?_
          exact ⟨I, R, by omega, by unfold yMillA; (repeat' (first | rw [if_pos (by omega)] | rw [if_neg (by omega)])); all_goals (first | rfl | omega), by refine Eq.trans (rfl : yM h = yM h) ?_; unfold yMill; (repeat' (first | rw [if_pos (by omega)] | rw [if_neg (by omega)])); all_goals (repeat' (first | rfl | omega | apply zs_cg))⟩
        · exfalso; omega
  · refine zwif_eq (q := 34) (nx := 8) (by decide +kernel) (fun c13 => ?_) (fun c13 => ?_)
    · refine zwW_p [(0, -1, 0)] (q := 35) (ls' := [(2, 37), (0, a), (0, b)]) (st' := [(0, -1)]) (by decide +kernel) rfl ?_
      refine zwW_ret (nx := 36) (a := 0) (b := 0) (by decide +kernel) rfl (Or.inl rfl) ?_
      exact ⟨I, R, by omega, by unfold yMillA; (repeat' (first | rw [if_pos (by omega)] | rw [if_neg (by omega)])); all_goals (first | rfl | omega), by refine Eq.trans (rfl : yM h = yM h) ?_; unfold yMill; (repeat' (first | rw [if_pos (by omega)] | rw [if_neg (by omega)])); all_goals (repeat' (first | rfl | omega | apply zs_cg))⟩
    · exfalso; omega
-- WheelLandModel.sold(II)I
theorem m64_z {sc : List Int} (h : Hp) (I : zI h) (a b : Int) : zwC sc 3 64 [(2, 37), (0, a), (0, b)] h (zwRt 0 (fun x g => zI g ∧ zMR ms64 h g ∧ (-2147483648 ≤ x ∧ x ≤ 2147483647) ∧ (x = ySoldA (yM h) a b) ∧ (yM g = ySold (yM h) a b))) := by
  refine zwC_of (D := 2) 3 (by decide +kernel) rfl (ls := [(2, 37), (0, a), (0, b)]) rfl ?_
  have R : zMR ms64 h h := zMR.rf _ _
  have u0 : yM h 37 0 = fld h 37 0 := rfl
  have u1 : yM h 37 1 = fld h 37 1 := rfl
  have u2 : yM h 37 2 = fld h 37 2 := rfl
  have u64 : yM h 37 64 = fld h 37 64 := rfl
  have u78 : yM h 37 78 = fld h 37 78 := rfl
  refine zwW_p [(1, 0, 2), (1, 1, 0)] (q := 2) (ls' := [(2, 37), (0, a), (0, b)]) (st' := [(0, a), (2, 37)]) (by decide +kernel) rfl ?_
  refine zwW_cm I (op := 60) (k' := 104) (n := 1) (kd := 13) (m := 97) (nx := 5) (r := 37) (tl := [(0, a)]) (st' := []) (by decide +kernel) rfl (by decide +kernel) rfl (m104 h I a) ?_
  rintro x _ ⟨rfl, ⟨rfl, c1⟩ | ⟨rfl, c1⟩⟩
  · refine zwif_eq (q := 34) (nx := 8) (by decide +kernel) (fun c2 => ?_) (fun c2 => ?_)
    · exfalso; omega
    · refine zwW_p [(1, 2, 0), (7, 0, 0), (0, 1, 1), (0, 999, 1)] (q := 14) (ls' := [(2, 37), (0, a), (0, b)]) (st' := [(1, 999), (1, 1), (1, b)]) (by decide +kernel) rfl ?_
      refine zwW_cs (k' := 101) (n := 3) (nx := 17) (as := [(1, b), (1, 1), (1, 999)]) (st' := []) (by decide +kernel) rfl (m101 h b 1 999) rfl ?_
      rintro x _ ⟨rfl, ⟨rfl, c3⟩ | ⟨rfl, c3⟩⟩
      · refine zwif_eq (q := 34) (nx := 20) (by decide +kernel) (fun c4 => ?_) (fun c4 => ?_)
        · exfalso; omega
        · refine zwW_p [(1, 0, 2)] (q := 21) (ls' := [(2, 37), (0, a), (0, b)]) (st' := [(2, 37)]) (by decide +kernel) rfl ?_
          refine zwW_gc I (kd := 13) (bn := 15) (n := 97) (c := 74) (nx := 24) (by decide +kernel) ?_
          refine zwW_p [(1, 1, 0)] (q := 25) (ls' := [(2, 37), (0, a), (0, b)]) (st' := [(0, a), (2, 74)]) (by decide +kernel) rfl ?_
          refine zwW_al I (a1 := 74) (a2 := 74) (kd := 20) (n := 8) (t := 0) (lo := 0) (hi := 9999) (nx := 26) (by decide +kernel) ⟨by decide, by decide⟩ ⟨by omega, by omega⟩ ?_
          intro v5 ev5 lv5 uv5
          have sv5 : v5 = (yM h) 74 a.toNat := Eq.trans ev5 (Eq.trans (Eq.symm (yM_p (h := h) (a := 74) (n := 8) (i := a.toNat) rfl (by omega))) (Eq.trans (congrFun (congrFun (rfl : yM h = yM h) 74) a.toNat) rfl))
          refine zwW_p [(1, 2, 0)] (q := 27) (ls' := [(2, 37), (0, a), (0, b)]) (st' := [(0, b), (0, v5)]) (by decide +kernel) rfl ?_
          refine zwW_add (nx := 28) (by decide +kernel) ⟨by omega, by omega⟩ ?_
          refine zwW_p [(0, 9999, 0)] (q := 31) (ls' := [(2, 37), (0, a), (0, b)]) (st' := [(0, 9999), (0, (v5 + b))]) (by decide +kernel) rfl ?_
          refine zwic_le (q := 36) (nx := 34) (by decide +kernel) (fun c6 => ?_) (fun c6 => ?_)
          · refine zwW_p [(1, 0, 2)] (q := 37) (ls' := [(2, 37), (0, a), (0, b)]) (st' := [(2, 37)]) (by decide +kernel) rfl ?_
            refine zwW_gc I (kd := 13) (bn := 15) (n := 97) (c := 74) (nx := 40) (by decide +kernel) ?_
            refine zwW_p [(1, 1, 0), (14, 0, 0)] (q := 42) (ls' := [(2, 37), (0, a), (0, b)]) (st' := [(0, a), (2, 74), (0, a), (2, 74)]) (by decide +kernel) rfl ?_
            refine zwW_al I (a1 := 74) (a2 := 74) (kd := 20) (n := 8) (t := 0) (lo := 0) (hi := 9999) (nx := 43) (by decide +kernel) ⟨by decide, by decide⟩ ⟨by omega, by omega⟩ ?_
            intro v7 ev7 lv7 uv7
            have sv7 : v7 = (yM h) 74 a.toNat := Eq.trans ev7 (Eq.trans (Eq.symm (yM_p (h := h) (a := 74) (n := 8) (i := a.toNat) rfl (by omega))) (Eq.trans (congrFun (congrFun (rfl : yM h = yM h) 74) a.toNat) rfl))
            refine zwW_p [(1, 2, 0)] (q := 44) (ls' := [(2, 37), (0, a), (0, b)]) (st' := [(0, b), (0, v7), (0, a), (2, 74)]) (by decide +kernel) rfl ?_
            refine zwW_add (nx := 45) (by decide +kernel) ⟨by omega, by omega⟩ ?_
            refine zwW_as I (a1 := 74) (a2 := 74) (n := 8) (lo := 0) (hi := 9999) (nx := 46) (by decide +kernel) ⟨by decide, by decide⟩ ⟨by omega, by omega⟩ ⟨by omega, by omega⟩ ?_
            intro h8 eh8 Ih8
            have Zh8 : yM h8 = (zs (yM h) 74 a.toNat (((yM h) 74 a.toNat) + b)) := by rw [yM_w (a := 74) (n := 8) (i := a.toNat) (kd := 20) rfl (I.s (a1 := 74) (a2 := 74) (by decide +kernel) (by decide) (by decide)) (by omega) eh8, sv7]
            have Rh8 : zMR ms64 h h8 := R.w (a1 := 74) (a2 := 74) (j1 := 0) (j2 := 8) (by decide +kernel) ⟨by decide, by decide⟩ ⟨by omega, by omega⟩ eh8
            refine zwW_p [(1, 0, 2)] (q := 47) (ls' := [(2, 37), (0, a), (0, b)]) (st' := [(2, 37)]) (by decide +kernel) rfl ?_
            refine zwW_gc Ih8 (kd := 13) (bn := 15) (n := 97) (c := 74) (nx := 50) (by decide +kernel) ?_
            refine zwW_p [(1, 1, 0)] (q := 51) (ls' := [(2, 37), (0, a), (0, b)]) (st' := [(0, a), (2, 74)]) (by decide +kernel) rfl ?_
            refine zwW_al Ih8 (a1 := 74) (a2 := 74) (kd := 20) (n := 8) (t := 0) (lo := 0) (hi := 9999) (nx := 52) (by decide +kernel) ⟨by decide, by decide⟩ ⟨by omega, by omega⟩ ?_
            intro v9 ev9 lv9 uv9
            have sv9 : v9 = (((yM h) 74 a.toNat) + b) := Eq.trans ev9 (Eq.trans (Eq.symm (yM_p (h := h8) (a := 74) (n := 8) (i := a.toNat) rfl (by omega))) (Eq.trans (congrFun (congrFun Zh8 74) a.toNat) (zs_eq : (zs (yM h) 74 a.toNat (((yM h) 74 a.toNat) + b)) 74 a.toNat = (((yM h) 74 a.toNat) + b))))
            refine zwW_ret (nx := 53) (a := 0) (b := 0) (by decide +kernel) rfl (Or.inl rfl) ?_
            exact ⟨Ih8, Rh8, by omega, by unfold ySoldA; (repeat' (first | rw [if_pos (by omega)] | rw [if_neg (by omega)])); all_goals (first | rfl | omega), by refine Eq.trans Zh8 ?_; unfold ySold; (repeat' (first | rw [if_pos (by omega)] | rw [if_neg (by omega)])); all_goals (repeat' (first | rfl | omega | apply zs_cg))⟩
          · refine zwW_p [(0, -1, 0)] (q := 35) (ls' := [(2, 37), (0, a), (0, b)]) (st' := [(0, -1)]) (by decide +kernel) rfl ?_
            refine zwW_ret (nx := 36) (a := 0) (b := 0) (by decide +kernel) rfl (Or.inl rfl) ?_
            exact ⟨I, R, by omega, by unfold ySoldA; (repeat' (first | rw [if_pos (by omega)] | rw [if_neg (by omega)])); all_goals (first | rfl | omega), by refine Eq.trans (rfl : yM h = yM h) ?_; unfold ySold; (repeat' (first | rw [if_pos (by omega)] | rw [if_neg (by omega)])); all_goals (repeat' (first | rfl | omega | apply zs_cg))⟩
      · refine zwif_eq (q := 34) (nx := 20) (by decide +kernel) (fun c10 => ?_) (fun c10 => ?_)
        · refine zwW_p [(0, -1, 0)] (q := 35) (ls' := [(2, 37), (0, a), (0, b)]) (st' := [(0, -1)]) (by decide +kernel) rfl ?_
          refine zwW_ret (nx := 36) (a := 0) (b := 0) (by decide +kernel) rfl (Or.inl rfl) ?_
          exact ⟨I, R, by omega, by unfold ySoldA; (repeat' (first | rw [if_pos (by omega)] | rw [if_neg (by omega)])); all_goals (first | rfl | omega), by refine Eq.trans (rfl : yM h = yM h) ?_; unfold ySold; (repeat' (first | rw [if_pos (by omega)] | rw [if_neg (by omega)])); all_goals (repeat' (first | rfl | omega | apply zs_cg))⟩
        · exfalso; omega
  · refine zwif_eq (q := 34) (nx := 8) (by decide +kernel) (fun c11 => ?_) (fun c11 => ?_)
    · refine zwW_p [(0, -1, 0)] (q := 35) (ls' := [(2, 37), (0, a), (0, b)]) (st' := [(0, -1)]) (by decide +kernel) rfl ?_
      refine zwW_ret (nx := 36) (a := 0) (b := 0) (by decide +kernel) rfl (Or.inl rfl) ?_
      exact ⟨I, R, by omega, by unfold ySoldA; (repeat' (first | rw [if_pos (by omega)] | rw [if_neg (by omega)])); all_goals (first | rfl | omega), by refine Eq.trans (rfl : yM h = yM h) ?_; unfold ySold; (repeat' (first | rw [if_pos (by omega)] | rw [if_neg (by omega)])); all_goals (repeat' (first | rfl | omega | apply zs_cg))⟩
    · exfalso; omega
-- WheelLandModel.price(II)Z
theorem m56_z {sc : List Int} (h : Hp) (I : zI h) (a b : Int) (q_b : -2147483648 ≤ b ∧ b ≤ 2147483647) : zwC sc 3 56 [(2, 37), (0, a), (0, b)] h (zwRt 0 (fun x g => zI g ∧ zMR ms56 h g ∧ (-2147483648 ≤ x ∧ x ≤ 2147483647) ∧ (x = yPricA (yM h) a b) ∧ (yM g = yPric (yM h) a b))) := by
  refine zwC_of (D := 2) 3 (by decide +kernel) rfl (ls := [(2, 37), (0, a), (0, b)]) rfl ?_
  have R : zMR ms56 h h := zMR.rf _ _
  have u0 : yM h 37 0 = fld h 37 0 := rfl
  have u1 : yM h 37 1 = fld h 37 1 := rfl
  have u2 : yM h 37 2 = fld h 37 2 := rfl
  have u64 : yM h 37 64 = fld h 37 64 := rfl
  have u78 : yM h 37 78 = fld h 37 78 := rfl
  refine zwW_p [(1, 0, 2), (1, 1, 0)] (q := 2) (ls' := [(2, 37), (0, a), (0, b)]) (st' := [(0, a), (2, 37)]) (by decide +kernel) rfl ?_
  refine zwW_cm I (op := 60) (k' := 104) (n := 1) (kd := 13) (m := 97) (nx := 5) (r := 37) (tl := [(0, a)]) (st' := []) (by decide +kernel) rfl (by decide +kernel) rfl (m104 h I a) ?_
  rintro x _ ⟨rfl, ⟨rfl, c1⟩ | ⟨rfl, c1⟩⟩
  · refine zwif_eq (q := 34) (nx := 8) (by decide +kernel) (fun c2 => ?_) (fun c2 => ?_)
    · exfalso; omega
    · refine zwW_p [(1, 2, 0)] (q := 9) (ls' := [(2, 37), (0, a), (0, b)]) (st' := [(0, b)]) (by decide +kernel) rfl ?_
      refine zwif_lt (q := 34) (nx := 12) (by decide +kernel) (fun c3 => ?_) (fun c3 => ?_)
      · refine zwW_p [(0, 0, 0)] (q := 35) (ls' := [(2, 37), (0, a), (0, b)]) (st' := [(0, 0)]) (by decide +kernel) rfl ?_
        refine zwW_ret (nx := 36) (a := 1) (b := 0) (by decide +kernel) rfl (Or.inr (Or.inl ⟨rfl, by omega⟩)) ?_
        exact ⟨I, R, by omega, by unfold yPricA; (repeat' (first | rw [if_pos (by omega)] | rw [if_neg (by omega)])); all_goals (first | rfl | omega), by refine Eq.trans (rfl : yM h = yM h) ?_; unfold yPric; (repeat' (first | rw [if_pos (by omega)] | rw [if_neg (by omega)])); all_goals (repeat' (first | rfl | omega | apply zs_cg))⟩
      · refine zwW_p [(1, 2, 0), (0, 100, 0)] (q := 15) (ls' := [(2, 37), (0, a), (0, b)]) (st' := [(0, 100), (0, b)]) (by decide +kernel) rfl ?_
        refine zwW_div (nx := 16) (by decide +kernel) (by omega) (by omega) (by omega) ?_
        refine zwW_p [(7, 0, 0), (0, 1, 1), (0, 99, 1)] (q := 21) (ls' := [(2, 37), (0, a), (0, b)]) (st' := [(1, 99), (1, 1), (1, (b / 100))]) (by decide +kernel) rfl ?_
        refine zwW_cs (k' := 101) (n := 3) (nx := 24) (as := [(1, (b / 100)), (1, 1), (1, 99)]) (st' := []) (by decide +kernel) rfl (m101 h (b / 100) 1 99) rfl ?_
        rintro x _ ⟨rfl, ⟨rfl, c4⟩ | ⟨rfl, c4⟩⟩
        · refine zwif_eq (q := 34) (nx := 27) (by decide +kernel) (fun c5 => ?_) (fun c5 => ?_)
          · exfalso; omega
          · refine zwW_p [(1, 2, 0), (0, 100, 0)] (q := 30) (ls' := [(2, 37), (0, a), (0, b)]) (st' := [(0, 100), (0, b)]) (by decide +kernel) rfl ?_
            refine zwW_rem (nx := 31) (by decide +kernel) (by omega) (by omega) ?_
            refine zwif_ne (q := 36) (nx := 34) (by decide +kernel) (fun c6 => ?_) (fun c6 => ?_)
            · refine zwW_p [(1, 0, 2)] (q := 37) (ls' := [(2, 37), (0, a), (0, b)]) (st' := [(2, 37)]) (by decide +kernel) rfl ?_
              refine zwW_gc I (kd := 13) (bn := 11) (n := 97) (c := 70) (nx := 40) (by decide +kernel) ?_
              refine zwW_p [(1, 1, 0), (1, 2, 0), (0, 100, 0)] (q := 44) (ls' := [(2, 37), (0, a), (0, b)]) (st' := [(0, 100), (0, b), (0, a), (2, 70)]) (by decide +kernel) rfl ?_
              refine zwW_div (nx := 45) (by decide +kernel) (by omega) (by omega) (by omega) ?_
              refine zwW_as I (a1 := 70) (a2 := 70) (n := 8) (lo := -2147483648) (hi := 2147483647) (nx := 46) (by decide +kernel) ⟨by decide, by decide⟩ ⟨by omega, by omega⟩ ⟨by omega, by omega⟩ ?_
              intro h7 eh7 Ih7
              have Zh7 : yM h7 = (zs (yM h) 70 a.toNat (b / 100)) := by rw [yM_w (a := 70) (n := 8) (i := a.toNat) (kd := 20) rfl (I.s (a1 := 70) (a2 := 70) (by decide +kernel) (by decide) (by decide)) (by omega) eh7]
              have Rh7 : zMR ms56 h h7 := R.w (a1 := 70) (a2 := 70) (j1 := 0) (j2 := 8) (by decide +kernel) ⟨by decide, by decide⟩ ⟨by omega, by omega⟩ eh7
              refine zwW_p [(1, 0, 2)] (q := 47) (ls' := [(2, 37), (0, a), (0, b)]) (st' := [(2, 37)]) (by decide +kernel) rfl ?_
              refine zwW_gc Ih7 (kd := 13) (bn := 12) (n := 97) (c := 71) (nx := 50) (by decide +kernel) ?_
              refine zwW_p [(1, 1, 0), (1, 2, 0), (0, 100, 0)] (q := 54) (ls' := [(2, 37), (0, a), (0, b)]) (st' := [(0, 100), (0, b), (0, a), (2, 71)]) (by decide +kernel) rfl ?_
              refine zwW_rem (nx := 55) (by decide +kernel) (by omega) (by omega) ?_
              refine zwW_as Ih7 (a1 := 71) (a2 := 71) (n := 8) (lo := -2147483648) (hi := 2147483647) (nx := 56) (by decide +kernel) ⟨by decide, by decide⟩ ⟨by omega, by omega⟩ ⟨by omega, by omega⟩ ?_
              intro h8 eh8 Ih8
              have Zh8 : yM h8 = (zs (zs (yM h) 70 a.toNat (b / 100)) 71 a.toNat (b % 100)) := by rw [yM_w (a := 71) (n := 8) (i := a.toNat) (kd := 20) rfl (Ih7.s (a1 := 71) (a2 := 71) (by decide +kernel) (by decide) (by decide)) (by omega) eh8, Zh7]
              have Rh8 : zMR ms56 h h8 := Rh7.w (a1 := 71) (a2 := 71) (j1 := 0) (j2 := 8) (by decide +kernel) ⟨by decide, by decide⟩ ⟨by omega, by omega⟩ eh8
              refine zwW_p [(0, 1, 0)] (q := 57) (ls' := [(2, 37), (0, a), (0, b)]) (st' := [(0, 1)]) (by decide +kernel) rfl ?_
              refine zwW_ret (nx := 58) (a := 1) (b := 0) (by decide +kernel) rfl (Or.inr (Or.inl ⟨rfl, by omega⟩)) ?_
              exact ⟨Ih8, Rh8, by omega, by unfold yPricA; (repeat' (first | rw [if_pos (by omega)] | rw [if_neg (by omega)])); all_goals (first | rfl | omega), by refine Eq.trans Zh8 ?_; unfold yPric; (repeat' (first | rw [if_pos (by omega)] | rw [if_neg (by omega)])); all_goals (repeat' (first | rfl | omega | apply zs_cg))⟩
            · refine zwW_p [(0, 0, 0)] (q := 35) (ls' := [(2, 37), (0, a), (0, b)]) (st' := [(0, 0)]) (by decide +kernel) rfl ?_
              refine zwW_ret (nx := 36) (a := 1) (b := 0) (by decide +kernel) rfl (Or.inr (Or.inl ⟨rfl, by omega⟩)) ?_
              exact ⟨I, R, by omega, by unfold yPricA; (repeat' (first | rw [if_pos (by omega)] | rw [if_neg (by omega)])); all_goals (first | rfl | omega), by refine Eq.trans (rfl : yM h = yM h) ?_; unfold yPric; (repeat' (first | rw [if_pos (by omega)] | rw [if_neg (by omega)])); all_goals (repeat' (first | rfl | omega | apply zs_cg))⟩
        · refine zwif_eq (q := 34) (nx := 27) (by decide +kernel) (fun c9 => ?_) (fun c9 => ?_)
          · refine zwW_p [(0, 0, 0)] (q := 35) (ls' := [(2, 37), (0, a), (0, b)]) (st' := [(0, 0)]) (by decide +kernel) rfl ?_
            refine zwW_ret (nx := 36) (a := 1) (b := 0) (by decide +kernel) rfl (Or.inr (Or.inl ⟨rfl, by omega⟩)) ?_
            exact ⟨I, R, by omega, by unfold yPricA; (repeat' (first | rw [if_pos (by omega)] | rw [if_neg (by omega)])); all_goals (first | rfl | omega), by refine Eq.trans (rfl : yM h = yM h) ?_; unfold yPric; (repeat' (first | rw [if_pos (by omega)] | rw [if_neg (by omega)])); all_goals (repeat' (first | rfl | omega | apply zs_cg))⟩
          · exfalso; omega
  · refine zwif_eq (q := 34) (nx := 8) (by decide +kernel) (fun c10 => ?_) (fun c10 => ?_)
    · refine zwW_p [(0, 0, 0)] (q := 35) (ls' := [(2, 37), (0, a), (0, b)]) (st' := [(0, 0)]) (by decide +kernel) rfl ?_
      refine zwW_ret (nx := 36) (a := 1) (b := 0) (by decide +kernel) rfl (Or.inr (Or.inl ⟨rfl, by omega⟩)) ?_
      exact ⟨I, R, by omega, by unfold yPricA; (repeat' (first | rw [if_pos (by omega)] | rw [if_neg (by omega)])); all_goals (first | rfl | omega), by refine Eq.trans (rfl : yM h = yM h) ?_; unfold yPric; (repeat' (first | rw [if_pos (by omega)] | rw [if_neg (by omega)])); all_goals (repeat' (first | rfl | omega | apply zs_cg))⟩
    · exfalso; omega
-- WheelLandModel.talk(II)I
theorem m58_z {sc : List Int} (h : Hp) (I : zI h) (a b : Int) : zwC sc 3 58 [(2, 37), (0, a), (0, b)] h (zwRt 0 (fun x g => zI g ∧ zMR ms58 h g ∧ (-2147483648 ≤ x ∧ x ≤ 2147483647) ∧ (x = yTalkA (yM h) a b) ∧ (yM g = yTalk (yM h) a b))) := by
  refine zwC_of (D := 2) 3 (by decide +kernel) rfl (ls := [(2, 37), (0, a), (0, b)]) rfl ?_
  have R : zMR ms58 h h := zMR.rf _ _
  have u0 : yM h 37 0 = fld h 37 0 := rfl
  have u1 : yM h 37 1 = fld h 37 1 := rfl
  have u2 : yM h 37 2 = fld h 37 2 := rfl
  have u64 : yM h 37 64 = fld h 37 64 := rfl
  have u78 : yM h 37 78 = fld h 37 78 := rfl
  refine zwW_p [(1, 0, 2), (1, 1, 0)] (q := 2) (ls' := [(2, 37), (0, a), (0, b)]) (st' := [(0, a), (2, 37)]) (by decide +kernel) rfl ?_
  refine zwW_cm I (op := 60) (k' := 104) (n := 1) (kd := 13) (m := 97) (nx := 5) (r := 37) (tl := [(0, a)]) (st' := []) (by decide +kernel) rfl (by decide +kernel) rfl (m104 h I a) ?_
  rintro x _ ⟨rfl, ⟨rfl, c1⟩ | ⟨rfl, c1⟩⟩
  · refine zwif_eq (q := 20) (nx := 8) (by decide +kernel) (fun c2 => ?_) (fun c2 => ?_)
    · exfalso; omega
    · refine zwW_p [(1, 2, 0), (7, 0, 0), (0, 0, 1), (0, 20, 1)] (q := 14) (ls' := [(2, 37), (0, a), (0, b)]) (st' := [(1, 20), (1, 0), (1, b)]) (by decide +kernel) rfl ?_
      refine zwW_cs (k' := 101) (n := 3) (nx := 17) (as := [(1, b), (1, 0), (1, 20)]) (st' := []) (by decide +kernel) rfl (m101 h b 0 20) rfl ?_
      rintro x _ ⟨rfl, ⟨rfl, c3⟩ | ⟨rfl, c3⟩⟩
      · refine zwif_ne (q := 22) (nx := 20) (by decide +kernel) (fun c4 => ?_) (fun c4 => ?_)
        · refine zwW_p [(1, 0, 2)] (q := 23) (ls' := [(2, 37), (0, a), (0, b)]) (st' := [(2, 37)]) (by decide +kernel) rfl ?_
          refine zwW_gc I (kd := 13) (bn := 13) (n := 97) (c := 72) (nx := 26) (by decide +kernel) ?_
          refine zwW_p [(1, 1, 0), (1, 2, 0)] (q := 28) (ls' := [(2, 37), (0, a), (0, b)]) (st' := [(0, b), (0, a), (2, 72)]) (by decide +kernel) rfl ?_
          refine zwW_as I (a1 := 72) (a2 := 72) (n := 8) (lo := -2147483648) (hi := 2147483647) (nx := 29) (by decide +kernel) ⟨by decide, by decide⟩ ⟨by omega, by omega⟩ ⟨by omega, by omega⟩ ?_
          intro h5 eh5 Ih5
          have Zh5 : yM h5 = (zs (yM h) 72 a.toNat b) := by rw [yM_w (a := 72) (n := 8) (i := a.toNat) (kd := 20) rfl (I.s (a1 := 72) (a2 := 72) (by decide +kernel) (by decide) (by decide)) (by omega) eh5]
          have Rh5 : zMR ms58 h h5 := R.w (a1 := 72) (a2 := 72) (j1 := 0) (j2 := 8) (by decide +kernel) ⟨by decide, by decide⟩ ⟨by omega, by omega⟩ eh5
          refine zwW_p [(1, 2, 0)] (q := 30) (ls' := [(2, 37), (0, a), (0, b)]) (st' := [(0, b)]) (by decide +kernel) rfl ?_
          refine zwW_ret (nx := 31) (a := 0) (b := 0) (by decide +kernel) rfl (Or.inl rfl) ?_
          exact ⟨Ih5, Rh5, by omega, by unfold yTalkA; (repeat' (first | rw [if_pos (by omega)] | rw [if_neg (by omega)])); all_goals (first | rfl | omega), by refine Eq.trans Zh5 ?_; unfold yTalk; (repeat' (first | rw [if_pos (by omega)] | rw [if_neg (by omega)])); all_goals (repeat' (first | rfl | omega | apply zs_cg))⟩
        · exfalso; omega
      · refine zwif_ne (q := 22) (nx := 20) (by decide +kernel) (fun c6 => ?_) (fun c6 => ?_)
        · exfalso; omega
        · refine zwW_p [(0, -1, 0)] (q := 21) (ls' := [(2, 37), (0, a), (0, b)]) (st' := [(0, -1)]) (by decide +kernel) rfl ?_
          refine zwW_ret (nx := 22) (a := 0) (b := 0) (by decide +kernel) rfl (Or.inl rfl) ?_
          exact ⟨I, R, by omega, by unfold yTalkA; (repeat' (first | rw [if_pos (by omega)] | rw [if_neg (by omega)])); all_goals (first | rfl | omega), by refine Eq.trans (rfl : yM h = yM h) ?_; unfold yTalk; (repeat' (first | rw [if_pos (by omega)] | rw [if_neg (by omega)])); all_goals (repeat' (first | rfl | omega | apply zs_cg))⟩
  · refine zwif_eq (q := 20) (nx := 8) (by decide +kernel) (fun c7 => ?_) (fun c7 => ?_)
    · refine zwW_p [(0, -1, 0)] (q := 21) (ls' := [(2, 37), (0, a), (0, b)]) (st' := [(0, -1)]) (by decide +kernel) rfl ?_
      refine zwW_ret (nx := 22) (a := 0) (b := 0) (by decide +kernel) rfl (Or.inl rfl) ?_
      exact ⟨I, R, by omega, by unfold yTalkA; (repeat' (first | rw [if_pos (by omega)] | rw [if_neg (by omega)])); all_goals (first | rfl | omega), by refine Eq.trans (rfl : yM h = yM h) ?_; unfold yTalk; (repeat' (first | rw [if_pos (by omega)] | rw [if_neg (by omega)])); all_goals (repeat' (first | rfl | omega | apply zs_cg))⟩
    · exfalso; omega
-- WheelLandModel.gift(III)I
theorem m70_z {sc : List Int} (h : Hp) (I : zI h) (a b c : Int) : zwC sc 3 70 [(2, 37), (0, a), (0, b), (0, c)] h (zwRt 0 (fun x g => zI g ∧ zMR ms70 h g ∧ (-2147483648 ≤ x ∧ x ≤ 2147483647) ∧ (x = yGiftA (yM h) a b c) ∧ (yM g = yGift (yM h) a b c))) := by
  refine zwC_of (D := 2) 4 (by decide +kernel) rfl (ls := [(2, 37), (0, a), (0, b), (0, c)]) rfl ?_
  have R : zMR ms70 h h := zMR.rf _ _
  have u0 : yM h 37 0 = fld h 37 0 := rfl
  have u1 : yM h 37 1 = fld h 37 1 := rfl
  have u2 : yM h 37 2 = fld h 37 2 := rfl
  have u96 : yM h 37 96 = fld h 37 96 := rfl
  refine zwW_p [(1, 1, 0), (7, 0, 0), (0, 1, 1), (0, 99, 1)] (q := 6) (ls' := [(2, 37), (0, a), (0, b), (0, c)]) (st' := [(1, 99), (1, 1), (1, a)]) (by decide +kernel) rfl ?_
  refine zwW_cs (k' := 101) (n := 3) (nx := 9) (as := [(1, a), (1, 1), (1, 99)]) (st' := []) (by decide +kernel) rfl (m101 h a 1 99) rfl ?_
  rintro x _ ⟨rfl, ⟨rfl, c1⟩ | ⟨rfl, c1⟩⟩
  · refine zwif_eq (q := 41) (nx := 12) (by decide +kernel) (fun c2 => ?_) (fun c2 => ?_)
    · exfalso; omega
    · refine zwW_p [(1, 0, 2), (1, 2, 0)] (q := 14) (ls' := [(2, 37), (0, a), (0, b), (0, c)]) (st' := [(0, b), (2, 37)]) (by decide +kernel) rfl ?_
      refine zwW_cm I (op := 60) (k' := 111) (n := 1) (kd := 13) (m := 97) (nx := 17) (r := 37) (tl := [(0, b)]) (st' := []) (by decide +kernel) rfl (by decide +kernel) rfl (m111 h I b) ?_
      rintro x _ ⟨rfl, ⟨rfl, c3⟩ | ⟨rfl, c3⟩⟩
      · refine zwif_eq (q := 41) (nx := 20) (by decide +kernel) (fun c4 => ?_) (fun c4 => ?_)
        · exfalso; omega
        · refine zwW_p [(1, 3, 0), (7, 0, 0), (0, 0, 1), (0, 2, 1)] (q := 26) (ls' := [(2, 37), (0, a), (0, b), (0, c)]) (st' := [(1, 2), (1, 0), (1, c)]) (by decide +kernel) rfl ?_
          refine zwW_cs (k' := 101) (n := 3) (nx := 29) (as := [(1, c), (1, 0), (1, 2)]) (st' := []) (by decide +kernel) rfl (m101 h c 0 2) rfl ?_
          rintro x _ ⟨rfl, ⟨rfl, c5⟩ | ⟨rfl, c5⟩⟩
          · refine zwif_eq (q := 41) (nx := 32) (by decide +kernel) (fun c6 => ?_) (fun c6 => ?_)
            · exfalso; omega
            · refine zwW_p [(1, 0, 2)] (q := 33) (ls' := [(2, 37), (0, a), (0, b), (0, c)]) (st' := [(2, 37)]) (by decide +kernel) rfl ?_
              refine zwW_gs I (kd := 13) (bn := 96) (n := 97) (t := 0) (lo := 0) (hi := 8) (nx := 36) (by decide +kernel) ?_
              intro v7 ev7 lv7 uv7
              have sv7 : v7 = (yM h) 37 96 := Eq.trans ev7 (Eq.trans (Eq.symm (yM_s (h := h) (i := 96) rfl)) (Eq.trans (congrFun (congrFun (rfl : yM h = yM h) 37) 96) rfl))
              refine zwW_p [(0, 8, 0)] (q := 38) (ls' := [(2, 37), (0, a), (0, b), (0, c)]) (st' := [(0, 8), (0, v7)]) (by decide +kernel) rfl ?_
              refine zwic_ne (q := 43) (nx := 41) (by decide +kernel) (fun c8 => ?_) (fun c8 => ?_)
              · refine zwW_p [(1, 0, 2)] (q := 44) (ls' := [(2, 37), (0, a), (0, b), (0, c)]) (st' := [(2, 37)]) (by decide +kernel) rfl ?_
                refine zwW_gc I (kd := 13) (bn := 93) (n := 97) (c := 363) (nx := 47) (by decide +kernel) ?_
                refine zwW_p [(1, 0, 2)] (q := 48) (ls' := [(2, 37), (0, a), (0, b), (0, c)]) (st' := [(2, 37), (2, 363)]) (by decide +kernel) rfl ?_
                refine zwW_gs I (kd := 13) (bn := 96) (n := 97) (t := 0) (lo := 0) (hi := 8) (nx := 51) (by decide +kernel) ?_
                intro v9 ev9 lv9 uv9
                have sv9 : v9 = (yM h) 37 96 := Eq.trans ev9 (Eq.trans (Eq.symm (yM_s (h := h) (i := 96) rfl)) (Eq.trans (congrFun (congrFun (rfl : yM h = yM h) 37) 96) rfl))
                refine zwW_p [(1, 1, 0)] (q := 52) (ls' := [(2, 37), (0, a), (0, b), (0, c)]) (st' := [(0, a), (0, v9), (2, 363)]) (by decide +kernel) rfl ?_
                refine zwW_as I (a1 := 363) (a2 := 363) (n := 8) (lo := 0) (hi := 99) (nx := 53) (by decide +kernel) ⟨by decide, by decide⟩ ⟨by omega, by omega⟩ ⟨by omega, by omega⟩ ?_
                intro h10 eh10 Ih10
                have th10_37_96 : fld h10 37 96 = fld h 37 96 := by rw [eh10]; exact fld_wr (by omega)
                have Zh10 : yM h10 = (zs (yM h) 363 (((yM h) 37 96).toNat) a) := by rw [yM_w (a := 363) (n := 8) (i := v9.toNat) (kd := 20) rfl (I.s (a1 := 363) (a2 := 363) (by decide +kernel) (by decide) (by decide)) (by omega) eh10, sv9]
                have Rh10 : zMR ms70 h h10 := R.w (a1 := 363) (a2 := 363) (j1 := 0) (j2 := 8) (by decide +kernel) ⟨by decide, by decide⟩ ⟨by omega, by omega⟩ eh10
                refine zwW_p [(1, 0, 2)] (q := 54) (ls' := [(2, 37), (0, a), (0, b), (0, c)]) (st' := [(2, 37)]) (by decide +kernel) rfl ?_
                refine zwW_gc Ih10 (kd := 13) (bn := 94) (n := 97) (c := 364) (nx := 57) (by decide +kernel) ?_
                refine zwW_p [(1, 0, 2)] (q := 58) (ls' := [(2, 37), (0, a), (0, b), (0, c)]) (st' := [(2, 37), (2, 364)]) (by decide +kernel) rfl ?_
                refine zwW_gs Ih10 (kd := 13) (bn := 96) (n := 97) (t := 0) (lo := 0) (hi := 8) (nx := 61) (by decide +kernel) ?_
                intro v11 ev11 lv11 uv11
                have sv11 : v11 = (yM h) 37 96 := Eq.trans ev11 (Eq.trans (Eq.symm (yM_s (h := h10) (i := 96) rfl)) (Eq.trans (congrFun (congrFun Zh10 37) 96) (Eq.trans (zs_na (by decide) : (zs (yM h) 363 (((yM h) 37 96).toNat) a) 37 96 = (yM h) 37 96) rfl)))
                refine zwW_p [(1, 2, 0)] (q := 62) (ls' := [(2, 37), (0, a), (0, b), (0, c)]) (st' := [(0, b), (0, v11), (2, 364)]) (by decide +kernel) rfl ?_
                refine zwW_as Ih10 (a1 := 364) (a2 := 364) (n := 8) (lo := 0) (hi := 19) (nx := 63) (by decide +kernel) ⟨by decide, by decide⟩ ⟨by omega, by omega⟩ ⟨by omega, by omega⟩ ?_
                intro h12 eh12 Ih12
                have th12_37_96 : fld h12 37 96 = fld h10 37 96 := by rw [eh12]; exact fld_wr (by omega)
                have Zh12 : yM h12 = (zs (zs (yM h) 363 (((yM h) 37 96).toNat) a) 364 (((yM h) 37 96).toNat) b) := by rw [yM_w (a := 364) (n := 8) (i := v11.toNat) (kd := 20) rfl (Ih10.s (a1 := 364) (a2 := 364) (by decide +kernel) (by decide) (by decide)) (by omega) eh12, Zh10, sv11]
                have Rh12 : zMR ms70 h h12 := Rh10.w (a1 := 364) (a2 := 364) (j1 := 0) (j2 := 8) (by decide +kernel) ⟨by decide, by decide⟩ ⟨by omega, by omega⟩ eh12
                refine zwW_p [(1, 0, 2)] (q := 64) (ls' := [(2, 37), (0, a), (0, b), (0, c)]) (st' := [(2, 37)]) (by decide +kernel) rfl ?_
                refine zwW_gc Ih12 (kd := 13) (bn := 95) (n := 97) (c := 365) (nx := 67) (by decide +kernel) ?_
                refine zwW_p [(1, 0, 2)] (q := 68) (ls' := [(2, 37), (0, a), (0, b), (0, c)]) (st' := [(2, 37), (2, 365)]) (by decide +kernel) rfl ?_
                refine zwW_gs Ih12 (kd := 13) (bn := 96) (n := 97) (t := 0) (lo := 0) (hi := 8) (nx := 71) (by decide +kernel) ?_
                intro v13 ev13 lv13 uv13
                have sv13 : v13 = (yM h) 37 96 := Eq.trans ev13 (Eq.trans (Eq.symm (yM_s (h := h12) (i := 96) rfl)) (Eq.trans (congrFun (congrFun Zh12 37) 96) (Eq.trans (zs_na (by decide) : (zs (zs (yM h) 363 (((yM h) 37 96).toNat) a) 364 (((yM h) 37 96).toNat) b) 37 96 = (zs (yM h) 363 (((yM h) 37 96).toNat) a) 37 96) (Eq.trans (zs_na (by decide) : (zs (yM h) 363 (((yM h) 37 96).toNat) a) 37 96 = (yM h) 37 96) rfl))))
                refine zwW_p [(1, 3, 0)] (q := 72) (ls' := [(2, 37), (0, a), (0, b), (0, c)]) (st' := [(0, c), (0, v13), (2, 365)]) (by decide +kernel) rfl ?_
                refine zwW_as Ih12 (a1 := 365) (a2 := 365) (n := 8) (lo := 0) (hi := 2) (nx := 73) (by decide +kernel) ⟨by decide, by decide⟩ ⟨by omega, by omega⟩ ⟨by omega, by omega⟩ ?_
                intro h14 eh14 Ih14
                have th14_37_96 : fld h14 37 96 = fld h12 37 96 := by rw [eh14]; exact fld_wr (by omega)
                have Zh14 : yM h14 = (zs (zs (zs (yM h) 363 (((yM h) 37 96).toNat) a) 364 (((yM h) 37 96).toNat) b) 365 (((yM h) 37 96).toNat) c) := by rw [yM_w (a := 365) (n := 8) (i := v13.toNat) (kd := 20) rfl (Ih12.s (a1 := 365) (a2 := 365) (by decide +kernel) (by decide) (by decide)) (by omega) eh14, Zh12, sv13]
                have Rh14 : zMR ms70 h h14 := Rh12.w (a1 := 365) (a2 := 365) (j1 := 0) (j2 := 8) (by decide +kernel) ⟨by decide, by decide⟩ ⟨by omega, by omega⟩ eh14
                refine zwW_p [(1, 0, 2), (12, 0, 0)] (q := 75) (ls' := [(2, 37), (0, a), (0, b), (0, c)]) (st' := [(2, 37), (2, 37)]) (by decide +kernel) rfl ?_
                refine zwW_gs Ih14 (kd := 13) (bn := 96) (n := 97) (t := 0) (lo := 0) (hi := 8) (nx := 78) (by decide +kernel) ?_
                intro v15 ev15 lv15 uv15
                have sv15 : v15 = (yM h) 37 96 := Eq.trans ev15 (Eq.trans (Eq.symm (yM_s (h := h14) (i := 96) rfl)) (Eq.trans (congrFun (congrFun Zh14 37) 96) (Eq.trans (zs_na (by decide) : (zs (zs (zs (yM h) 363 (((yM h) 37 96).toNat) a) 364 (((yM h) 37 96).toNat) b) 365 (((yM h) 37 96).toNat) c) 37 96 = (zs (zs (yM h) 363 (((yM h) 37 96).toNat) a) 364 (((yM h) 37 96).toNat) b) 37 96) (Eq.trans (zs_na (by decide) : (zs (zs (yM h) 363 (((yM h) 37 96).toNat) a) 364 (((yM h) 37 96).toNat) b) 37 96 = (zs (yM h) 363 (((yM h) 37 96).toNat) a) 37 96) (Eq.trans (zs_na (by decide) : (zs (yM h) 363 (((yM h) 37 96).toNat) a) 37 96 = (yM h) 37 96) rfl)))))
                refine zwW_p [(0, 1, 0)] (q := 79) (ls' := [(2, 37), (0, a), (0, b), (0, c)]) (st' := [(0, 1), (0, v15), (2, 37)]) (by decide +kernel) rfl ?_
                refine zwW_add (nx := 80) (by decide +kernel) ⟨by omega, by omega⟩ ?_
                refine zwW_ps Ih14 (kd := 13) (bn := 96) (n := 97) (lo := 0) (hi := 8) (nx := 83) (by decide +kernel) ⟨by omega, by omega⟩ ?_
                intro h16 eh16 Ih16
                have th16_37_96 : fld h16 37 96 = (v15 + 1) := by rw [eh16]; exact fld_wr_eq (Ih14.s (a1 := 37) (a2 := 37) (k := 13) (n := 97) (by decide +kernel) (by decide) (by decide)) (by decide)
                have Zh16 : yM h16 = (zs (zs (zs (zs (yM h) 363 (((yM h) 37 96).toNat) a) 364 (((yM h) 37 96).toNat) b) 365 (((yM h) 37 96).toNat) c) 37 96 (((yM h) 37 96) + 1)) := by rw [yM_ws (i := 96) (kd := 13) (n := 97) rfl (Ih14.s (a1 := 37) (a2 := 37) (by decide +kernel) (by decide) (by decide)) (by decide) eh16, Zh14, sv15]
                have Rh16 : zMR ms70 h h16 := Rh14.w (a1 := 37) (a2 := 37) (j1 := 96) (j2 := 97) (by decide +kernel) ⟨by decide, by decide⟩ ⟨by decide, by decide⟩ eh16
                refine zwW_p [(1, 0, 2)] (q := 84) (ls' := [(2, 37), (0, a), (0, b), (0, c)]) (st' := [(2, 37)]) (by decide +kernel) rfl ?_
                refine zwW_gs Ih16 (kd := 13) (bn := 96) (n := 97) (t := 0) (lo := 0) (hi := 8) (nx := 87) (by decide +kernel) ?_
                intro v17 ev17 lv17 uv17
                have sv17 : v17 = (((yM h) 37 96) + 1) := Eq.trans ev17 (Eq.trans (Eq.symm (yM_s (h := h16) (i := 96) rfl)) (Eq.trans (congrFun (congrFun Zh16 37) 96) (zs_eq : (zs (zs (zs (zs (yM h) 363 (((yM h) 37 96).toNat) a) 364 (((yM h) 37 96).toNat) b) 365 (((yM h) 37 96).toNat) c) 37 96 (((yM h) 37 96) + 1)) 37 96 = (((yM h) 37 96) + 1))))
                refine zwW_p [(0, 1, 0)] (q := 88) (ls' := [(2, 37), (0, a), (0, b), (0, c)]) (st' := [(0, 1), (0, v17)]) (by decide +kernel) rfl ?_
                refine zwW_sub (nx := 89) (by decide +kernel) ⟨by omega, by omega⟩ ?_
                refine zwW_ret (nx := 90) (a := 0) (b := 0) (by decide +kernel) rfl (Or.inl rfl) ?_
                exact ⟨Ih16, Rh16, by omega, by unfold yGiftA; (repeat' (first | rw [if_pos (by omega)] | rw [if_neg (by omega)])); all_goals (first | rfl | omega), by refine Eq.trans Zh16 ?_; unfold yGift; (repeat' (first | rw [if_pos (by omega)] | rw [if_neg (by omega)])); all_goals (repeat' (first | rfl | omega | apply zs_cg))⟩
              · refine zwW_p [(0, -1, 0)] (q := 42) (ls' := [(2, 37), (0, a), (0, b), (0, c)]) (st' := [(0, -1)]) (by decide +kernel) rfl ?_
                refine zwW_ret (nx := 43) (a := 0) (b := 0) (by decide +kernel) rfl (Or.inl rfl) ?_
                exact ⟨I, R, by omega, by unfold yGiftA; (repeat' (first | rw [if_pos (by omega)] | rw [if_neg (by omega)])); all_goals (first | rfl | omega), by refine Eq.trans (rfl : yM h = yM h) ?_; unfold yGift; (repeat' (first | rw [if_pos (by omega)] | rw [if_neg (by omega)])); all_goals (repeat' (first | rfl | omega | apply zs_cg))⟩
          · refine zwif_eq (q := 41) (nx := 32) (by decide +kernel) (fun c18 => ?_) (fun c18 => ?_)
            · refine zwW_p [(0, -1, 0)] (q := 42) (ls' := [(2, 37), (0, a), (0, b), (0, c)]) (st' := [(0, -1)]) (by decide +kernel) rfl ?_
              refine zwW_ret (nx := 43) (a := 0) (b := 0) (by decide +kernel) rfl (Or.inl rfl) ?_
              exact ⟨I, R, by omega, by unfold yGiftA; (repeat' (first | rw [if_pos (by omega)] | rw [if_neg (by omega)])); all_goals (first | rfl | omega), by refine Eq.trans (rfl : yM h = yM h) ?_; unfold yGift; (repeat' (first | rw [if_pos (by omega)] | rw [if_neg (by omega)])); all_goals (repeat' (first | rfl | omega | apply zs_cg))⟩
            · exfalso; omega
      · refine zwif_eq (q := 41) (nx := 20) (by decide +kernel) (fun c19 => ?_) (fun c19 => ?_)
        · refine zwW_p [(0, -1, 0)] (q := 42) (ls' := [(2, 37), (0, a), (0, b), (0, c)]) (st' := [(0, -1)]) (by decide +kernel) rfl ?_
          refine zwW_ret (nx := 43) (a := 0) (b := 0) (by decide +kernel) rfl (Or.inl rfl) ?_
          exact ⟨I, R, by omega, by unfold yGiftA; (repeat' (first | rw [if_pos (by omega)] | rw [if_neg (by omega)])); all_goals (first | rfl | omega), by refine Eq.trans (rfl : yM h = yM h) ?_; unfold yGift; (repeat' (first | rw [if_pos (by omega)] | rw [if_neg (by omega)])); all_goals (repeat' (first | rfl | omega | apply zs_cg))⟩
        · exfalso; omega
  · refine zwif_eq (q := 41) (nx := 12) (by decide +kernel) (fun c20 => ?_) (fun c20 => ?_)
    · refine zwW_p [(0, -1, 0)] (q := 42) (ls' := [(2, 37), (0, a), (0, b), (0, c)]) (st' := [(0, -1)]) (by decide +kernel) rfl ?_
      refine zwW_ret (nx := 43) (a := 0) (b := 0) (by decide +kernel) rfl (Or.inl rfl) ?_
      exact ⟨I, R, by omega, by unfold yGiftA; (repeat' (first | rw [if_pos (by omega)] | rw [if_neg (by omega)])); all_goals (first | rfl | omega), by refine Eq.trans (rfl : yM h = yM h) ?_; unfold yGift; (repeat' (first | rw [if_pos (by omega)] | rw [if_neg (by omega)])); all_goals (repeat' (first | rfl | omega | apply zs_cg))⟩
    · exfalso; omega
-- WheelLandModel.forget()I
theorem m72_z {sc : List Int} (h : Hp) (I : zI h) : zwC sc 1 72 [(2, 37)] h (zwRt 0 (fun x g => zI g ∧ zMR ms72 h g ∧ (-2147483648 ≤ x ∧ x ≤ 2147483647) ∧ (x = yForgA (yM h)) ∧ (yM g = yForg (yM h)))) := by
  refine zwC_of (D := 0) 2 (by decide +kernel) rfl (ls := [(2, 37), (9, 0)]) rfl ?_
  have R : zMR ms72 h h := zMR.rf _ _
  have u96 : yM h 37 96 = fld h 37 96 := rfl
  refine zwW_p [(1, 0, 2)] (q := 1) (ls' := [(2, 37), (9, 0)]) (st' := [(2, 37)]) (by decide +kernel) rfl ?_
  refine zwW_gs I (kd := 13) (bn := 96) (n := 97) (t := 0) (lo := 0) (hi := 8) (nx := 4) (by decide +kernel) ?_
  intro v1 ev1 lv1 uv1
  have sv1 : v1 = (yM h) 37 96 := Eq.trans ev1 (Eq.trans (Eq.symm (yM_s (h := h) (i := 96) rfl)) (Eq.trans (congrFun (congrFun (rfl : yM h = yM h) 37) 96) rfl))
  refine zwW_p [(2, 1, 0), (1, 0, 2), (0, 0, 0)] (q := 7) (ls' := [(2, 37), (0, v1)]) (st' := [(0, 0), (2, 37)]) (by decide +kernel) rfl ?_
  refine zwW_ps I (kd := 13) (bn := 96) (n := 97) (lo := 0) (hi := 8) (nx := 10) (by decide +kernel) ⟨by decide, by decide⟩ ?_
  intro h2 eh2 Ih2
  have th2_37_96 : fld h2 37 96 = 0 := by rw [eh2]; exact fld_wr_eq (I.s (a1 := 37) (a2 := 37) (k := 13) (n := 97) (by decide +kernel) (by decide) (by decide)) (by decide)
  have Zh2 : yM h2 = (zs (yM h) 37 96 0) := by rw [yM_ws (i := 96) (kd := 13) (n := 97) rfl (I.s (a1 := 37) (a2 := 37) (by decide +kernel) (by decide) (by decide)) (by decide) eh2]
  have Rh2 : zMR ms72 h h2 := R.w (a1 := 37) (a2 := 37) (j1 := 96) (j2 := 97) (by decide +kernel) ⟨by decide, by decide⟩ ⟨by decide, by decide⟩ eh2
  refine zwW_p [(1, 1, 0)] (q := 11) (ls' := [(2, 37), (0, v1)]) (st' := [(0, v1)]) (by decide +kernel) rfl ?_
  refine zwW_ret (nx := 12) (a := 0) (b := 0) (by decide +kernel) rfl (Or.inl rfl) ?_
  exact ⟨Ih2, Rh2, by omega, by unfold yForgA; (repeat' (first | rw [if_pos (by omega)] | rw [if_neg (by omega)])); all_goals (first | rfl | omega), by refine Eq.trans Zh2 ?_; unfold yForg; (repeat' (first | rw [if_pos (by omega)] | rw [if_neg (by omega)])); all_goals (repeat' (first | rfl | omega | apply zs_cg))⟩
-- WheelLandModel.lot(II)I
theorem m22_z {sc : List Int} (h : Hp) (I : zI h) (a b : Int) : zwC sc 3 22 [(2, 37), (0, a), (0, b)] h (zwRt 0 (fun x g => h = g ∧ (-2147483648 ≤ x ∧ x ≤ 2147483647) ∧ (x = yLotA (yM h) a b))) := by
  refine zwC_of (D := 2) 3 (by decide +kernel) rfl (ls := [(2, 37), (0, a), (0, b)]) rfl ?_
  have u0 : yM h 37 0 = fld h 37 0 := rfl
  have u1 : yM h 37 1 = fld h 37 1 := rfl
  have u2 : yM h 37 2 = fld h 37 2 := rfl
  have u64 : yM h 37 64 = fld h 37 64 := rfl
  have u78 : yM h 37 78 = fld h 37 78 := rfl
  refine zwW_p [(1, 0, 2), (1, 1, 0)] (q := 2) (ls' := [(2, 37), (0, a), (0, b)]) (st' := [(0, a), (2, 37)]) (by decide +kernel) rfl ?_
  refine zwW_cm I (op := 60) (k' := 116) (n := 1) (kd := 13) (m := 97) (nx := 5) (r := 37) (tl := [(0, a)]) (st' := []) (by decide +kernel) rfl (by decide +kernel) rfl (m116 h I a) ?_
  rintro x _ ⟨rfl, ⟨rfl, c1⟩ | ⟨rfl, c1⟩⟩
  · refine zwif_ne (q := 10) (nx := 8) (by decide +kernel) (fun c2 => ?_) (fun c2 => ?_)
    · refine zwW_p [(1, 2, 0)] (q := 11) (ls' := [(2, 37), (0, a), (0, b)]) (st' := [(0, b)]) (by decide +kernel) rfl ?_
      refine zwW_sw (d := 90) (os := [0, 48, 1, 55, 2, 62, 3, 69, 4, 76, 5, 83]) (by decide +kernel) ?_
      refine ⟨fun c3 => ?_, fun c3 => ?_⟩
      · show zwW _ _ _ 48 _ _ _ _
        refine zwW_p [(1, 0, 2)] (q := 49) (ls' := [(2, 37), (0, a), (0, b)]) (st' := [(2, 37)]) (by decide +kernel) rfl ?_
        refine zwW_gc I (kd := 13) (bn := 58) (n := 97) (c := 170) (nx := 52) (by decide +kernel) ?_
        refine zwW_p [(1, 1, 0)] (q := 53) (ls' := [(2, 37), (0, a), (0, b)]) (st' := [(0, a), (2, 170)]) (by decide +kernel) rfl ?_
        refine zwW_al I (a1 := 170) (a2 := 170) (kd := 20) (n := 300) (t := 0) (lo := 0) (hi := 19) (nx := 54) (by decide +kernel) ⟨by decide, by decide⟩ ⟨by omega, by omega⟩ ?_
        intro v4 ev4 lv4 uv4
        have sv4 : v4 = (yM h) 170 a.toNat := Eq.trans ev4 (Eq.trans (Eq.symm (yM_p (h := h) (a := 170) (n := 300) (i := a.toNat) rfl (by omega))) (Eq.trans (congrFun (congrFun (rfl : yM h = yM h) 170) a.toNat) rfl))
        refine zwW_ret (nx := 55) (a := 0) (b := 0) (by decide +kernel) rfl (Or.inl rfl) ?_
        exact ⟨rfl, by omega, by unfold yLotA; (repeat' (first | rw [if_pos (by omega)] | rw [if_neg (by omega)])); all_goals (first | rfl | omega)⟩
      refine ⟨fun c5 => ?_, fun c5 => ?_⟩
      · show zwW _ _ _ 55 _ _ _ _
        refine zwW_p [(1, 0, 2)] (q := 56) (ls' := [(2, 37), (0, a), (0, b)]) (st' := [(2, 37)]) (by decide +kernel) rfl ?_
        refine zwW_gc I (kd := 13) (bn := 59) (n := 97) (c := 171) (nx := 59) (by decide +kernel) ?_
        refine zwW_p [(1, 1, 0)] (q := 60) (ls' := [(2, 37), (0, a), (0, b)]) (st' := [(0, a), (2, 171)]) (by decide +kernel) rfl ?_
        refine zwW_al I (a1 := 171) (a2 := 171) (kd := 20) (n := 300) (t := 0) (lo := -2147483648) (hi := 2147483647) (nx := 61) (by decide +kernel) ⟨by decide, by decide⟩ ⟨by omega, by omega⟩ ?_
        intro v6 ev6 lv6 uv6
        have sv6 : v6 = (yM h) 171 a.toNat := Eq.trans ev6 (Eq.trans (Eq.symm (yM_p (h := h) (a := 171) (n := 300) (i := a.toNat) rfl (by omega))) (Eq.trans (congrFun (congrFun (rfl : yM h = yM h) 171) a.toNat) rfl))
        refine zwW_ret (nx := 62) (a := 0) (b := 0) (by decide +kernel) rfl (Or.inl rfl) ?_
        exact ⟨rfl, by omega, by unfold yLotA; (repeat' (first | rw [if_pos (by omega)] | rw [if_neg (by omega)])); all_goals (first | rfl | omega)⟩
      refine ⟨fun c7 => ?_, fun c7 => ?_⟩
      · show zwW _ _ _ 62 _ _ _ _
        refine zwW_p [(1, 0, 2)] (q := 63) (ls' := [(2, 37), (0, a), (0, b)]) (st' := [(2, 37)]) (by decide +kernel) rfl ?_
        refine zwW_gc I (kd := 13) (bn := 60) (n := 97) (c := 172) (nx := 66) (by decide +kernel) ?_
        refine zwW_p [(1, 1, 0)] (q := 67) (ls' := [(2, 37), (0, a), (0, b)]) (st' := [(0, a), (2, 172)]) (by decide +kernel) rfl ?_
        refine zwW_al I (a1 := 172) (a2 := 172) (kd := 20) (n := 300) (t := 0) (lo := -2147483648) (hi := 2147483647) (nx := 68) (by decide +kernel) ⟨by decide, by decide⟩ ⟨by omega, by omega⟩ ?_
        intro v8 ev8 lv8 uv8
        have sv8 : v8 = (yM h) 172 a.toNat := Eq.trans ev8 (Eq.trans (Eq.symm (yM_p (h := h) (a := 172) (n := 300) (i := a.toNat) rfl (by omega))) (Eq.trans (congrFun (congrFun (rfl : yM h = yM h) 172) a.toNat) rfl))
        refine zwW_ret (nx := 69) (a := 0) (b := 0) (by decide +kernel) rfl (Or.inl rfl) ?_
        exact ⟨rfl, by omega, by unfold yLotA; (repeat' (first | rw [if_pos (by omega)] | rw [if_neg (by omega)])); all_goals (first | rfl | omega)⟩
      refine ⟨fun c9 => ?_, fun c9 => ?_⟩
      · show zwW _ _ _ 69 _ _ _ _
        refine zwW_p [(1, 0, 2)] (q := 70) (ls' := [(2, 37), (0, a), (0, b)]) (st' := [(2, 37)]) (by decide +kernel) rfl ?_
        refine zwW_gc I (kd := 13) (bn := 61) (n := 97) (c := 173) (nx := 73) (by decide +kernel) ?_
        refine zwW_p [(1, 1, 0)] (q := 74) (ls' := [(2, 37), (0, a), (0, b)]) (st' := [(0, a), (2, 173)]) (by decide +kernel) rfl ?_
        refine zwW_al I (a1 := 173) (a2 := 173) (kd := 20) (n := 300) (t := 0) (lo := -2147483648) (hi := 2147483647) (nx := 75) (by decide +kernel) ⟨by decide, by decide⟩ ⟨by omega, by omega⟩ ?_
        intro v10 ev10 lv10 uv10
        have sv10 : v10 = (yM h) 173 a.toNat := Eq.trans ev10 (Eq.trans (Eq.symm (yM_p (h := h) (a := 173) (n := 300) (i := a.toNat) rfl (by omega))) (Eq.trans (congrFun (congrFun (rfl : yM h = yM h) 173) a.toNat) rfl))
        refine zwW_ret (nx := 76) (a := 0) (b := 0) (by decide +kernel) rfl (Or.inl rfl) ?_
        exact ⟨rfl, by omega, by unfold yLotA; (repeat' (first | rw [if_pos (by omega)] | rw [if_neg (by omega)])); all_goals (first | rfl | omega)⟩
      refine ⟨fun c11 => ?_, fun c11 => ?_⟩
      · show zwW _ _ _ 76 _ _ _ _
        refine zwW_p [(1, 0, 2)] (q := 77) (ls' := [(2, 37), (0, a), (0, b)]) (st' := [(2, 37)]) (by decide +kernel) rfl ?_
        refine zwW_gc I (kd := 13) (bn := 62) (n := 97) (c := 174) (nx := 80) (by decide +kernel) ?_
        refine zwW_p [(1, 1, 0)] (q := 81) (ls' := [(2, 37), (0, a), (0, b)]) (st' := [(0, a), (2, 174)]) (by decide +kernel) rfl ?_
        refine zwW_al I (a1 := 174) (a2 := 174) (kd := 20) (n := 300) (t := 0) (lo := -2147483648) (hi := 2147483647) (nx := 82) (by decide +kernel) ⟨by decide, by decide⟩ ⟨by omega, by omega⟩ ?_
        intro v12 ev12 lv12 uv12
        have sv12 : v12 = (yM h) 174 a.toNat := Eq.trans ev12 (Eq.trans (Eq.symm (yM_p (h := h) (a := 174) (n := 300) (i := a.toNat) rfl (by omega))) (Eq.trans (congrFun (congrFun (rfl : yM h = yM h) 174) a.toNat) rfl))
        refine zwW_ret (nx := 83) (a := 0) (b := 0) (by decide +kernel) rfl (Or.inl rfl) ?_
        exact ⟨rfl, by omega, by unfold yLotA; (repeat' (first | rw [if_pos (by omega)] | rw [if_neg (by omega)])); all_goals (first | rfl | omega)⟩
      refine ⟨fun c13 => ?_, fun c13 => ?_⟩
      · show zwW _ _ _ 83 _ _ _ _
        refine zwW_p [(1, 0, 2)] (q := 84) (ls' := [(2, 37), (0, a), (0, b)]) (st' := [(2, 37)]) (by decide +kernel) rfl ?_
        refine zwW_gc I (kd := 13) (bn := 63) (n := 97) (c := 175) (nx := 87) (by decide +kernel) ?_
        refine zwW_p [(1, 1, 0)] (q := 88) (ls' := [(2, 37), (0, a), (0, b)]) (st' := [(0, a), (2, 175)]) (by decide +kernel) rfl ?_
        refine zwW_al I (a1 := 175) (a2 := 175) (kd := 20) (n := 300) (t := 0) (lo := -2147483648) (hi := 2147483647) (nx := 89) (by decide +kernel) ⟨by decide, by decide⟩ ⟨by omega, by omega⟩ ?_
        intro v14 ev14 lv14 uv14
        have sv14 : v14 = (yM h) 175 a.toNat := Eq.trans ev14 (Eq.trans (Eq.symm (yM_p (h := h) (a := 175) (n := 300) (i := a.toNat) rfl (by omega))) (Eq.trans (congrFun (congrFun (rfl : yM h = yM h) 175) a.toNat) rfl))
        refine zwW_ret (nx := 90) (a := 0) (b := 0) (by decide +kernel) rfl (Or.inl rfl) ?_
        exact ⟨rfl, by omega, by unfold yLotA; (repeat' (first | rw [if_pos (by omega)] | rw [if_neg (by omega)])); all_goals (first | rfl | omega)⟩
      show zwW _ _ _ 90 _ _ _ _
      refine zwW_p [(0, -1, 0)] (q := 91) (ls' := [(2, 37), (0, a), (0, b)]) (st' := [(0, -1)]) (by decide +kernel) rfl ?_
      refine zwW_ret (nx := 92) (a := 0) (b := 0) (by decide +kernel) rfl (Or.inl rfl) ?_
      exact ⟨rfl, by omega, by unfold yLotA; (repeat' (first | rw [if_pos (by omega)] | rw [if_neg (by omega)])); all_goals (first | rfl | omega)⟩
    · exfalso; omega
  · refine zwif_ne (q := 10) (nx := 8) (by decide +kernel) (fun c15 => ?_) (fun c15 => ?_)
    · exfalso; omega
    · refine zwW_p [(0, -1, 0)] (q := 9) (ls' := [(2, 37), (0, a), (0, b)]) (st' := [(0, -1)]) (by decide +kernel) rfl ?_
      refine zwW_ret (nx := 10) (a := 0) (b := 0) (by decide +kernel) rfl (Or.inl rfl) ?_
      exact ⟨rfl, by omega, by unfold yLotA; (repeat' (first | rw [if_pos (by omega)] | rw [if_neg (by omega)])); all_goals (first | rfl | omega)⟩
-- WheelLandModel.cloth(II)I
theorem m44_z {sc : List Int} (h : Hp) (I : zI h) (a b : Int) : zwC sc 3 44 [(2, 37), (0, a), (0, b)] h (zwRt 0 (fun x g => h = g ∧ (-2147483648 ≤ x ∧ x ≤ 2147483647) ∧ (x = yClotA (yM h) a b))) := by
  refine zwC_of (D := 2) 3 (by decide +kernel) rfl (ls := [(2, 37), (0, a), (0, b)]) rfl ?_
  have u0 : yM h 37 0 = fld h 37 0 := rfl
  have u1 : yM h 37 1 = fld h 37 1 := rfl
  have u2 : yM h 37 2 = fld h 37 2 := rfl
  have u64 : yM h 37 64 = fld h 37 64 := rfl
  have u78 : yM h 37 78 = fld h 37 78 := rfl
  refine zwW_p [(1, 0, 2), (1, 1, 0)] (q := 2) (ls' := [(2, 37), (0, a), (0, b)]) (st' := [(0, a), (2, 37)]) (by decide +kernel) rfl ?_
  refine zwW_cm I (op := 60) (k' := 139) (n := 1) (kd := 13) (m := 97) (nx := 5) (r := 37) (tl := [(0, a)]) (st' := []) (by decide +kernel) rfl (by decide +kernel) rfl (m139 h I a) ?_
  rintro x _ ⟨rfl, ⟨rfl, c1⟩ | ⟨rfl, c1⟩⟩
  · refine zwif_ne (q := 10) (nx := 8) (by decide +kernel) (fun c2 => ?_) (fun c2 => ?_)
    · refine zwW_p [(1, 2, 0)] (q := 11) (ls' := [(2, 37), (0, a), (0, b)]) (st' := [(0, b)]) (by decide +kernel) rfl ?_
      refine zwW_sw (d := 130) (os := [0, 56, 1, 63, 2, 70, 3, 77, 4, 84, 5, 99, 6, 111, 7, 123]) (by decide +kernel) ?_
      refine ⟨fun c3 => ?_, fun c3 => ?_⟩
      · show zwW _ _ _ 56 _ _ _ _
        refine zwW_p [(1, 0, 2)] (q := 57) (ls' := [(2, 37), (0, a), (0, b)]) (st' := [(2, 37)]) (by decide +kernel) rfl ?_
        refine zwW_gc I (kd := 13) (bn := 72) (n := 97) (c := 180) (nx := 60) (by decide +kernel) ?_
        refine zwW_p [(1, 1, 0)] (q := 61) (ls' := [(2, 37), (0, a), (0, b)]) (st' := [(0, a), (2, 180)]) (by decide +kernel) rfl ?_
        refine zwW_al I (a1 := 180) (a2 := 180) (kd := 20) (n := 200) (t := 0) (lo := 0) (hi := 299) (nx := 62) (by decide +kernel) ⟨by decide, by decide⟩ ⟨by omega, by omega⟩ ?_
        intro v4 ev4 lv4 uv4
        have sv4 : v4 = (yM h) 180 a.toNat := Eq.trans ev4 (Eq.trans (Eq.symm (yM_p (h := h) (a := 180) (n := 200) (i := a.toNat) rfl (by omega))) (Eq.trans (congrFun (congrFun (rfl : yM h = yM h) 180) a.toNat) rfl))
        refine zwW_ret (nx := 63) (a := 0) (b := 0) (by decide +kernel) rfl (Or.inl rfl) ?_
        exact ⟨rfl, by omega, by unfold yClotA; (repeat' (first | rw [if_pos (by omega)] | rw [if_neg (by omega)])); all_goals (first | rfl | omega)⟩
      refine ⟨fun c5 => ?_, fun c5 => ?_⟩
      · show zwW _ _ _ 63 _ _ _ _
        refine zwW_p [(1, 0, 2)] (q := 64) (ls' := [(2, 37), (0, a), (0, b)]) (st' := [(2, 37)]) (by decide +kernel) rfl ?_
        refine zwW_gc I (kd := 13) (bn := 73) (n := 97) (c := 181) (nx := 67) (by decide +kernel) ?_
        refine zwW_p [(1, 1, 0)] (q := 68) (ls' := [(2, 37), (0, a), (0, b)]) (st' := [(0, a), (2, 181)]) (by decide +kernel) rfl ?_
        refine zwW_al I (a1 := 181) (a2 := 181) (kd := 20) (n := 200) (t := 0) (lo := 0) (hi := 19) (nx := 69) (by decide +kernel) ⟨by decide, by decide⟩ ⟨by omega, by omega⟩ ?_
        intro v6 ev6 lv6 uv6
        have sv6 : v6 = (yM h) 181 a.toNat := Eq.trans ev6 (Eq.trans (Eq.symm (yM_p (h := h) (a := 181) (n := 200) (i := a.toNat) rfl (by omega))) (Eq.trans (congrFun (congrFun (rfl : yM h = yM h) 181) a.toNat) rfl))
        refine zwW_ret (nx := 70) (a := 0) (b := 0) (by decide +kernel) rfl (Or.inl rfl) ?_
        exact ⟨rfl, by omega, by unfold yClotA; (repeat' (first | rw [if_pos (by omega)] | rw [if_neg (by omega)])); all_goals (first | rfl | omega)⟩
      refine ⟨fun c7 => ?_, fun c7 => ?_⟩
      · show zwW _ _ _ 70 _ _ _ _
        refine zwW_p [(1, 0, 2)] (q := 71) (ls' := [(2, 37), (0, a), (0, b)]) (st' := [(2, 37)]) (by decide +kernel) rfl ?_
        refine zwW_gc I (kd := 13) (bn := 74) (n := 97) (c := 182) (nx := 74) (by decide +kernel) ?_
        refine zwW_p [(1, 1, 0)] (q := 75) (ls' := [(2, 37), (0, a), (0, b)]) (st' := [(0, a), (2, 182)]) (by decide +kernel) rfl ?_
        refine zwW_al I (a1 := 182) (a2 := 182) (kd := 20) (n := 200) (t := 0) (lo := -2147483648) (hi := 2147483647) (nx := 76) (by decide +kernel) ⟨by decide, by decide⟩ ⟨by omega, by omega⟩ ?_
        intro v8 ev8 lv8 uv8
        have sv8 : v8 = (yM h) 182 a.toNat := Eq.trans ev8 (Eq.trans (Eq.symm (yM_p (h := h) (a := 182) (n := 200) (i := a.toNat) rfl (by omega))) (Eq.trans (congrFun (congrFun (rfl : yM h = yM h) 182) a.toNat) rfl))
        refine zwW_ret (nx := 77) (a := 0) (b := 0) (by decide +kernel) rfl (Or.inl rfl) ?_
        exact ⟨rfl, by omega, by unfold yClotA; (repeat' (first | rw [if_pos (by omega)] | rw [if_neg (by omega)])); all_goals (first | rfl | omega)⟩
      refine ⟨fun c9 => ?_, fun c9 => ?_⟩
      · show zwW _ _ _ 77 _ _ _ _
        refine zwW_p [(1, 0, 2)] (q := 78) (ls' := [(2, 37), (0, a), (0, b)]) (st' := [(2, 37)]) (by decide +kernel) rfl ?_
        refine zwW_gc I (kd := 13) (bn := 75) (n := 97) (c := 183) (nx := 81) (by decide +kernel) ?_
        refine zwW_p [(1, 1, 0)] (q := 82) (ls' := [(2, 37), (0, a), (0, b)]) (st' := [(0, a), (2, 183)]) (by decide +kernel) rfl ?_
        refine zwW_al I (a1 := 183) (a2 := 183) (kd := 20) (n := 200) (t := 0) (lo := -2147483648) (hi := 2147483647) (nx := 83) (by decide +kernel) ⟨by decide, by decide⟩ ⟨by omega, by omega⟩ ?_
        intro v10 ev10 lv10 uv10
        have sv10 : v10 = (yM h) 183 a.toNat := Eq.trans ev10 (Eq.trans (Eq.symm (yM_p (h := h) (a := 183) (n := 200) (i := a.toNat) rfl (by omega))) (Eq.trans (congrFun (congrFun (rfl : yM h = yM h) 183) a.toNat) rfl))
        refine zwW_ret (nx := 84) (a := 0) (b := 0) (by decide +kernel) rfl (Or.inl rfl) ?_
        exact ⟨rfl, by omega, by unfold yClotA; (repeat' (first | rw [if_pos (by omega)] | rw [if_neg (by omega)])); all_goals (first | rfl | omega)⟩
      refine ⟨fun c11 => ?_, fun c11 => ?_⟩
      · show zwW _ _ _ 84 _ _ _ _
        refine zwW_p [(1, 0, 2)] (q := 85) (ls' := [(2, 37), (0, a), (0, b)]) (st' := [(2, 37)]) (by decide +kernel) rfl ?_
        refine zwW_gc I (kd := 13) (bn := 77) (n := 97) (c := 185) (nx := 88) (by decide +kernel) ?_
        refine zwW_p [(1, 1, 0)] (q := 89) (ls' := [(2, 37), (0, a), (0, b)]) (st' := [(0, a), (2, 185)]) (by decide +kernel) rfl ?_
        refine zwW_al I (a1 := 185) (a2 := 185) (kd := 22) (n := 200) (t := 0) (lo := 0) (hi := 1) (nx := 90) (by decide +kernel) ⟨by decide, by decide⟩ ⟨by omega, by omega⟩ ?_
        intro v12 ev12 lv12 uv12
        have sv12 : v12 = (yM h) 185 a.toNat := Eq.trans ev12 (Eq.trans (Eq.symm (yM_p (h := h) (a := 185) (n := 200) (i := a.toNat) rfl (by omega))) (Eq.trans (congrFun (congrFun (rfl : yM h = yM h) 185) a.toNat) rfl))
        refine zwif_eq (q := 97) (nx := 93) (by decide +kernel) (fun c13 => ?_) (fun c13 => ?_)
        · refine zwW_p [(0, 0, 0)] (q := 98) (ls' := [(2, 37), (0, a), (0, b)]) (st' := [(0, 0)]) (by decide +kernel) rfl ?_
          refine zwW_ret (nx := 99) (a := 0) (b := 0) (by decide +kernel) rfl (Or.inl rfl) ?_
          exact ⟨rfl, by omega, by unfold yClotA; (repeat' (first | rw [if_pos (by omega)] | rw [if_neg (by omega)])); all_goals (first | rfl | omega)⟩
        · refine zwW_p [(0, 1, 0), (24, 98, 0)] (q := 98) (ls' := [(2, 37), (0, a), (0, b)]) (st' := [(0, 1)]) (by decide +kernel) rfl ?_
          refine zwW_ret (nx := 99) (a := 0) (b := 0) (by decide +kernel) rfl (Or.inl rfl) ?_
          exact ⟨rfl, by omega, by unfold yClotA; (repeat' (first | rw [if_pos (by omega)] | rw [if_neg (by omega)])); all_goals (first | rfl | omega)⟩
      refine ⟨fun c14 => ?_, fun c14 => ?_⟩
      · show zwW _ _ _ 99 _ _ _ _
        refine zwW_p [(1, 0, 2)] (q := 100) (ls' := [(2, 37), (0, a), (0, b)]) (st' := [(2, 37)]) (by decide +kernel) rfl ?_
        refine zwW_gc I (kd := 13) (bn := 58) (n := 97) (c := 170) (nx := 103) (by decide +kernel) ?_
        refine zwW_p [(1, 0, 2)] (q := 104) (ls' := [(2, 37), (0, a), (0, b)]) (st' := [(2, 37), (2, 170)]) (by decide +kernel) rfl ?_
        refine zwW_gc I (kd := 13) (bn := 72) (n := 97) (c := 180) (nx := 107) (by decide +kernel) ?_
        refine zwW_p [(1, 1, 0)] (q := 108) (ls' := [(2, 37), (0, a), (0, b)]) (st' := [(0, a), (2, 180), (2, 170)]) (by decide +kernel) rfl ?_
        refine zwW_al I (a1 := 180) (a2 := 180) (kd := 20) (n := 200) (t := 0) (lo := 0) (hi := 299) (nx := 109) (by decide +kernel) ⟨by decide, by decide⟩ ⟨by omega, by omega⟩ ?_
        intro v15 ev15 lv15 uv15
        have sv15 : v15 = (yM h) 180 a.toNat := Eq.trans ev15 (Eq.trans (Eq.symm (yM_p (h := h) (a := 180) (n := 200) (i := a.toNat) rfl (by omega))) (Eq.trans (congrFun (congrFun (rfl : yM h = yM h) 180) a.toNat) rfl))
        refine zwW_al I (a1 := 170) (a2 := 170) (kd := 20) (n := 300) (t := 0) (lo := 0) (hi := 19) (nx := 110) (by decide +kernel) ⟨by decide, by decide⟩ ⟨by omega, by omega⟩ ?_
        intro v16 ev16 lv16 uv16
        have sv16 : v16 = (yM h) 170 (((yM h) 180 a.toNat).toNat) := Eq.trans ev16 (Eq.trans (Eq.symm (yM_p (h := h) (a := 170) (n := 300) (i := v15.toNat) rfl (by omega))) (Eq.trans (congrArg (yM h 170) (show v15.toNat = ((yM h) 180 a.toNat).toNat by rw [sv15])) (Eq.trans (congrFun (congrFun (rfl : yM h = yM h) 170) (((yM h) 180 a.toNat).toNat)) rfl)))
        refine zwW_ret (nx := 111) (a := 0) (b := 0) (by decide +kernel) rfl (Or.inl rfl) ?_
        exact ⟨rfl, by omega, by unfold yClotA; (repeat' (first | rw [if_pos (by omega)] | rw [if_neg (by omega)])); all_goals (first | rfl | omega)⟩
      refine ⟨fun c17 => ?_, fun c17 => ?_⟩
      · show zwW _ _ _ 111 _ _ _ _
        refine zwW_p [(1, 0, 2)] (q := 112) (ls' := [(2, 37), (0, a), (0, b)]) (st' := [(2, 37)]) (by decide +kernel) rfl ?_
        refine zwW_gc I (kd := 13) (bn := 59) (n := 97) (c := 171) (nx := 115) (by decide +kernel) ?_
        refine zwW_p [(1, 0, 2)] (q := 116) (ls' := [(2, 37), (0, a), (0, b)]) (st' := [(2, 37), (2, 171)]) (by decide +kernel) rfl ?_
        refine zwW_gc I (kd := 13) (bn := 72) (n := 97) (c := 180) (nx := 119) (by decide +kernel) ?_
        refine zwW_p [(1, 1, 0)] (q := 120) (ls' := [(2, 37), (0, a), (0, b)]) (st' := [(0, a), (2, 180), (2, 171)]) (by decide +kernel) rfl ?_
        refine zwW_al I (a1 := 180) (a2 := 180) (kd := 20) (n := 200) (t := 0) (lo := 0) (hi := 299) (nx := 121) (by decide +kernel) ⟨by decide, by decide⟩ ⟨by omega, by omega⟩ ?_
        intro v18 ev18 lv18 uv18
        have sv18 : v18 = (yM h) 180 a.toNat := Eq.trans ev18 (Eq.trans (Eq.symm (yM_p (h := h) (a := 180) (n := 200) (i := a.toNat) rfl (by omega))) (Eq.trans (congrFun (congrFun (rfl : yM h = yM h) 180) a.toNat) rfl))
        refine zwW_al I (a1 := 171) (a2 := 171) (kd := 20) (n := 300) (t := 0) (lo := -2147483648) (hi := 2147483647) (nx := 122) (by decide +kernel) ⟨by decide, by decide⟩ ⟨by omega, by omega⟩ ?_
        intro v19 ev19 lv19 uv19
        have sv19 : v19 = (yM h) 171 (((yM h) 180 a.toNat).toNat) := Eq.trans ev19 (Eq.trans (Eq.symm (yM_p (h := h) (a := 171) (n := 300) (i := v18.toNat) rfl (by omega))) (Eq.trans (congrArg (yM h 171) (show v18.toNat = ((yM h) 180 a.toNat).toNat by rw [sv18])) (Eq.trans (congrFun (congrFun (rfl : yM h = yM h) 171) (((yM h) 180 a.toNat).toNat)) rfl)))
        refine zwW_ret (nx := 123) (a := 0) (b := 0) (by decide +kernel) rfl (Or.inl rfl) ?_
        exact ⟨rfl, by omega, by unfold yClotA; (repeat' (first | rw [if_pos (by omega)] | rw [if_neg (by omega)])); all_goals (first | rfl | omega)⟩
      refine ⟨fun c20 => ?_, fun c20 => ?_⟩
      · show zwW _ _ _ 123 _ _ _ _
        refine zwW_p [(1, 0, 2)] (q := 124) (ls' := [(2, 37), (0, a), (0, b)]) (st' := [(2, 37)]) (by decide +kernel) rfl ?_
        refine zwW_gc I (kd := 13) (bn := 76) (n := 97) (c := 184) (nx := 127) (by decide +kernel) ?_
        refine zwW_p [(1, 1, 0)] (q := 128) (ls' := [(2, 37), (0, a), (0, b)]) (st' := [(0, a), (2, 184)]) (by decide +kernel) rfl ?_
        refine zwW_al I (a1 := 184) (a2 := 184) (kd := 20) (n := 200) (t := 0) (lo := -1) (hi := 7) (nx := 129) (by decide +kernel) ⟨by decide, by decide⟩ ⟨by omega, by omega⟩ ?_
        intro v21 ev21 lv21 uv21
        have sv21 : v21 = (yM h) 184 a.toNat := Eq.trans ev21 (Eq.trans (Eq.symm (yM_p (h := h) (a := 184) (n := 200) (i := a.toNat) rfl (by omega))) (Eq.trans (congrFun (congrFun (rfl : yM h = yM h) 184) a.toNat) rfl))
        refine zwW_ret (nx := 130) (a := 0) (b := 0) (by decide +kernel) rfl (Or.inl rfl) ?_
        exact ⟨rfl, by omega, by unfold yClotA; (repeat' (first | rw [if_pos (by omega)] | rw [if_neg (by omega)])); all_goals (first | rfl | omega)⟩
      show zwW _ _ _ 130 _ _ _ _
      refine zwW_p [(0, -1, 0)] (q := 131) (ls' := [(2, 37), (0, a), (0, b)]) (st' := [(0, -1)]) (by decide +kernel) rfl ?_
      refine zwW_ret (nx := 132) (a := 0) (b := 0) (by decide +kernel) rfl (Or.inl rfl) ?_
      exact ⟨rfl, by omega, by unfold yClotA; (repeat' (first | rw [if_pos (by omega)] | rw [if_neg (by omega)])); all_goals (first | rfl | omega)⟩
    · exfalso; omega
  · refine zwif_ne (q := 10) (nx := 8) (by decide +kernel) (fun c22 => ?_) (fun c22 => ?_)
    · exfalso; omega
    · refine zwW_p [(0, -1, 0)] (q := 9) (ls' := [(2, 37), (0, a), (0, b)]) (st' := [(0, -1)]) (by decide +kernel) rfl ?_
      refine zwW_ret (nx := 10) (a := 0) (b := 0) (by decide +kernel) rfl (Or.inl rfl) ?_
      exact ⟨rfl, by omega, by unfold yClotA; (repeat' (first | rw [if_pos (by omega)] | rw [if_neg (by omega)])); all_goals (first | rfl | omega)⟩
-- WheelLandModel.is(II)I
theorem m84_z {sc : List Int} (h : Hp) (I : zI h) (a b : Int) : zwC sc 3 84 [(2, 37), (0, a), (0, b)] h (zwRt 0 (fun x g => h = g ∧ (-2147483648 ≤ x ∧ x ≤ 2147483647) ∧ (x = yIsA (yM h) a b))) := by
  refine zwC_of (D := 2) 3 (by decide +kernel) rfl (ls := [(2, 37), (0, a), (0, b)]) rfl ?_
  have u0 : yM h 37 0 = fld h 37 0 := rfl
  have u1 : yM h 37 1 = fld h 37 1 := rfl
  have u2 : yM h 37 2 = fld h 37 2 := rfl
  have u64 : yM h 37 64 = fld h 37 64 := rfl
  have u78 : yM h 37 78 = fld h 37 78 := rfl
  refine zwW_p [(1, 0, 2), (1, 1, 0)] (q := 2) (ls' := [(2, 37), (0, a), (0, b)]) (st' := [(0, a), (2, 37)]) (by decide +kernel) rfl ?_
  refine zwW_cm I (op := 60) (k' := 104) (n := 1) (kd := 13) (m := 97) (nx := 5) (r := 37) (tl := [(0, a)]) (st' := []) (by decide +kernel) rfl (by decide +kernel) rfl (m104 h I a) ?_
  rintro x _ ⟨rfl, ⟨rfl, c1⟩ | ⟨rfl, c1⟩⟩
  · refine zwif_ne (q := 10) (nx := 8) (by decide +kernel) (fun c2 => ?_) (fun c2 => ?_)
    · refine zwW_p [(1, 2, 0)] (q := 11) (ls' := [(2, 37), (0, a), (0, b)]) (st' := [(0, b)]) (by decide +kernel) rfl ?_
      refine zwW_sw (d := 145) (os := [0, 68, 1, 75, 2, 82, 3, 89, 4, 96, 5, 103, 6, 110, 7, 117, 8, 124, 9, 131, 10, 138]) (by decide +kernel) ?_
      refine ⟨fun c3 => ?_, fun c3 => ?_⟩
      · show zwW _ _ _ 68 _ _ _ _
        refine zwW_p [(1, 0, 2)] (q := 69) (ls' := [(2, 37), (0, a), (0, b)]) (st' := [(2, 37)]) (by decide +kernel) rfl ?_
        refine zwW_gc I (kd := 13) (bn := 7) (n := 97) (c := 66) (nx := 72) (by decide +kernel) ?_
        refine zwW_p [(1, 1, 0)] (q := 73) (ls' := [(2, 37), (0, a), (0, b)]) (st' := [(0, a), (2, 66)]) (by decide +kernel) rfl ?_
        refine zwW_al I (a1 := 66) (a2 := 66) (kd := 20) (n := 8) (t := 0) (lo := -2147483648) (hi := 2147483647) (nx := 74) (by decide +kernel) ⟨by decide, by decide⟩ ⟨by omega, by omega⟩ ?_
        intro v4 ev4 lv4 uv4
        have sv4 : v4 = (yM h) 66 a.toNat := Eq.trans ev4 (Eq.trans (Eq.symm (yM_p (h := h) (a := 66) (n := 8) (i := a.toNat) rfl (by omega))) (Eq.trans (congrFun (congrFun (rfl : yM h = yM h) 66) a.toNat) rfl))
        refine zwW_ret (nx := 75) (a := 0) (b := 0) (by decide +kernel) rfl (Or.inl rfl) ?_
        exact ⟨rfl, by omega, by unfold yIsA; (repeat' (first | rw [if_pos (by omega)] | rw [if_neg (by omega)])); all_goals (first | rfl | omega)⟩
      refine ⟨fun c5 => ?_, fun c5 => ?_⟩
      · show zwW _ _ _ 75 _ _ _ _
        refine zwW_p [(1, 0, 2)] (q := 76) (ls' := [(2, 37), (0, a), (0, b)]) (st' := [(2, 37)]) (by decide +kernel) rfl ?_
        refine zwW_gc I (kd := 13) (bn := 8) (n := 97) (c := 67) (nx := 79) (by decide +kernel) ?_
        refine zwW_p [(1, 1, 0)] (q := 80) (ls' := [(2, 37), (0, a), (0, b)]) (st' := [(0, a), (2, 67)]) (by decide +kernel) rfl ?_
        refine zwW_al I (a1 := 67) (a2 := 67) (kd := 20) (n := 8) (t := 0) (lo := -2147483648) (hi := 2147483647) (nx := 81) (by decide +kernel) ⟨by decide, by decide⟩ ⟨by omega, by omega⟩ ?_
        intro v6 ev6 lv6 uv6
        have sv6 : v6 = (yM h) 67 a.toNat := Eq.trans ev6 (Eq.trans (Eq.symm (yM_p (h := h) (a := 67) (n := 8) (i := a.toNat) rfl (by omega))) (Eq.trans (congrFun (congrFun (rfl : yM h = yM h) 67) a.toNat) rfl))
        refine zwW_ret (nx := 82) (a := 0) (b := 0) (by decide +kernel) rfl (Or.inl rfl) ?_
        exact ⟨rfl, by omega, by unfold yIsA; (repeat' (first | rw [if_pos (by omega)] | rw [if_neg (by omega)])); all_goals (first | rfl | omega)⟩
      refine ⟨fun c7 => ?_, fun c7 => ?_⟩
      · show zwW _ _ _ 82 _ _ _ _
        refine zwW_p [(1, 0, 2)] (q := 83) (ls' := [(2, 37), (0, a), (0, b)]) (st' := [(2, 37)]) (by decide +kernel) rfl ?_
        refine zwW_gc I (kd := 13) (bn := 9) (n := 97) (c := 68) (nx := 86) (by decide +kernel) ?_
        refine zwW_p [(1, 1, 0)] (q := 87) (ls' := [(2, 37), (0, a), (0, b)]) (st' := [(0, a), (2, 68)]) (by decide +kernel) rfl ?_
        refine zwW_al I (a1 := 68) (a2 := 68) (kd := 20) (n := 8) (t := 0) (lo := -2147483648) (hi := 2147483647) (nx := 88) (by decide +kernel) ⟨by decide, by decide⟩ ⟨by omega, by omega⟩ ?_
        intro v8 ev8 lv8 uv8
        have sv8 : v8 = (yM h) 68 a.toNat := Eq.trans ev8 (Eq.trans (Eq.symm (yM_p (h := h) (a := 68) (n := 8) (i := a.toNat) rfl (by omega))) (Eq.trans (congrFun (congrFun (rfl : yM h = yM h) 68) a.toNat) rfl))
        refine zwW_ret (nx := 89) (a := 0) (b := 0) (by decide +kernel) rfl (Or.inl rfl) ?_
        exact ⟨rfl, by omega, by unfold yIsA; (repeat' (first | rw [if_pos (by omega)] | rw [if_neg (by omega)])); all_goals (first | rfl | omega)⟩
      refine ⟨fun c9 => ?_, fun c9 => ?_⟩
      · show zwW _ _ _ 89 _ _ _ _
        refine zwW_p [(1, 0, 2)] (q := 90) (ls' := [(2, 37), (0, a), (0, b)]) (st' := [(2, 37)]) (by decide +kernel) rfl ?_
        refine zwW_gc I (kd := 13) (bn := 10) (n := 97) (c := 69) (nx := 93) (by decide +kernel) ?_
        refine zwW_p [(1, 1, 0)] (q := 94) (ls' := [(2, 37), (0, a), (0, b)]) (st' := [(0, a), (2, 69)]) (by decide +kernel) rfl ?_
        refine zwW_al I (a1 := 69) (a2 := 69) (kd := 20) (n := 8) (t := 0) (lo := -2147483648) (hi := 2147483647) (nx := 95) (by decide +kernel) ⟨by decide, by decide⟩ ⟨by omega, by omega⟩ ?_
        intro v10 ev10 lv10 uv10
        have sv10 : v10 = (yM h) 69 a.toNat := Eq.trans ev10 (Eq.trans (Eq.symm (yM_p (h := h) (a := 69) (n := 8) (i := a.toNat) rfl (by omega))) (Eq.trans (congrFun (congrFun (rfl : yM h = yM h) 69) a.toNat) rfl))
        refine zwW_ret (nx := 96) (a := 0) (b := 0) (by decide +kernel) rfl (Or.inl rfl) ?_
        exact ⟨rfl, by omega, by unfold yIsA; (repeat' (first | rw [if_pos (by omega)] | rw [if_neg (by omega)])); all_goals (first | rfl | omega)⟩
      refine ⟨fun c11 => ?_, fun c11 => ?_⟩
      · show zwW _ _ _ 96 _ _ _ _
        refine zwW_p [(1, 0, 2)] (q := 97) (ls' := [(2, 37), (0, a), (0, b)]) (st' := [(2, 37)]) (by decide +kernel) rfl ?_
        refine zwW_gc I (kd := 13) (bn := 11) (n := 97) (c := 70) (nx := 100) (by decide +kernel) ?_
        refine zwW_p [(1, 1, 0)] (q := 101) (ls' := [(2, 37), (0, a), (0, b)]) (st' := [(0, a), (2, 70)]) (by decide +kernel) rfl ?_
        refine zwW_al I (a1 := 70) (a2 := 70) (kd := 20) (n := 8) (t := 0) (lo := -2147483648) (hi := 2147483647) (nx := 102) (by decide +kernel) ⟨by decide, by decide⟩ ⟨by omega, by omega⟩ ?_
        intro v12 ev12 lv12 uv12
        have sv12 : v12 = (yM h) 70 a.toNat := Eq.trans ev12 (Eq.trans (Eq.symm (yM_p (h := h) (a := 70) (n := 8) (i := a.toNat) rfl (by omega))) (Eq.trans (congrFun (congrFun (rfl : yM h = yM h) 70) a.toNat) rfl))
        refine zwW_ret (nx := 103) (a := 0) (b := 0) (by decide +kernel) rfl (Or.inl rfl) ?_
        exact ⟨rfl, by omega, by unfold yIsA; (repeat' (first | rw [if_pos (by omega)] | rw [if_neg (by omega)])); all_goals (first | rfl | omega)⟩
      refine ⟨fun c13 => ?_, fun c13 => ?_⟩
      · show zwW _ _ _ 103 _ _ _ _
        refine zwW_p [(1, 0, 2)] (q := 104) (ls' := [(2, 37), (0, a), (0, b)]) (st' := [(2, 37)]) (by decide +kernel) rfl ?_
        refine zwW_gc I (kd := 13) (bn := 12) (n := 97) (c := 71) (nx := 107) (by decide +kernel) ?_
        refine zwW_p [(1, 1, 0)] (q := 108) (ls' := [(2, 37), (0, a), (0, b)]) (st' := [(0, a), (2, 71)]) (by decide +kernel) rfl ?_
        refine zwW_al I (a1 := 71) (a2 := 71) (kd := 20) (n := 8) (t := 0) (lo := -2147483648) (hi := 2147483647) (nx := 109) (by decide +kernel) ⟨by decide, by decide⟩ ⟨by omega, by omega⟩ ?_
        intro v14 ev14 lv14 uv14
        have sv14 : v14 = (yM h) 71 a.toNat := Eq.trans ev14 (Eq.trans (Eq.symm (yM_p (h := h) (a := 71) (n := 8) (i := a.toNat) rfl (by omega))) (Eq.trans (congrFun (congrFun (rfl : yM h = yM h) 71) a.toNat) rfl))
        refine zwW_ret (nx := 110) (a := 0) (b := 0) (by decide +kernel) rfl (Or.inl rfl) ?_
        exact ⟨rfl, by omega, by unfold yIsA; (repeat' (first | rw [if_pos (by omega)] | rw [if_neg (by omega)])); all_goals (first | rfl | omega)⟩
      refine ⟨fun c15 => ?_, fun c15 => ?_⟩
      · show zwW _ _ _ 110 _ _ _ _
        refine zwW_p [(1, 0, 2)] (q := 111) (ls' := [(2, 37), (0, a), (0, b)]) (st' := [(2, 37)]) (by decide +kernel) rfl ?_
        refine zwW_gc I (kd := 13) (bn := 13) (n := 97) (c := 72) (nx := 114) (by decide +kernel) ?_
        refine zwW_p [(1, 1, 0)] (q := 115) (ls' := [(2, 37), (0, a), (0, b)]) (st' := [(0, a), (2, 72)]) (by decide +kernel) rfl ?_
        refine zwW_al I (a1 := 72) (a2 := 72) (kd := 20) (n := 8) (t := 0) (lo := -2147483648) (hi := 2147483647) (nx := 116) (by decide +kernel) ⟨by decide, by decide⟩ ⟨by omega, by omega⟩ ?_
        intro v16 ev16 lv16 uv16
        have sv16 : v16 = (yM h) 72 a.toNat := Eq.trans ev16 (Eq.trans (Eq.symm (yM_p (h := h) (a := 72) (n := 8) (i := a.toNat) rfl (by omega))) (Eq.trans (congrFun (congrFun (rfl : yM h = yM h) 72) a.toNat) rfl))
        refine zwW_ret (nx := 117) (a := 0) (b := 0) (by decide +kernel) rfl (Or.inl rfl) ?_
        exact ⟨rfl, by omega, by unfold yIsA; (repeat' (first | rw [if_pos (by omega)] | rw [if_neg (by omega)])); all_goals (first | rfl | omega)⟩
      refine ⟨fun c17 => ?_, fun c17 => ?_⟩
      · show zwW _ _ _ 117 _ _ _ _
        refine zwW_p [(1, 0, 2)] (q := 118) (ls' := [(2, 37), (0, a), (0, b)]) (st' := [(2, 37)]) (by decide +kernel) rfl ?_
        refine zwW_gc I (kd := 13) (bn := 14) (n := 97) (c := 73) (nx := 121) (by decide +kernel) ?_
        refine zwW_p [(1, 1, 0)] (q := 122) (ls' := [(2, 37), (0, a), (0, b)]) (st' := [(0, a), (2, 73)]) (by decide +kernel) rfl ?_
        refine zwW_al I (a1 := 73) (a2 := 73) (kd := 20) (n := 8) (t := 0) (lo := -2147483648) (hi := 2147483647) (nx := 123) (by decide +kernel) ⟨by decide, by decide⟩ ⟨by omega, by omega⟩ ?_
        intro v18 ev18 lv18 uv18
        have sv18 : v18 = (yM h) 73 a.toNat := Eq.trans ev18 (Eq.trans (Eq.symm (yM_p (h := h) (a := 73) (n := 8) (i := a.toNat) rfl (by omega))) (Eq.trans (congrFun (congrFun (rfl : yM h = yM h) 73) a.toNat) rfl))
        refine zwW_ret (nx := 124) (a := 0) (b := 0) (by decide +kernel) rfl (Or.inl rfl) ?_
        exact ⟨rfl, by omega, by unfold yIsA; (repeat' (first | rw [if_pos (by omega)] | rw [if_neg (by omega)])); all_goals (first | rfl | omega)⟩
      refine ⟨fun c19 => ?_, fun c19 => ?_⟩
      · show zwW _ _ _ 124 _ _ _ _
        refine zwW_p [(1, 0, 2)] (q := 125) (ls' := [(2, 37), (0, a), (0, b)]) (st' := [(2, 37)]) (by decide +kernel) rfl ?_
        refine zwW_gc I (kd := 13) (bn := 15) (n := 97) (c := 74) (nx := 128) (by decide +kernel) ?_
        refine zwW_p [(1, 1, 0)] (q := 129) (ls' := [(2, 37), (0, a), (0, b)]) (st' := [(0, a), (2, 74)]) (by decide +kernel) rfl ?_
        refine zwW_al I (a1 := 74) (a2 := 74) (kd := 20) (n := 8) (t := 0) (lo := 0) (hi := 9999) (nx := 130) (by decide +kernel) ⟨by decide, by decide⟩ ⟨by omega, by omega⟩ ?_
        intro v20 ev20 lv20 uv20
        have sv20 : v20 = (yM h) 74 a.toNat := Eq.trans ev20 (Eq.trans (Eq.symm (yM_p (h := h) (a := 74) (n := 8) (i := a.toNat) rfl (by omega))) (Eq.trans (congrFun (congrFun (rfl : yM h = yM h) 74) a.toNat) rfl))
        refine zwW_ret (nx := 131) (a := 0) (b := 0) (by decide +kernel) rfl (Or.inl rfl) ?_
        exact ⟨rfl, by omega, by unfold yIsA; (repeat' (first | rw [if_pos (by omega)] | rw [if_neg (by omega)])); all_goals (first | rfl | omega)⟩
      refine ⟨fun c21 => ?_, fun c21 => ?_⟩
      · show zwW _ _ _ 131 _ _ _ _
        refine zwW_p [(1, 0, 2)] (q := 132) (ls' := [(2, 37), (0, a), (0, b)]) (st' := [(2, 37)]) (by decide +kernel) rfl ?_
        refine zwW_gc I (kd := 13) (bn := 17) (n := 97) (c := 76) (nx := 135) (by decide +kernel) ?_
        refine zwW_p [(1, 1, 0)] (q := 136) (ls' := [(2, 37), (0, a), (0, b)]) (st' := [(0, a), (2, 76)]) (by decide +kernel) rfl ?_
        refine zwW_al I (a1 := 76) (a2 := 76) (kd := 20) (n := 8) (t := 0) (lo := -2147483648) (hi := 2147483647) (nx := 137) (by decide +kernel) ⟨by decide, by decide⟩ ⟨by omega, by omega⟩ ?_
        intro v22 ev22 lv22 uv22
        have sv22 : v22 = (yM h) 76 a.toNat := Eq.trans ev22 (Eq.trans (Eq.symm (yM_p (h := h) (a := 76) (n := 8) (i := a.toNat) rfl (by omega))) (Eq.trans (congrFun (congrFun (rfl : yM h = yM h) 76) a.toNat) rfl))
        refine zwW_ret (nx := 138) (a := 0) (b := 0) (by decide +kernel) rfl (Or.inl rfl) ?_
        exact ⟨rfl, by omega, by unfold yIsA; (repeat' (first | rw [if_pos (by omega)] | rw [if_neg (by omega)])); all_goals (first | rfl | omega)⟩
      refine ⟨fun c23 => ?_, fun c23 => ?_⟩
      · show zwW _ _ _ 138 _ _ _ _
        refine zwW_p [(1, 0, 2)] (q := 139) (ls' := [(2, 37), (0, a), (0, b)]) (st' := [(2, 37)]) (by decide +kernel) rfl ?_
        refine zwW_gc I (kd := 13) (bn := 18) (n := 97) (c := 77) (nx := 142) (by decide +kernel) ?_
        refine zwW_p [(1, 1, 0)] (q := 143) (ls' := [(2, 37), (0, a), (0, b)]) (st' := [(0, a), (2, 77)]) (by decide +kernel) rfl ?_
        refine zwW_al I (a1 := 77) (a2 := 77) (kd := 20) (n := 8) (t := 0) (lo := -2147483648) (hi := 2147483647) (nx := 144) (by decide +kernel) ⟨by decide, by decide⟩ ⟨by omega, by omega⟩ ?_
        intro v24 ev24 lv24 uv24
        have sv24 : v24 = (yM h) 77 a.toNat := Eq.trans ev24 (Eq.trans (Eq.symm (yM_p (h := h) (a := 77) (n := 8) (i := a.toNat) rfl (by omega))) (Eq.trans (congrFun (congrFun (rfl : yM h = yM h) 77) a.toNat) rfl))
        refine zwW_ret (nx := 145) (a := 0) (b := 0) (by decide +kernel) rfl (Or.inl rfl) ?_
        exact ⟨rfl, by omega, by unfold yIsA; (repeat' (first | rw [if_pos (by omega)] | rw [if_neg (by omega)])); all_goals (first | rfl | omega)⟩
      show zwW _ _ _ 145 _ _ _ _
      refine zwW_p [(0, -1, 0)] (q := 146) (ls' := [(2, 37), (0, a), (0, b)]) (st' := [(0, -1)]) (by decide +kernel) rfl ?_
      refine zwW_ret (nx := 147) (a := 0) (b := 0) (by decide +kernel) rfl (Or.inl rfl) ?_
      exact ⟨rfl, by omega, by unfold yIsA; (repeat' (first | rw [if_pos (by omega)] | rw [if_neg (by omega)])); all_goals (first | rfl | omega)⟩
    · exfalso; omega
  · refine zwif_ne (q := 10) (nx := 8) (by decide +kernel) (fun c25 => ?_) (fun c25 => ?_)
    · exfalso; omega
    · refine zwW_p [(0, -1, 0)] (q := 9) (ls' := [(2, 37), (0, a), (0, b)]) (st' := [(0, -1)]) (by decide +kernel) rfl ?_
      refine zwW_ret (nx := 10) (a := 0) (b := 0) (by decide +kernel) rfl (Or.inl rfl) ?_
      exact ⟨rfl, by omega, by unfold yIsA; (repeat' (first | rw [if_pos (by omega)] | rw [if_neg (by omega)])); all_goals (first | rfl | omega)⟩
-- WheelLandModel.has(II)I
theorem m86_z {sc : List Int} (h : Hp) (I : zI h) (a b : Int) : zwC sc 3 86 [(2, 37), (0, a), (0, b)] h (zwRt 0 (fun x g => h = g ∧ (-2147483648 ≤ x ∧ x ≤ 2147483647) ∧ (x = yHasA (yM h) a b))) := by
  refine zwC_of (D := 2) 3 (by decide +kernel) rfl (ls := [(2, 37), (0, a), (0, b)]) rfl ?_
  have u0 : yM h 37 0 = fld h 37 0 := rfl
  have u1 : yM h 37 1 = fld h 37 1 := rfl
  have u2 : yM h 37 2 = fld h 37 2 := rfl
  have u64 : yM h 37 64 = fld h 37 64 := rfl
  have u78 : yM h 37 78 = fld h 37 78 := rfl
  refine zwW_p [(1, 0, 2), (1, 1, 0)] (q := 2) (ls' := [(2, 37), (0, a), (0, b)]) (st' := [(0, a), (2, 37)]) (by decide +kernel) rfl ?_
  refine zwW_cm I (op := 60) (k' := 111) (n := 1) (kd := 13) (m := 97) (nx := 5) (r := 37) (tl := [(0, a)]) (st' := []) (by decide +kernel) rfl (by decide +kernel) rfl (m111 h I a) ?_
  rintro x _ ⟨rfl, ⟨rfl, c1⟩ | ⟨rfl, c1⟩⟩
  · refine zwif_ne (q := 12) (nx := 8) (by decide +kernel) (fun c2 => ?_) (fun c2 => ?_)
    · refine zwW_p [(1, 2, 0)] (q := 13) (ls' := [(2, 37), (0, a), (0, b)]) (st' := [(0, b)]) (by decide +kernel) rfl ?_
      refine zwW_sw (d := 161) (os := [0, 72, 1, 79, 2, 86, 3, 93, 4, 100, 5, 107, 6, 114, 7, 121, 8, 128, 9, 135, 10, 142]) (by decide +kernel) ?_
      refine ⟨fun c3 => ?_, fun c3 => ?_⟩
      · show zwW _ _ _ 72 _ _ _ _
        refine zwW_p [(1, 0, 2)] (q := 73) (ls' := [(2, 37), (0, a), (0, b)]) (st' := [(2, 37)]) (by decide +kernel) rfl ?_
        refine zwW_gc I (kd := 13) (bn := 20) (n := 97) (c := 79) (nx := 76) (by decide +kernel) ?_
        refine zwW_p [(1, 1, 0)] (q := 77) (ls' := [(2, 37), (0, a), (0, b)]) (st' := [(0, a), (2, 79)]) (by decide +kernel) rfl ?_
        refine zwW_al I (a1 := 79) (a2 := 79) (kd := 20) (n := 20) (t := 0) (lo := 0) (hi := 7) (nx := 78) (by decide +kernel) ⟨by decide, by decide⟩ ⟨by omega, by omega⟩ ?_
        intro v4 ev4 lv4 uv4
        have sv4 : v4 = (yM h) 79 a.toNat := Eq.trans ev4 (Eq.trans (Eq.symm (yM_p (h := h) (a := 79) (n := 20) (i := a.toNat) rfl (by omega))) (Eq.trans (congrFun (congrFun (rfl : yM h = yM h) 79) a.toNat) rfl))
        refine zwW_ret (nx := 79) (a := 0) (b := 0) (by decide +kernel) rfl (Or.inl rfl) ?_
        exact ⟨rfl, by omega, by unfold yHasA; (repeat' (first | rw [if_pos (by omega)] | rw [if_neg (by omega)])); all_goals (first | rfl | omega)⟩
      refine ⟨fun c5 => ?_, fun c5 => ?_⟩
      · show zwW _ _ _ 79 _ _ _ _
        refine zwW_p [(1, 0, 2)] (q := 80) (ls' := [(2, 37), (0, a), (0, b)]) (st' := [(2, 37)]) (by decide +kernel) rfl ?_
        refine zwW_gc I (kd := 13) (bn := 21) (n := 97) (c := 80) (nx := 83) (by decide +kernel) ?_
        refine zwW_p [(1, 1, 0)] (q := 84) (ls' := [(2, 37), (0, a), (0, b)]) (st' := [(0, a), (2, 80)]) (by decide +kernel) rfl ?_
        refine zwW_al I (a1 := 80) (a2 := 80) (kd := 20) (n := 20) (t := 0) (lo := 0) (hi := 5) (nx := 85) (by decide +kernel) ⟨by decide, by decide⟩ ⟨by omega, by omega⟩ ?_
        intro v6 ev6 lv6 uv6
        have sv6 : v6 = (yM h) 80 a.toNat := Eq.trans ev6 (Eq.trans (Eq.symm (yM_p (h := h) (a := 80) (n := 20) (i := a.toNat) rfl (by omega))) (Eq.trans (congrFun (congrFun (rfl : yM h = yM h) 80) a.toNat) rfl))
        refine zwW_ret (nx := 86) (a := 0) (b := 0) (by decide +kernel) rfl (Or.inl rfl) ?_
        exact ⟨rfl, by omega, by unfold yHasA; (repeat' (first | rw [if_pos (by omega)] | rw [if_neg (by omega)])); all_goals (first | rfl | omega)⟩
      refine ⟨fun c7 => ?_, fun c7 => ?_⟩
      · show zwW _ _ _ 86 _ _ _ _
        refine zwW_p [(1, 0, 2)] (q := 87) (ls' := [(2, 37), (0, a), (0, b)]) (st' := [(2, 37)]) (by decide +kernel) rfl ?_
        refine zwW_gc I (kd := 13) (bn := 22) (n := 97) (c := 81) (nx := 90) (by decide +kernel) ?_
        refine zwW_p [(1, 1, 0)] (q := 91) (ls' := [(2, 37), (0, a), (0, b)]) (st' := [(0, a), (2, 81)]) (by decide +kernel) rfl ?_
        refine zwW_al I (a1 := 81) (a2 := 81) (kd := 20) (n := 20) (t := 0) (lo := 0) (hi := 9) (nx := 92) (by decide +kernel) ⟨by decide, by decide⟩ ⟨by omega, by omega⟩ ?_
        intro v8 ev8 lv8 uv8
        have sv8 : v8 = (yM h) 81 a.toNat := Eq.trans ev8 (Eq.trans (Eq.symm (yM_p (h := h) (a := 81) (n := 20) (i := a.toNat) rfl (by omega))) (Eq.trans (congrFun (congrFun (rfl : yM h = yM h) 81) a.toNat) rfl))
        refine zwW_ret (nx := 93) (a := 0) (b := 0) (by decide +kernel) rfl (Or.inl rfl) ?_
        exact ⟨rfl, by omega, by unfold yHasA; (repeat' (first | rw [if_pos (by omega)] | rw [if_neg (by omega)])); all_goals (first | rfl | omega)⟩
      refine ⟨fun c9 => ?_, fun c9 => ?_⟩
      · show zwW _ _ _ 93 _ _ _ _
        refine zwW_p [(1, 0, 2)] (q := 94) (ls' := [(2, 37), (0, a), (0, b)]) (st' := [(2, 37)]) (by decide +kernel) rfl ?_
        refine zwW_gc I (kd := 13) (bn := 23) (n := 97) (c := 82) (nx := 97) (by decide +kernel) ?_
        refine zwW_p [(1, 1, 0)] (q := 98) (ls' := [(2, 37), (0, a), (0, b)]) (st' := [(0, a), (2, 82)]) (by decide +kernel) rfl ?_
        refine zwW_al I (a1 := 82) (a2 := 82) (kd := 20) (n := 20) (t := 0) (lo := 0) (hi := 5) (nx := 99) (by decide +kernel) ⟨by decide, by decide⟩ ⟨by omega, by omega⟩ ?_
        intro v10 ev10 lv10 uv10
        have sv10 : v10 = (yM h) 82 a.toNat := Eq.trans ev10 (Eq.trans (Eq.symm (yM_p (h := h) (a := 82) (n := 20) (i := a.toNat) rfl (by omega))) (Eq.trans (congrFun (congrFun (rfl : yM h = yM h) 82) a.toNat) rfl))
        refine zwW_ret (nx := 100) (a := 0) (b := 0) (by decide +kernel) rfl (Or.inl rfl) ?_
        exact ⟨rfl, by omega, by unfold yHasA; (repeat' (first | rw [if_pos (by omega)] | rw [if_neg (by omega)])); all_goals (first | rfl | omega)⟩
      refine ⟨fun c11 => ?_, fun c11 => ?_⟩
      · show zwW _ _ _ 100 _ _ _ _
        refine zwW_p [(1, 0, 2)] (q := 101) (ls' := [(2, 37), (0, a), (0, b)]) (st' := [(2, 37)]) (by decide +kernel) rfl ?_
        refine zwW_gc I (kd := 13) (bn := 24) (n := 97) (c := 83) (nx := 104) (by decide +kernel) ?_
        refine zwW_p [(1, 1, 0)] (q := 105) (ls' := [(2, 37), (0, a), (0, b)]) (st' := [(0, a), (2, 83)]) (by decide +kernel) rfl ?_
        refine zwW_al I (a1 := 83) (a2 := 83) (kd := 20) (n := 20) (t := 0) (lo := 0) (hi := 9) (nx := 106) (by decide +kernel) ⟨by decide, by decide⟩ ⟨by omega, by omega⟩ ?_
        intro v12 ev12 lv12 uv12
        have sv12 : v12 = (yM h) 83 a.toNat := Eq.trans ev12 (Eq.trans (Eq.symm (yM_p (h := h) (a := 83) (n := 20) (i := a.toNat) rfl (by omega))) (Eq.trans (congrFun (congrFun (rfl : yM h = yM h) 83) a.toNat) rfl))
        refine zwW_ret (nx := 107) (a := 0) (b := 0) (by decide +kernel) rfl (Or.inl rfl) ?_
        exact ⟨rfl, by omega, by unfold yHasA; (repeat' (first | rw [if_pos (by omega)] | rw [if_neg (by omega)])); all_goals (first | rfl | omega)⟩
      refine ⟨fun c13 => ?_, fun c13 => ?_⟩
      · show zwW _ _ _ 107 _ _ _ _
        refine zwW_p [(1, 0, 2)] (q := 108) (ls' := [(2, 37), (0, a), (0, b)]) (st' := [(2, 37)]) (by decide +kernel) rfl ?_
        refine zwW_gc I (kd := 13) (bn := 25) (n := 97) (c := 84) (nx := 111) (by decide +kernel) ?_
        refine zwW_p [(1, 1, 0)] (q := 112) (ls' := [(2, 37), (0, a), (0, b)]) (st' := [(0, a), (2, 84)]) (by decide +kernel) rfl ?_
        refine zwW_al I (a1 := 84) (a2 := 84) (kd := 20) (n := 20) (t := 0) (lo := -2147483648) (hi := 2147483647) (nx := 113) (by decide +kernel) ⟨by decide, by decide⟩ ⟨by omega, by omega⟩ ?_
        intro v14 ev14 lv14 uv14
        have sv14 : v14 = (yM h) 84 a.toNat := Eq.trans ev14 (Eq.trans (Eq.symm (yM_p (h := h) (a := 84) (n := 20) (i := a.toNat) rfl (by omega))) (Eq.trans (congrFun (congrFun (rfl : yM h = yM h) 84) a.toNat) rfl))
        refine zwW_ret (nx := 114) (a := 0) (b := 0) (by decide +kernel) rfl (Or.inl rfl) ?_
        exact ⟨rfl, by omega, by unfold yHasA; (repeat' (first | rw [if_pos (by omega)] | rw [if_neg (by omega)])); all_goals (first | rfl | omega)⟩
      refine ⟨fun c15 => ?_, fun c15 => ?_⟩
      · show zwW _ _ _ 114 _ _ _ _
        refine zwW_p [(1, 0, 2)] (q := 115) (ls' := [(2, 37), (0, a), (0, b)]) (st' := [(2, 37)]) (by decide +kernel) rfl ?_
        refine zwW_gc I (kd := 13) (bn := 26) (n := 97) (c := 85) (nx := 118) (by decide +kernel) ?_
        refine zwW_p [(1, 1, 0)] (q := 119) (ls' := [(2, 37), (0, a), (0, b)]) (st' := [(0, a), (2, 85)]) (by decide +kernel) rfl ?_
        refine zwW_al I (a1 := 85) (a2 := 85) (kd := 20) (n := 20) (t := 0) (lo := 0) (hi := 60) (nx := 120) (by decide +kernel) ⟨by decide, by decide⟩ ⟨by omega, by omega⟩ ?_
        intro v16 ev16 lv16 uv16
        have sv16 : v16 = (yM h) 85 a.toNat := Eq.trans ev16 (Eq.trans (Eq.symm (yM_p (h := h) (a := 85) (n := 20) (i := a.toNat) rfl (by omega))) (Eq.trans (congrFun (congrFun (rfl : yM h = yM h) 85) a.toNat) rfl))
        refine zwW_ret (nx := 121) (a := 0) (b := 0) (by decide +kernel) rfl (Or.inl rfl) ?_
        exact ⟨rfl, by omega, by unfold yHasA; (repeat' (first | rw [if_pos (by omega)] | rw [if_neg (by omega)])); all_goals (first | rfl | omega)⟩
      refine ⟨fun c17 => ?_, fun c17 => ?_⟩
      · show zwW _ _ _ 121 _ _ _ _
        refine zwW_p [(1, 0, 2)] (q := 122) (ls' := [(2, 37), (0, a), (0, b)]) (st' := [(2, 37)]) (by decide +kernel) rfl ?_
        refine zwW_gc I (kd := 13) (bn := 27) (n := 97) (c := 86) (nx := 125) (by decide +kernel) ?_
        refine zwW_p [(1, 1, 0)] (q := 126) (ls' := [(2, 37), (0, a), (0, b)]) (st' := [(0, a), (2, 86)]) (by decide +kernel) rfl ?_
        refine zwW_al I (a1 := 86) (a2 := 86) (kd := 20) (n := 20) (t := 0) (lo := -2147483648) (hi := 2147483647) (nx := 127) (by decide +kernel) ⟨by decide, by decide⟩ ⟨by omega, by omega⟩ ?_
        intro v18 ev18 lv18 uv18
        have sv18 : v18 = (yM h) 86 a.toNat := Eq.trans ev18 (Eq.trans (Eq.symm (yM_p (h := h) (a := 86) (n := 20) (i := a.toNat) rfl (by omega))) (Eq.trans (congrFun (congrFun (rfl : yM h = yM h) 86) a.toNat) rfl))
        refine zwW_ret (nx := 128) (a := 0) (b := 0) (by decide +kernel) rfl (Or.inl rfl) ?_
        exact ⟨rfl, by omega, by unfold yHasA; (repeat' (first | rw [if_pos (by omega)] | rw [if_neg (by omega)])); all_goals (first | rfl | omega)⟩
      refine ⟨fun c19 => ?_, fun c19 => ?_⟩
      · show zwW _ _ _ 128 _ _ _ _
        refine zwW_p [(1, 0, 2)] (q := 129) (ls' := [(2, 37), (0, a), (0, b)]) (st' := [(2, 37)]) (by decide +kernel) rfl ?_
        refine zwW_gc I (kd := 13) (bn := 28) (n := 97) (c := 87) (nx := 132) (by decide +kernel) ?_
        refine zwW_p [(1, 1, 0)] (q := 133) (ls' := [(2, 37), (0, a), (0, b)]) (st' := [(0, a), (2, 87)]) (by decide +kernel) rfl ?_
        refine zwW_al I (a1 := 87) (a2 := 87) (kd := 20) (n := 20) (t := 0) (lo := -2147483648) (hi := 2147483647) (nx := 134) (by decide +kernel) ⟨by decide, by decide⟩ ⟨by omega, by omega⟩ ?_
        intro v20 ev20 lv20 uv20
        have sv20 : v20 = (yM h) 87 a.toNat := Eq.trans ev20 (Eq.trans (Eq.symm (yM_p (h := h) (a := 87) (n := 20) (i := a.toNat) rfl (by omega))) (Eq.trans (congrFun (congrFun (rfl : yM h = yM h) 87) a.toNat) rfl))
        refine zwW_ret (nx := 135) (a := 0) (b := 0) (by decide +kernel) rfl (Or.inl rfl) ?_
        exact ⟨rfl, by omega, by unfold yHasA; (repeat' (first | rw [if_pos (by omega)] | rw [if_neg (by omega)])); all_goals (first | rfl | omega)⟩
      refine ⟨fun c21 => ?_, fun c21 => ?_⟩
      · show zwW _ _ _ 135 _ _ _ _
        refine zwW_p [(1, 0, 2)] (q := 136) (ls' := [(2, 37), (0, a), (0, b)]) (st' := [(2, 37)]) (by decide +kernel) rfl ?_
        refine zwW_gc I (kd := 13) (bn := 29) (n := 97) (c := 88) (nx := 139) (by decide +kernel) ?_
        refine zwW_p [(1, 1, 0)] (q := 140) (ls' := [(2, 37), (0, a), (0, b)]) (st' := [(0, a), (2, 88)]) (by decide +kernel) rfl ?_
        refine zwW_al I (a1 := 88) (a2 := 88) (kd := 20) (n := 20) (t := 0) (lo := -2147483648) (hi := 2147483647) (nx := 141) (by decide +kernel) ⟨by decide, by decide⟩ ⟨by omega, by omega⟩ ?_
        intro v22 ev22 lv22 uv22
        have sv22 : v22 = (yM h) 88 a.toNat := Eq.trans ev22 (Eq.trans (Eq.symm (yM_p (h := h) (a := 88) (n := 20) (i := a.toNat) rfl (by omega))) (Eq.trans (congrFun (congrFun (rfl : yM h = yM h) 88) a.toNat) rfl))
        refine zwW_ret (nx := 142) (a := 0) (b := 0) (by decide +kernel) rfl (Or.inl rfl) ?_
        exact ⟨rfl, by omega, by unfold yHasA; (repeat' (first | rw [if_pos (by omega)] | rw [if_neg (by omega)])); all_goals (first | rfl | omega)⟩
      refine ⟨fun c23 => ?_, fun c23 => ?_⟩
      · show zwW _ _ _ 142 _ _ _ _
        refine zwW_p [(1, 0, 2), (1, 1, 0)] (q := 144) (ls' := [(2, 37), (0, a), (0, b)]) (st' := [(0, a), (2, 37)]) (by decide +kernel) rfl ?_
        refine zwW_cm I (op := 60) (k' := 112) (n := 1) (kd := 13) (m := 97) (nx := 147) (r := 37) (tl := [(0, a)]) (st' := []) (by decide +kernel) rfl (by decide +kernel) rfl (m112 h I a (by omega) (by omega)) ?_
        rintro x _ ⟨rfl, ⟨rfl, c24⟩ | ⟨rfl, c24⟩⟩
        · have w147 : yM h 91 a.toNat = fld h 91 a.toNat := yM_p (a := 91) (n := 20) rfl (by omega)
          refine zwif_eq (q := 159) (nx := 150) (by decide +kernel) (fun c25 => ?_) (fun c25 => ?_)
          · exfalso; omega
          · refine zwW_p [(1, 0, 2)] (q := 151) (ls' := [(2, 37), (0, a), (0, b)]) (st' := [(2, 37)]) (by decide +kernel) rfl ?_
            refine zwW_gc I (kd := 13) (bn := 33) (n := 97) (c := 92) (nx := 154) (by decide +kernel) ?_
            refine zwW_p [(1, 1, 0)] (q := 155) (ls' := [(2, 37), (0, a), (0, b)]) (st' := [(0, a), (2, 92)]) (by decide +kernel) rfl ?_
            refine zwW_al I (a1 := 92) (a2 := 92) (kd := 20) (n := 20) (t := 0) (lo := -2147483648) (hi := 2147483647) (nx := 156) (by decide +kernel) ⟨by decide, by decide⟩ ⟨by omega, by omega⟩ ?_
            intro v26 ev26 lv26 uv26
            have sv26 : v26 = (yM h) 92 a.toNat := Eq.trans ev26 (Eq.trans (Eq.symm (yM_p (h := h) (a := 92) (n := 20) (i := a.toNat) rfl (by omega))) (Eq.trans (congrFun (congrFun (rfl : yM h = yM h) 92) a.toNat) rfl))
            refine zwW_p [(24, 160, 0)] (q := 160) (ls' := [(2, 37), (0, a), (0, b)]) (st' := [(0, v26)]) (by decide +kernel) rfl ?_
            refine zwW_ret (nx := 161) (a := 0) (b := 0) (by decide +kernel) rfl (Or.inl rfl) ?_
            exact ⟨rfl, by omega, by unfold yHasA; (repeat' (first | rw [if_pos (by omega)] | rw [if_neg (by omega)])); all_goals (first | rfl | omega)⟩
        · have w147 : yM h 91 a.toNat = fld h 91 a.toNat := yM_p (a := 91) (n := 20) rfl (by omega)
          refine zwif_eq (q := 159) (nx := 150) (by decide +kernel) (fun c27 => ?_) (fun c27 => ?_)
          · refine zwW_p [(0, -1, 0)] (q := 160) (ls' := [(2, 37), (0, a), (0, b)]) (st' := [(0, -1)]) (by decide +kernel) rfl ?_
            refine zwW_ret (nx := 161) (a := 0) (b := 0) (by decide +kernel) rfl (Or.inl rfl) ?_
            exact ⟨rfl, by omega, by unfold yHasA; (repeat' (first | rw [if_pos (by omega)] | rw [if_neg (by omega)])); all_goals (first | rfl | omega)⟩
          · exfalso; omega
      show zwW _ _ _ 161 _ _ _ _
      refine zwW_p [(0, -2147483648, 0)] (q := 164) (ls' := [(2, 37), (0, a), (0, b)]) (st' := [(0, -2147483648)]) (by decide +kernel) rfl ?_
      refine zwW_ret (nx := 165) (a := 0) (b := 0) (by decide +kernel) rfl (Or.inl rfl) ?_
      exact ⟨rfl, by omega, by unfold yHasA; (repeat' (first | rw [if_pos (by omega)] | rw [if_neg (by omega)])); all_goals (first | rfl | omega)⟩
    · exfalso; omega
  · refine zwif_ne (q := 12) (nx := 8) (by decide +kernel) (fun c28 => ?_) (fun c28 => ?_)
    · exfalso; omega
    · refine zwW_p [(0, -2147483648, 0)] (q := 11) (ls' := [(2, 37), (0, a), (0, b)]) (st' := [(0, -2147483648)]) (by decide +kernel) rfl ?_
      refine zwW_ret (nx := 12) (a := 0) (b := 0) (by decide +kernel) rfl (Or.inl rfl) ?_
      exact ⟨rfl, by omega, by unfold yHasA; (repeat' (first | rw [if_pos (by omega)] | rw [if_neg (by omega)])); all_goals (first | rfl | omega)⟩
-- WheelLandModel.count(I)I
theorem m88_z {sc : List Int} (h : Hp) (I : zI h) (a : Int) : zwC sc 1 88 [(2, 37), (0, a)] h (zwRt 0 (fun x g => h = g ∧ (-2147483648 ≤ x ∧ x ≤ 2147483647) ∧ (x = yCntA (yM h) a))) := by
  refine zwC_of (D := 0) 2 (by decide +kernel) rfl (ls := [(2, 37), (0, a)]) rfl ?_
  have u0 : yM h 37 0 = fld h 37 0 := rfl
  have u1 : yM h 37 1 = fld h 37 1 := rfl
  have u2 : yM h 37 2 = fld h 37 2 := rfl
  have u38 : yM h 37 38 = fld h 37 38 := rfl
  have u41 : yM h 37 41 = fld h 37 41 := rfl
  have u52 : yM h 37 52 = fld h 37 52 := rfl
  have u64 : yM h 37 64 = fld h 37 64 := rfl
  have u78 : yM h 37 78 = fld h 37 78 := rfl
  have u86 : yM h 37 86 = fld h 37 86 := rfl
  have u96 : yM h 37 96 = fld h 37 96 := rfl
  refine zwW_p [(1, 1, 0)] (q := 1) (ls' := [(2, 37), (0, a)]) (st' := [(0, a)]) (by decide +kernel) rfl ?_
  refine zwW_sw (d := 106) (os := [0, 56, 1, 61, 2, 66, 3, 71, 4, 76, 5, 81, 6, 86, 7, 91, 8, 96, 9, 101]) (by decide +kernel) ?_
  refine ⟨fun c1 => ?_, fun c1 => ?_⟩
  · show zwW _ _ _ 56 _ _ _ _
    refine zwW_p [(1, 0, 2)] (q := 57) (ls' := [(2, 37), (0, a)]) (st' := [(2, 37)]) (by decide +kernel) rfl ?_
    refine zwW_gs I (kd := 13) (bn := 0) (n := 97) (t := 0) (lo := 0) (hi := 156) (nx := 60) (by decide +kernel) ?_
    intro v2 ev2 lv2 uv2
    have sv2 : v2 = (yM h) 37 0 := Eq.trans ev2 (Eq.trans (Eq.symm (yM_s (h := h) (i := 0) rfl)) (Eq.trans (congrFun (congrFun (rfl : yM h = yM h) 37) 0) rfl))
    refine zwW_ret (nx := 61) (a := 0) (b := 0) (by decide +kernel) rfl (Or.inl rfl) ?_
    exact ⟨rfl, by omega, by unfold yCntA; (repeat' (first | rw [if_pos (by omega)] | rw [if_neg (by omega)])); all_goals (first | rfl | omega)⟩
  refine ⟨fun c3 => ?_, fun c3 => ?_⟩
  · show zwW _ _ _ 61 _ _ _ _
    refine zwW_p [(1, 0, 2)] (q := 62) (ls' := [(2, 37), (0, a)]) (st' := [(2, 37)]) (by decide +kernel) rfl ?_
    refine zwW_gs I (kd := 13) (bn := 1) (n := 97) (t := 0) (lo := 0) (hi := 8) (nx := 65) (by decide +kernel) ?_
    intro v4 ev4 lv4 uv4
    have sv4 : v4 = (yM h) 37 1 := Eq.trans ev4 (Eq.trans (Eq.symm (yM_s (h := h) (i := 1) rfl)) (Eq.trans (congrFun (congrFun (rfl : yM h = yM h) 37) 1) rfl))
    refine zwW_ret (nx := 66) (a := 0) (b := 0) (by decide +kernel) rfl (Or.inl rfl) ?_
    exact ⟨rfl, by omega, by unfold yCntA; (repeat' (first | rw [if_pos (by omega)] | rw [if_neg (by omega)])); all_goals (first | rfl | omega)⟩
  refine ⟨fun c5 => ?_, fun c5 => ?_⟩
  · show zwW _ _ _ 66 _ _ _ _
    refine zwW_p [(1, 0, 2)] (q := 67) (ls' := [(2, 37), (0, a)]) (st' := [(2, 37)]) (by decide +kernel) rfl ?_
    refine zwW_gs I (kd := 13) (bn := 2) (n := 97) (t := 0) (lo := 0) (hi := 20) (nx := 70) (by decide +kernel) ?_
    intro v6 ev6 lv6 uv6
    have sv6 : v6 = (yM h) 37 2 := Eq.trans ev6 (Eq.trans (Eq.symm (yM_s (h := h) (i := 2) rfl)) (Eq.trans (congrFun (congrFun (rfl : yM h = yM h) 37) 2) rfl))
    refine zwW_ret (nx := 71) (a := 0) (b := 0) (by decide +kernel) rfl (Or.inl rfl) ?_
    exact ⟨rfl, by omega, by unfold yCntA; (repeat' (first | rw [if_pos (by omega)] | rw [if_neg (by omega)])); all_goals (first | rfl | omega)⟩
  refine ⟨fun c7 => ?_, fun c7 => ?_⟩
  · show zwW _ _ _ 71 _ _ _ _
    refine zwW_p [(1, 0, 2)] (q := 72) (ls' := [(2, 37), (0, a)]) (st' := [(2, 37)]) (by decide +kernel) rfl ?_
    refine zwW_gs I (kd := 13) (bn := 64) (n := 97) (t := 0) (lo := 0) (hi := 300) (nx := 75) (by decide +kernel) ?_
    intro v8 ev8 lv8 uv8
    have sv8 : v8 = (yM h) 37 64 := Eq.trans ev8 (Eq.trans (Eq.symm (yM_s (h := h) (i := 64) rfl)) (Eq.trans (congrFun (congrFun (rfl : yM h = yM h) 37) 64) rfl))
    refine zwW_ret (nx := 76) (a := 0) (b := 0) (by decide +kernel) rfl (Or.inl rfl) ?_
    exact ⟨rfl, by omega, by unfold yCntA; (repeat' (first | rw [if_pos (by omega)] | rw [if_neg (by omega)])); all_goals (first | rfl | omega)⟩
  refine ⟨fun c9 => ?_, fun c9 => ?_⟩
  · show zwW _ _ _ 76 _ _ _ _
    refine zwW_p [(1, 0, 2)] (q := 77) (ls' := [(2, 37), (0, a)]) (st' := [(2, 37)]) (by decide +kernel) rfl ?_
    refine zwW_gs I (kd := 13) (bn := 52) (n := 97) (t := 0) (lo := 0) (hi := 8) (nx := 80) (by decide +kernel) ?_
    intro v10 ev10 lv10 uv10
    have sv10 : v10 = (yM h) 37 52 := Eq.trans ev10 (Eq.trans (Eq.symm (yM_s (h := h) (i := 52) rfl)) (Eq.trans (congrFun (congrFun (rfl : yM h = yM h) 37) 52) rfl))
    refine zwW_ret (nx := 81) (a := 0) (b := 0) (by decide +kernel) rfl (Or.inl rfl) ?_
    exact ⟨rfl, by omega, by unfold yCntA; (repeat' (first | rw [if_pos (by omega)] | rw [if_neg (by omega)])); all_goals (first | rfl | omega)⟩
  refine ⟨fun c11 => ?_, fun c11 => ?_⟩
  · show zwW _ _ _ 81 _ _ _ _
    refine zwW_p [(1, 0, 2)] (q := 82) (ls' := [(2, 37), (0, a)]) (st' := [(2, 37)]) (by decide +kernel) rfl ?_
    refine zwW_gs I (kd := 13) (bn := 78) (n := 97) (t := 0) (lo := 0) (hi := 200) (nx := 85) (by decide +kernel) ?_
    intro v12 ev12 lv12 uv12
    have sv12 : v12 = (yM h) 37 78 := Eq.trans ev12 (Eq.trans (Eq.symm (yM_s (h := h) (i := 78) rfl)) (Eq.trans (congrFun (congrFun (rfl : yM h = yM h) 37) 78) rfl))
    refine zwW_ret (nx := 86) (a := 0) (b := 0) (by decide +kernel) rfl (Or.inl rfl) ?_
    exact ⟨rfl, by omega, by unfold yCntA; (repeat' (first | rw [if_pos (by omega)] | rw [if_neg (by omega)])); all_goals (first | rfl | omega)⟩
  refine ⟨fun c13 => ?_, fun c13 => ?_⟩
  · show zwW _ _ _ 86 _ _ _ _
    refine zwW_p [(1, 0, 2)] (q := 87) (ls' := [(2, 37), (0, a)]) (st' := [(2, 37)]) (by decide +kernel) rfl ?_
    refine zwW_gs I (kd := 13) (bn := 41) (n := 97) (t := 0) (lo := 0) (hi := 400) (nx := 90) (by decide +kernel) ?_
    intro v14 ev14 lv14 uv14
    have sv14 : v14 = (yM h) 37 41 := Eq.trans ev14 (Eq.trans (Eq.symm (yM_s (h := h) (i := 41) rfl)) (Eq.trans (congrFun (congrFun (rfl : yM h = yM h) 37) 41) rfl))
    refine zwW_ret (nx := 91) (a := 0) (b := 0) (by decide +kernel) rfl (Or.inl rfl) ?_
    exact ⟨rfl, by omega, by unfold yCntA; (repeat' (first | rw [if_pos (by omega)] | rw [if_neg (by omega)])); all_goals (first | rfl | omega)⟩
  refine ⟨fun c15 => ?_, fun c15 => ?_⟩
  · show zwW _ _ _ 91 _ _ _ _
    refine zwW_p [(1, 0, 2)] (q := 92) (ls' := [(2, 37), (0, a)]) (st' := [(2, 37)]) (by decide +kernel) rfl ?_
    refine zwW_gs I (kd := 13) (bn := 86) (n := 97) (t := 0) (lo := 0) (hi := 6) (nx := 95) (by decide +kernel) ?_
    intro v16 ev16 lv16 uv16
    have sv16 : v16 = (yM h) 37 86 := Eq.trans ev16 (Eq.trans (Eq.symm (yM_s (h := h) (i := 86) rfl)) (Eq.trans (congrFun (congrFun (rfl : yM h = yM h) 37) 86) rfl))
    refine zwW_ret (nx := 96) (a := 0) (b := 0) (by decide +kernel) rfl (Or.inl rfl) ?_
    exact ⟨rfl, by omega, by unfold yCntA; (repeat' (first | rw [if_pos (by omega)] | rw [if_neg (by omega)])); all_goals (first | rfl | omega)⟩
  refine ⟨fun c17 => ?_, fun c17 => ?_⟩
  · show zwW _ _ _ 96 _ _ _ _
    refine zwW_p [(1, 0, 2)] (q := 97) (ls' := [(2, 37), (0, a)]) (st' := [(2, 37)]) (by decide +kernel) rfl ?_
    refine zwW_gs I (kd := 13) (bn := 96) (n := 97) (t := 0) (lo := 0) (hi := 8) (nx := 100) (by decide +kernel) ?_
    intro v18 ev18 lv18 uv18
    have sv18 : v18 = (yM h) 37 96 := Eq.trans ev18 (Eq.trans (Eq.symm (yM_s (h := h) (i := 96) rfl)) (Eq.trans (congrFun (congrFun (rfl : yM h = yM h) 37) 96) rfl))
    refine zwW_ret (nx := 101) (a := 0) (b := 0) (by decide +kernel) rfl (Or.inl rfl) ?_
    exact ⟨rfl, by omega, by unfold yCntA; (repeat' (first | rw [if_pos (by omega)] | rw [if_neg (by omega)])); all_goals (first | rfl | omega)⟩
  refine ⟨fun c19 => ?_, fun c19 => ?_⟩
  · show zwW _ _ _ 101 _ _ _ _
    refine zwW_p [(1, 0, 2)] (q := 102) (ls' := [(2, 37), (0, a)]) (st' := [(2, 37)]) (by decide +kernel) rfl ?_
    refine zwW_gs I (kd := 13) (bn := 38) (n := 97) (t := 0) (lo := -2147483648) (hi := 2147483647) (nx := 105) (by decide +kernel) ?_
    intro v20 ev20 lv20 uv20
    have sv20 : v20 = (yM h) 37 38 := Eq.trans ev20 (Eq.trans (Eq.symm (yM_s (h := h) (i := 38) rfl)) (Eq.trans (congrFun (congrFun (rfl : yM h = yM h) 37) 38) rfl))
    refine zwW_ret (nx := 106) (a := 0) (b := 0) (by decide +kernel) rfl (Or.inl rfl) ?_
    exact ⟨rfl, by omega, by unfold yCntA; (repeat' (first | rw [if_pos (by omega)] | rw [if_neg (by omega)])); all_goals (first | rfl | omega)⟩
  show zwW _ _ _ 106 _ _ _ _
  refine zwW_p [(0, -1, 0)] (q := 107) (ls' := [(2, 37), (0, a)]) (st' := [(0, -1)]) (by decide +kernel) rfl ?_
  refine zwW_ret (nx := 108) (a := 0) (b := 0) (by decide +kernel) rfl (Or.inl rfl) ?_
  exact ⟨rfl, by omega, by unfold yCntA; (repeat' (first | rw [if_pos (by omega)] | rw [if_neg (by omega)])); all_goals (first | rfl | omega)⟩
-- WheelLandModel.told(II)I
theorem m80_z {sc : List Int} (h : Hp) (I : zI h) (a b : Int) : zwC sc 2 80 [(2, 37), (0, a), (0, b)] h (zwRt 0 (fun x g => h = g ∧ (-2147483648 ≤ x ∧ x ≤ 2147483647) ∧ (x = yToldA (yM h) a b))) := by
  refine zwC_of (D := 1) 3 (by decide +kernel) rfl (ls := [(2, 37), (0, a), (0, b)]) rfl ?_
  have u0 : yM h 37 0 = fld h 37 0 := rfl
  have u1 : yM h 37 1 = fld h 37 1 := rfl
  have u2 : yM h 37 2 = fld h 37 2 := rfl
  have u64 : yM h 37 64 = fld h 37 64 := rfl
  have u78 : yM h 37 78 = fld h 37 78 := rfl
  refine zwW_p [(1, 1, 0), (7, 0, 0), (0, 0, 1), (1, 0, 2)] (q := 4) (ls' := [(2, 37), (0, a), (0, b)]) (st' := [(2, 37), (1, 0), (1, a)]) (by decide +kernel) rfl ?_
  refine zwW_gs I (kd := 13) (bn := 0) (n := 97) (t := 0) (lo := 0) (hi := 156) (nx := 7) (by decide +kernel) ?_
  intro v1 ev1 lv1 uv1
  have sv1 : v1 = (yM h) 37 0 := Eq.trans ev1 (Eq.trans (Eq.symm (yM_s (h := h) (i := 0) rfl)) (Eq.trans (congrFun (congrFun (rfl : yM h = yM h) 37) 0) rfl))
  refine zwW_p [(0, 1, 0)] (q := 8) (ls' := [(2, 37), (0, a), (0, b)]) (st' := [(0, 1), (0, v1), (1, 0), (1, a)]) (by decide +kernel) rfl ?_
  refine zwW_sub (nx := 9) (by decide +kernel) ⟨by omega, by omega⟩ ?_
  refine zwW_p [(7, 0, 0)] (q := 10) (ls' := [(2, 37), (0, a), (0, b)]) (st' := [(1, (v1 - 1)), (1, 0), (1, a)]) (by decide +kernel) rfl ?_
  refine zwW_cs (k' := 101) (n := 3) (nx := 13) (as := [(1, a), (1, 0), (1, (v1 - 1))]) (st' := []) (by decide +kernel) rfl (m101 h a 0 (v1 - 1)) rfl ?_
  rintro x _ ⟨rfl, ⟨rfl, c2⟩ | ⟨rfl, c2⟩⟩
  · refine zwif_eq (q := 39) (nx := 16) (by decide +kernel) (fun c3 => ?_) (fun c3 => ?_)
    · exfalso; omega
    · refine zwW_p [(1, 2, 0), (7, 0, 0), (0, 0, 1), (0, 5, 1)] (q := 22) (ls' := [(2, 37), (0, a), (0, b)]) (st' := [(1, 5), (1, 0), (1, b)]) (by decide +kernel) rfl ?_
      refine zwW_cs (k' := 101) (n := 3) (nx := 25) (as := [(1, b), (1, 0), (1, 5)]) (st' := []) (by decide +kernel) rfl (m101 h b 0 5) rfl ?_
      rintro x _ ⟨rfl, ⟨rfl, c4⟩ | ⟨rfl, c4⟩⟩
      · refine zwif_eq (q := 39) (nx := 28) (by decide +kernel) (fun c5 => ?_) (fun c5 => ?_)
        · exfalso; omega
        · refine zwW_p [(1, 0, 2)] (q := 29) (ls' := [(2, 37), (0, a), (0, b)]) (st' := [(2, 37)]) (by decide +kernel) rfl ?_
          refine zwW_gc I (kd := 13) (bn := 91) (n := 97) (c := 205) (nx := 32) (by decide +kernel) ?_
          refine zwW_p [(1, 1, 0)] (q := 33) (ls' := [(2, 37), (0, a), (0, b)]) (st' := [(0, a), (2, 205)]) (by decide +kernel) rfl ?_
          refine zwW_ro I (a := 205) (n := 156) (kd := 26) (base := 206) (step := 1) (nx := 34) (by decide +kernel) rfl ⟨by omega, by omega⟩ ?_
          rw [show ((206 : Nat) : Int) + ((1 : Nat) : Int) * a = (206 + a) by omega]
          refine zwW_p [(1, 2, 0)] (q := 35) (ls' := [(2, 37), (0, a), (0, b)]) (st' := [(0, b), (2, (206 + a))]) (by decide +kernel) rfl ?_
          refine zwW_al I (a1 := 206) (a2 := 361) (kd := 20) (n := 6) (t := 0) (lo := -2147483648) (hi := 2147483647) (nx := 36) (by decide +kernel) ⟨by omega, by omega⟩ ⟨by omega, by omega⟩ ?_
          intro v6 ev6 lv6 uv6
          have sv6 : v6 = (yM h) 206 (6 * a.toNat + b.toNat) := Eq.trans (show v6 = yM h 206 (6 * a.toNat + b.toNat) by rw [yM_2 (a := 206) (w := 6) (v := a.toNat) (j := b.toNat) rfl (by omega) (by show _ < 936; omega), ev6]; congr 1; omega) (Eq.trans (congrFun (congrFun (rfl : yM h = yM h) 206) (6 * a.toNat + b.toNat)) rfl)
          refine zwW_p [(24, 40, 0)] (q := 40) (ls' := [(2, 37), (0, a), (0, b)]) (st' := [(0, v6)]) (by decide +kernel) rfl ?_
          refine zwW_ret (nx := 41) (a := 0) (b := 0) (by decide +kernel) rfl (Or.inl rfl) ?_
          exact ⟨rfl, by omega, by unfold yToldA; (repeat' (first | rw [if_pos (by omega)] | rw [if_neg (by omega)])); all_goals (first | rfl | omega)⟩
      · refine zwif_eq (q := 39) (nx := 28) (by decide +kernel) (fun c7 => ?_) (fun c7 => ?_)
        · refine zwW_p [(0, -1, 0)] (q := 40) (ls' := [(2, 37), (0, a), (0, b)]) (st' := [(0, -1)]) (by decide +kernel) rfl ?_
          refine zwW_ret (nx := 41) (a := 0) (b := 0) (by decide +kernel) rfl (Or.inl rfl) ?_
          exact ⟨rfl, by omega, by unfold yToldA; (repeat' (first | rw [if_pos (by omega)] | rw [if_neg (by omega)])); all_goals (first | rfl | omega)⟩
        · exfalso; omega
  · refine zwif_eq (q := 39) (nx := 16) (by decide +kernel) (fun c8 => ?_) (fun c8 => ?_)
    · refine zwW_p [(0, -1, 0)] (q := 40) (ls' := [(2, 37), (0, a), (0, b)]) (st' := [(0, -1)]) (by decide +kernel) rfl ?_
      refine zwW_ret (nx := 41) (a := 0) (b := 0) (by decide +kernel) rfl (Or.inl rfl) ?_
      exact ⟨rfl, by omega, by unfold yToldA; (repeat' (first | rw [if_pos (by omega)] | rw [if_neg (by omega)])); all_goals (first | rfl | omega)⟩
    · exfalso; omega
-- WheelLandModel.falseOf(IZ)I
theorem m160_z {sc : List Int} (h : Hp) (I : zI h) (a b : Int) (p1 : 0 ≤ a) (p2 : a ≤ 7) : zwC sc 2 160 [(2, 37), (0, a), (0, b)] h (zwRt 0 (fun x g => h = g ∧ (-2147483648 ≤ x ∧ x ≤ 2147483647) ∧ (x = yFls (yM h) a.toNat b))) := by
  refine zwC_of (D := 1) 3 (by decide +kernel) rfl (ls := [(2, 37), (0, a), (0, b)]) rfl ?_
  have u0 : yM h 37 0 = fld h 37 0 := rfl
  have u1 : yM h 37 1 = fld h 37 1 := rfl
  have u2 : yM h 37 2 = fld h 37 2 := rfl
  have u64 : yM h 37 64 = fld h 37 64 := rfl
  have u78 : yM h 37 78 = fld h 37 78 := rfl
  refine zwW_p [(1, 0, 2)] (q := 1) (ls' := [(2, 37), (0, a), (0, b)]) (st' := [(2, 37)]) (by decide +kernel) rfl ?_
  refine zwW_gc I (kd := 13) (bn := 15) (n := 97) (c := 74) (nx := 4) (by decide +kernel) ?_
  refine zwW_p [(1, 1, 0)] (q := 5) (ls' := [(2, 37), (0, a), (0, b)]) (st' := [(0, a), (2, 74)]) (by decide +kernel) rfl ?_
  refine zwW_al I (a1 := 74) (a2 := 74) (kd := 20) (n := 8) (t := 0) (lo := 0) (hi := 9999) (nx := 6) (by decide +kernel) ⟨by decide, by decide⟩ ⟨by omega, by omega⟩ ?_
  intro v1 ev1 lv1 uv1
  have sv1 : v1 = (yM h) 74 a.toNat := Eq.trans ev1 (Eq.trans (Eq.symm (yM_p (h := h) (a := 74) (n := 8) (i := a.toNat) rfl (by omega))) (Eq.trans (congrFun (congrFun (rfl : yM h = yM h) 74) a.toNat) rfl))
  refine zwW_p [(1, 2, 0)] (q := 7) (ls' := [(2, 37), (0, a), (0, b)]) (st' := [(0, b), (0, v1)]) (by decide +kernel) rfl ?_
  refine zwif_eq (q := 19) (nx := 10) (by decide +kernel) (fun c2 => ?_) (fun c2 => ?_)
  · refine zwW_p [(1, 0, 2)] (q := 20) (ls' := [(2, 37), (0, a), (0, b)]) (st' := [(2, 37), (0, v1)]) (by decide +kernel) rfl ?_
    refine zwW_gc I (kd := 13) (bn := 16) (n := 97) (c := 75) (nx := 23) (by decide +kernel) ?_
    refine zwW_p [(1, 1, 0)] (q := 24) (ls' := [(2, 37), (0, a), (0, b)]) (st' := [(0, a), (2, 75), (0, v1)]) (by decide +kernel) rfl ?_
    refine zwW_al I (a1 := 75) (a2 := 75) (kd := 20) (n := 8) (t := 0) (lo := -2147483648) (hi := 2147483647) (nx := 25) (by decide +kernel) ⟨by decide, by decide⟩ ⟨by omega, by omega⟩ ?_
    intro v3 ev3 lv3 uv3
    have sv3 : v3 = (yM h) 75 a.toNat := Eq.trans ev3 (Eq.trans (Eq.symm (yM_p (h := h) (a := 75) (n := 8) (i := a.toNat) rfl (by omega))) (Eq.trans (congrFun (congrFun (rfl : yM h = yM h) 75) a.toNat) rfl))
    refine zwW_sbw (nx := 26) (by decide +kernel) ?_
    intro v4 ev4 lv4 uv4
    have Ev4 : v4 = w32 (((yM h) 74 a.toNat) - ((yM h) 75 a.toNat)) := by rw [ev4, sv1, sv3]
    refine zwW_cs (k' := 129) (n := 1) (nx := 29) (as := [(0, v4)]) (st' := []) (by decide +kernel) rfl (m129 h v4 (by omega)) rfl ?_
    rintro v5 _ ⟨rfl, f6, f7, f8⟩
    refine zwW_ret (nx := 30) (a := 0) (b := 0) (by decide +kernel) rfl (Or.inl rfl) ?_
    exact ⟨rfl, by omega, by unfold yFls; (repeat' (first | rw [if_pos (by omega)] | rw [if_neg (by omega)])); all_goals (first | rfl | omega)⟩
  · refine zwW_p [(1, 0, 2)] (q := 11) (ls' := [(2, 37), (0, a), (0, b)]) (st' := [(2, 37), (0, v1)]) (by decide +kernel) rfl ?_
    refine zwW_gc I (kd := 13) (bn := 17) (n := 97) (c := 76) (nx := 14) (by decide +kernel) ?_
    refine zwW_p [(1, 1, 0)] (q := 15) (ls' := [(2, 37), (0, a), (0, b)]) (st' := [(0, a), (2, 76), (0, v1)]) (by decide +kernel) rfl ?_
    refine zwW_al I (a1 := 76) (a2 := 76) (kd := 20) (n := 8) (t := 0) (lo := -2147483648) (hi := 2147483647) (nx := 16) (by decide +kernel) ⟨by decide, by decide⟩ ⟨by omega, by omega⟩ ?_
    intro v9 ev9 lv9 uv9
    have sv9 : v9 = (yM h) 76 a.toNat := Eq.trans ev9 (Eq.trans (Eq.symm (yM_p (h := h) (a := 76) (n := 8) (i := a.toNat) rfl (by omega))) (Eq.trans (congrFun (congrFun (rfl : yM h = yM h) 76) a.toNat) rfl))
    refine zwW_p [(24, 25, 0)] (q := 25) (ls' := [(2, 37), (0, a), (0, b)]) (st' := [(0, v9), (0, v1)]) (by decide +kernel) rfl ?_
    refine zwW_sbw (nx := 26) (by decide +kernel) ?_
    intro v10 ev10 lv10 uv10
    have Ev10 : v10 = w32 (((yM h) 74 a.toNat) - ((yM h) 76 a.toNat)) := by rw [ev10, sv1, sv9]
    refine zwW_cs (k' := 129) (n := 1) (nx := 29) (as := [(0, v10)]) (st' := []) (by decide +kernel) rfl (m129 h v10 (by omega)) rfl ?_
    rintro v11 _ ⟨rfl, f12, f13, f14⟩
    refine zwW_ret (nx := 30) (a := 0) (b := 0) (by decide +kernel) rfl (Or.inl rfl) ?_
    exact ⟨rfl, by omega, by unfold yFls; (repeat' (first | rw [if_pos (by omega)] | rw [if_neg (by omega)])); all_goals (first | rfl | omega)⟩
-- WheelLandModel.wrong(IZ)I
theorem m66_z {sc : List Int} (h : Hp) (I : zI h) (a b : Int) : zwC sc 3 66 [(2, 37), (0, a), (0, b)] h (zwRt 0 (fun x g => h = g ∧ (-2147483648 ≤ x ∧ x ≤ 2147483647) ∧ (x = yWrngA (yM h) a b))) := by
  refine zwC_of (D := 2) 3 (by decide +kernel) rfl (ls := [(2, 37), (0, a), (0, b)]) rfl ?_
  have u0 : yM h 37 0 = fld h 37 0 := rfl
  have u1 : yM h 37 1 = fld h 37 1 := rfl
  have u2 : yM h 37 2 = fld h 37 2 := rfl
  have u64 : yM h 37 64 = fld h 37 64 := rfl
  have u78 : yM h 37 78 = fld h 37 78 := rfl
  refine zwW_p [(1, 0, 2), (1, 1, 0)] (q := 2) (ls' := [(2, 37), (0, a), (0, b)]) (st' := [(0, a), (2, 37)]) (by decide +kernel) rfl ?_
  refine zwW_cm I (op := 60) (k' := 104) (n := 1) (kd := 13) (m := 97) (nx := 5) (r := 37) (tl := [(0, a)]) (st' := []) (by decide +kernel) rfl (by decide +kernel) rfl (m104 h I a) ?_
  rintro x _ ⟨rfl, ⟨rfl, c1⟩ | ⟨rfl, c1⟩⟩
  · refine zwif_eq (q := 17) (nx := 8) (by decide +kernel) (fun c2 => ?_) (fun c2 => ?_)
    · exfalso; omega
    · refine zwW_p [(1, 0, 2), (1, 1, 0), (1, 2, 0)] (q := 11) (ls' := [(2, 37), (0, a), (0, b)]) (st' := [(0, b), (0, a), (2, 37)]) (by decide +kernel) rfl ?_
      refine zwW_cm I (op := 60) (k' := 160) (n := 2) (kd := 13) (m := 97) (nx := 14) (r := 37) (tl := [(0, a), (0, b)]) (st' := []) (by decide +kernel) rfl (by decide +kernel) rfl (m160_z h I a b (by omega) (by omega)) ?_
      rintro v3 _ ⟨rfl, f4, f5⟩
      have sv3 : v3 = yFls (yM h) a.toNat b := by rw [f5]
      refine zwW_p [(24, 18, 0)] (q := 18) (ls' := [(2, 37), (0, a), (0, b)]) (st' := [(0, v3)]) (by decide +kernel) rfl ?_
      refine zwW_ret (nx := 19) (a := 0) (b := 0) (by decide +kernel) rfl (Or.inl rfl) ?_
      exact ⟨rfl, by omega, by unfold yWrngA; (repeat' (first | rw [if_pos (by omega)] | rw [if_neg (by omega)])); all_goals (first | rfl | omega)⟩
  · refine zwif_eq (q := 17) (nx := 8) (by decide +kernel) (fun c6 => ?_) (fun c6 => ?_)
    · refine zwW_p [(0, -1, 0)] (q := 18) (ls' := [(2, 37), (0, a), (0, b)]) (st' := [(0, -1)]) (by decide +kernel) rfl ?_
      refine zwW_ret (nx := 19) (a := 0) (b := 0) (by decide +kernel) rfl (Or.inl rfl) ?_
      exact ⟨rfl, by omega, by unfold yWrngA; (repeat' (first | rw [if_pos (by omega)] | rw [if_neg (by omega)])); all_goals (first | rfl | omega)⟩
    · exfalso; omega
-- WheelLandModel.look()I
theorem m68_z {sc : List Int} (h : Hp) (I : zI h) : zwC sc 3 68 [(2, 37)] h (zwRt 0 (fun x g => h = g ∧ (-2147483648 ≤ x ∧ x ≤ 2147483647) ∧ (x = yLookA (yM h)))) := by
  refine zwC_of (D := 2) 5 (by decide +kernel) rfl (ls := [(2, 37), (9, 0), (9, 0), (9, 0), (9, 0)]) rfl ?_
  have u0 : yM h 37 0 = fld h 37 0 := rfl
  have u1 : yM h 37 1 = fld h 37 1 := rfl
  have u2 : yM h 37 2 = fld h 37 2 := rfl
  have u64 : yM h 37 64 = fld h 37 64 := rfl
  have u78 : yM h 37 78 = fld h 37 78 := rfl
  have N1 := I.b (a1 := 37) (a2 := 37) (j1 := 1) (j2 := 2) (lo := 0) (hi := 8) (by decide +kernel) (r := 37) (j := 1) (by decide) (by decide) (by decide) (by decide)
  refine zwW_p [(0, -1, 0), (2, 1, 0), (0, 0, 0), (2, 2, 0), (0, 0, 0), (2, 3, 0)] (q := 6) (ls' := [(2, 37), (0, -1), (0, 0), (0, 0), (9, 0)]) (st' := []) (by decide +kernel) rfl ?_
  have L1 : ∀ (n0 : Nat) (zL1 mL1 vL1 : Int) (w4L1 : Vl), n0 = ((100 - vL1)).toNat → (0 ≤ vL1 ∧ vL1 ≤ fld h 37 1) → (-1 ≤ zL1 ∧ zL1 ≤ 8) → (zL1 = (yLk (yM h) (vL1).toNat).1) → (mL1 = (yLk (yM h) (vL1).toNat).2) → zwW sc (2) 68 6 [(2, 37), (0, zL1), (0, mL1), (0, vL1), w4L1] [] h (zwRt 0 (fun x g => h = g ∧ (-2147483648 ≤ x ∧ x ≤ 2147483647) ∧ (x = yLookA (yM h)))) := by
    intro n0
    induction n0 using Nat.strongRecOn with
    | ind n0 IHL1 =>
      intro zL1 mL1 vL1 w4L1 hnL1 iL1_0 iL1_1 iL1_2 iL1_3
      refine zwW_p [(1, 3, 0), (1, 0, 2)] (q := 8) (ls' := [(2, 37), (0, zL1), (0, mL1), (0, vL1), w4L1]) (st' := [(2, 37), (0, vL1)]) (by decide +kernel) rfl ?_
      refine zwW_gs I (kd := 13) (bn := 1) (n := 97) (t := 0) (lo := 0) (hi := 8) (nx := 11) (by decide +kernel) ?_
      intro v2 ev2 lv2 uv2
      have sv2 : v2 = (yM h) 37 1 := Eq.trans ev2 (Eq.trans (Eq.symm (yM_s (h := h) (i := 1) rfl)) (Eq.trans (congrFun (congrFun (rfl : yM h = yM h) 37) 1) rfl))
      refine zwic_ge (q := 49) (nx := 14) (by decide +kernel) (fun c3 => ?_) (fun c3 => ?_)
      · refine zwW_p [(1, 1, 0)] (q := 50) (ls' := [(2, 37), (0, zL1), (0, mL1), (0, vL1), w4L1]) (st' := [(0, zL1)]) (by decide +kernel) rfl ?_
        refine zwW_ret (nx := 51) (a := 0) (b := 0) (by decide +kernel) rfl (Or.inl rfl) ?_
        exact ⟨rfl, by omega, by unfold yLookA; rw [show (yM h 37 1).toNat = (vL1).toNat by omega]; exact iL1_2⟩
      · refine zwW_p [(1, 0, 2), (1, 3, 0), (0, 1, 0)] (q := 17) (ls' := [(2, 37), (0, zL1), (0, mL1), (0, vL1), w4L1]) (st' := [(0, 1), (0, vL1), (2, 37)]) (by decide +kernel) rfl ?_
        refine zwW_cm I (op := 60) (k' := 160) (n := 2) (kd := 13) (m := 97) (nx := 20) (r := 37) (tl := [(0, vL1), (0, 1)]) (st' := []) (by decide +kernel) rfl (by decide +kernel) rfl (m160_z h I vL1 1 (by omega) (by omega)) ?_
        rintro v4 _ ⟨rfl, f5, f6⟩
        have sv4 : v4 = yFls (yM h) vL1.toNat 1 := by rw [f6]
        refine zwW_p [(1, 0, 2), (1, 3, 0), (0, 0, 0)] (q := 23) (ls' := [(2, 37), (0, zL1), (0, mL1), (0, vL1), w4L1]) (st' := [(0, 0), (0, vL1), (2, 37), (0, v4)]) (by decide +kernel) rfl ?_
        refine zwW_cm I (op := 60) (k' := 160) (n := 2) (kd := 13) (m := 97) (nx := 26) (r := 37) (tl := [(0, vL1), (0, 0)]) (st' := [(0, v4)]) (by decide +kernel) rfl (by decide +kernel) rfl (m160_z h I vL1 0 (by omega) (by omega)) ?_
        rintro v7 _ ⟨rfl, f8, f9⟩
        have sv7 : v7 = yFls (yM h) vL1.toNat 0 := by rw [f9]
        refine zwW_sbw (nx := 27) (by decide +kernel) ?_
        intro v10 ev10 lv10 uv10
        have Ev10 : v10 = w32 ((yFls (yM h) vL1.toNat 1) - (yFls (yM h) vL1.toNat 0)) := by rw [ev10, sv4, sv7]
        refine zwW_p [(2, 4, 0), (1, 4, 0), (1, 2, 0)] (q := 32) (ls' := [(2, 37), (0, zL1), (0, mL1), (0, vL1), (0, v10)]) (st' := [(0, mL1), (0, v10)]) (by decide +kernel) rfl ?_
        refine zwic_gt (q := 38) (nx := 35) (by decide +kernel) (fun c11 => ?_) (fun c11 => ?_)
        · refine zwW_p [(1, 4, 0), (2, 2, 0), (1, 3, 0), (2, 1, 0)] (q := 43) (ls' := [(2, 37), (0, vL1), (0, v10), (0, vL1), (0, v10)]) (st' := []) (by decide +kernel) rfl ?_
          refine zwW_inc (i := 3) (c := 1) (x := vL1) (nx := 46) (by decide +kernel) rfl ⟨by omega, by omega⟩ (ls' := [(2, 37), (0, vL1), (0, v10), (0, (vL1 + 1)), (0, v10)]) rfl ?_
          refine zwW_p [(24, 6, 0)] (q := 6) (ls' := [(2, 37), (0, vL1), (0, v10), (0, (vL1 + 1)), (0, v10)]) (st' := []) (by decide +kernel) rfl ?_
          exact IHL1 ((100 - (vL1 + 1))).toNat (by omega) vL1 v10 (vL1 + 1) (0, v10) rfl (by omega) (by omega) (by rw [show (vL1 + 1).toNat = (vL1).toNat + 1 by omega]; unfold yLk; first | (rw [if_pos (by unfold yGap; omega)]; show _ = (((vL1).toNat : Nat) : Int); omega) | (rw [if_neg (by unfold yGap; omega)]; exact iL1_2)) (by rw [show (vL1 + 1).toNat = (vL1).toNat + 1 by omega]; unfold yLk; first | (rw [if_pos (by unfold yGap; omega)]; show _ = yGap _ _; unfold yGap; omega) | (rw [if_neg (by unfold yGap; omega)]; exact iL1_3))
        · refine zwW_p [(24, 43, 0)] (q := 43) (ls' := [(2, 37), (0, zL1), (0, mL1), (0, vL1), (0, v10)]) (st' := []) (by decide +kernel) rfl ?_
          refine zwW_inc (i := 3) (c := 1) (x := vL1) (nx := 46) (by decide +kernel) rfl ⟨by omega, by omega⟩ (ls' := [(2, 37), (0, zL1), (0, mL1), (0, (vL1 + 1)), (0, v10)]) rfl ?_
          refine zwW_p [(24, 6, 0)] (q := 6) (ls' := [(2, 37), (0, zL1), (0, mL1), (0, (vL1 + 1)), (0, v10)]) (st' := []) (by decide +kernel) rfl ?_
          exact IHL1 ((100 - (vL1 + 1))).toNat (by omega) zL1 mL1 (vL1 + 1) (0, v10) rfl (by omega) (by omega) (by rw [show (vL1 + 1).toNat = (vL1).toNat + 1 by omega]; unfold yLk; first | (rw [if_pos (by unfold yGap; omega)]; show _ = (((vL1).toNat : Nat) : Int); omega) | (rw [if_neg (by unfold yGap; omega)]; exact iL1_2)) (by rw [show (vL1 + 1).toNat = (vL1).toNat + 1 by omega]; unfold yLk; first | (rw [if_pos (by unfold yGap; omega)]; show _ = yGap _ _; unfold yGap; omega) | (rw [if_neg (by unfold yGap; omega)]; exact iL1_3))
  exact L1 _ (-1) 0 0 (9, 0) rfl (by omega) (by omega) (rfl) (rfl)
-- WheelLandModel.loom(III)Z
theorem m12_z {sc : List Int} (h : Hp) (I : zI h) (a b c : Int) (q_b : -2147483648 ≤ b ∧ b ≤ 2147483647) : zwC sc 3 12 [(2, 37), (0, a), (0, b), (0, c)] h (zwRt 0 (fun x g => zI g ∧ zMR ms12 h g ∧ (-2147483648 ≤ x ∧ x ≤ 2147483647) ∧ (x = yLoomA (yM h) a b c) ∧ (yM g = yLoom (yM h) a b c))) := by
  refine zwC_of (D := 2) 4 (by decide +kernel) rfl (ls := [(2, 37), (0, a), (0, b), (0, c)]) rfl ?_
  have R : zMR ms12 h h := zMR.rf _ _
  have u0 : yM h 37 0 = fld h 37 0 := rfl
  have u1 : yM h 37 1 = fld h 37 1 := rfl
  have u2 : yM h 37 2 = fld h 37 2 := rfl
  have u64 : yM h 37 64 = fld h 37 64 := rfl
  have u78 : yM h 37 78 = fld h 37 78 := rfl
  refine zwW_p [(1, 0, 2), (1, 1, 0)] (q := 2) (ls' := [(2, 37), (0, a), (0, b), (0, c)]) (st' := [(0, a), (2, 37)]) (by decide +kernel) rfl ?_
  refine zwW_cm I (op := 60) (k' := 111) (n := 1) (kd := 13) (m := 97) (nx := 5) (r := 37) (tl := [(0, a)]) (st' := []) (by decide +kernel) rfl (by decide +kernel) rfl (m111 h I a) ?_
  rintro x _ ⟨rfl, ⟨rfl, c1⟩ | ⟨rfl, c1⟩⟩
  · refine zwif_eq (q := 68) (nx := 8) (by decide +kernel) (fun c2 => ?_) (fun c2 => ?_)
    · exfalso; omega
    · refine zwW_p [(1, 0, 2), (1, 1, 0)] (q := 10) (ls' := [(2, 37), (0, a), (0, b), (0, c)]) (st' := [(0, a), (2, 37)]) (by decide +kernel) rfl ?_
      refine zwW_cm I (op := 60) (k' := 112) (n := 1) (kd := 13) (m := 97) (nx := 13) (r := 37) (tl := [(0, a)]) (st' := []) (by decide +kernel) rfl (by decide +kernel) rfl (m112 h I a (by omega) (by omega)) ?_
      rintro x _ ⟨rfl, ⟨rfl, c3⟩ | ⟨rfl, c3⟩⟩
      · refine zwif_ne (q := 68) (nx := 16) (by decide +kernel) (fun c4 => ?_) (fun c4 => ?_)
        · refine zwW_p [(0, 0, 0)] (q := 69) (ls' := [(2, 37), (0, a), (0, b), (0, c)]) (st' := [(0, 0)]) (by decide +kernel) rfl ?_
          refine zwW_ret (nx := 70) (a := 1) (b := 0) (by decide +kernel) rfl (Or.inr (Or.inl ⟨rfl, by omega⟩)) ?_
          exact ⟨I, R, by omega, by unfold yLoomA; (try rw [show yM h 91 a.toNat = fld h 91 a.toNat from yM_p (a := 91) (n := 20) rfl (by omega)]); (repeat' (first | rw [if_pos (by omega)] | rw [if_neg (by omega)])); all_goals (first | rfl | omega), by refine Eq.trans (rfl : yM h = yM h) ?_; unfold yLoom; (first | rw [show yM h 91 a.toNat = fld h 91 a.toNat from yM_p (a := 91) (n := 20) rfl (by omega)] | skip); (repeat' (first | rw [if_pos (by omega)] | rw [if_neg (by omega)])); all_goals (repeat' (first | rfl | omega | apply zs_cg))⟩
        · exfalso; omega
      · refine zwif_ne (q := 68) (nx := 16) (by decide +kernel) (fun c5 => ?_) (fun c5 => ?_)
        · exfalso; omega
        · refine zwW_p [(1, 2, 0)] (q := 17) (ls' := [(2, 37), (0, a), (0, b), (0, c)]) (st' := [(0, b)]) (by decide +kernel) rfl ?_
          refine zwif_lt (q := 68) (nx := 20) (by decide +kernel) (fun c6 => ?_) (fun c6 => ?_)
          · refine zwW_p [(0, 0, 0)] (q := 69) (ls' := [(2, 37), (0, a), (0, b), (0, c)]) (st' := [(0, 0)]) (by decide +kernel) rfl ?_
            refine zwW_ret (nx := 70) (a := 1) (b := 0) (by decide +kernel) rfl (Or.inr (Or.inl ⟨rfl, by omega⟩)) ?_
            exact ⟨I, R, by omega, by unfold yLoomA; (try rw [show yM h 91 a.toNat = fld h 91 a.toNat from yM_p (a := 91) (n := 20) rfl (by omega)]); (repeat' (first | rw [if_pos (by omega)] | rw [if_neg (by omega)])); all_goals (first | rfl | omega), by refine Eq.trans (rfl : yM h = yM h) ?_; unfold yLoom; (first | rw [show yM h 91 a.toNat = fld h 91 a.toNat from yM_p (a := 91) (n := 20) rfl (by omega)] | skip); (repeat' (first | rw [if_pos (by omega)] | rw [if_neg (by omega)])); all_goals (repeat' (first | rfl | omega | apply zs_cg))⟩
          · refine zwW_p [(1, 2, 0), (0, 100, 0)] (q := 23) (ls' := [(2, 37), (0, a), (0, b), (0, c)]) (st' := [(0, 100), (0, b)]) (by decide +kernel) rfl ?_
            refine zwW_div (nx := 24) (by decide +kernel) (by omega) (by omega) (by omega) ?_
            refine zwW_p [(7, 0, 0), (0, 4, 1), (0, 60, 1)] (q := 31) (ls' := [(2, 37), (0, a), (0, b), (0, c)]) (st' := [(1, 60), (1, 4), (1, (b / 100))]) (by decide +kernel) rfl ?_
            refine zwW_cs (k' := 101) (n := 3) (nx := 34) (as := [(1, (b / 100)), (1, 4), (1, 60)]) (st' := []) (by decide +kernel) rfl (m101 h (b / 100) 4 60) rfl ?_
            rintro x _ ⟨rfl, ⟨rfl, c7⟩ | ⟨rfl, c7⟩⟩
            · refine zwif_eq (q := 68) (nx := 37) (by decide +kernel) (fun c8 => ?_) (fun c8 => ?_)
              · exfalso; omega
              · refine zwW_p [(1, 2, 0), (0, 100, 0)] (q := 40) (ls' := [(2, 37), (0, a), (0, b), (0, c)]) (st' := [(0, 100), (0, b)]) (by decide +kernel) rfl ?_
                refine zwW_rem (nx := 41) (by decide +kernel) (by omega) (by omega) ?_
                refine zwW_p [(7, 0, 0), (1, 2, 0), (0, 100, 0)] (q := 45) (ls' := [(2, 37), (0, a), (0, b), (0, c)]) (st' := [(0, 100), (0, b), (1, (b % 100))]) (by decide +kernel) rfl ?_
                refine zwW_div (nx := 46) (by decide +kernel) (by omega) (by omega) (by omega) ?_
                refine zwW_p [(7, 0, 0), (0, 60, 1)] (q := 50) (ls' := [(2, 37), (0, a), (0, b), (0, c)]) (st' := [(1, 60), (1, (b / 100)), (1, (b % 100))]) (by decide +kernel) rfl ?_
                refine zwW_cs (k' := 101) (n := 3) (nx := 53) (as := [(1, (b % 100)), (1, (b / 100)), (1, 60)]) (st' := []) (by decide +kernel) rfl (m101 h (b % 100) (b / 100) 60) rfl ?_
                rintro x _ ⟨rfl, ⟨rfl, c9⟩ | ⟨rfl, c9⟩⟩
                · refine zwif_eq (q := 68) (nx := 56) (by decide +kernel) (fun c10 => ?_) (fun c10 => ?_)
                  · exfalso; omega
                  · refine zwW_p [(1, 3, 0), (7, 0, 0), (0, 1, 1), (0, 40, 1)] (q := 62) (ls' := [(2, 37), (0, a), (0, b), (0, c)]) (st' := [(1, 40), (1, 1), (1, c)]) (by decide +kernel) rfl ?_
                    refine zwW_cs (k' := 101) (n := 3) (nx := 65) (as := [(1, c), (1, 1), (1, 40)]) (st' := []) (by decide +kernel) rfl (m101 h c 1 40) rfl ?_
                    rintro x _ ⟨rfl, ⟨rfl, c11⟩ | ⟨rfl, c11⟩⟩
                    · refine zwif_ne (q := 70) (nx := 68) (by decide +kernel) (fun c12 => ?_) (fun c12 => ?_)
                      · refine zwW_p [(1, 0, 2)] (q := 71) (ls' := [(2, 37), (0, a), (0, b), (0, c)]) (st' := [(2, 37)]) (by decide +kernel) rfl ?_
                        refine zwW_gc I (kd := 13) (bn := 30) (n := 97) (c := 89) (nx := 74) (by decide +kernel) ?_
                        refine zwW_p [(1, 1, 0), (1, 2, 0), (0, 100, 0)] (q := 78) (ls' := [(2, 37), (0, a), (0, b), (0, c)]) (st' := [(0, 100), (0, b), (0, a), (2, 89)]) (by decide +kernel) rfl ?_
                        refine zwW_div (nx := 79) (by decide +kernel) (by omega) (by omega) (by omega) ?_
                        refine zwW_as I (a1 := 89) (a2 := 89) (n := 20) (lo := -2147483648) (hi := 2147483647) (nx := 80) (by decide +kernel) ⟨by decide, by decide⟩ ⟨by omega, by omega⟩ ⟨by omega, by omega⟩ ?_
                        intro h13 eh13 Ih13
                        have Zh13 : yM h13 = (zs (yM h) 89 a.toNat (b / 100)) := by rw [yM_w (a := 89) (n := 20) (i := a.toNat) (kd := 20) rfl (I.s (a1 := 89) (a2 := 89) (by decide +kernel) (by decide) (by decide)) (by omega) eh13]
                        have Rh13 : zMR ms12 h h13 := R.w (a1 := 89) (a2 := 89) (j1 := 0) (j2 := 20) (by decide +kernel) ⟨by decide, by decide⟩ ⟨by omega, by omega⟩ eh13
                        refine zwW_p [(1, 0, 2)] (q := 81) (ls' := [(2, 37), (0, a), (0, b), (0, c)]) (st' := [(2, 37)]) (by decide +kernel) rfl ?_
                        refine zwW_gc Ih13 (kd := 13) (bn := 31) (n := 97) (c := 90) (nx := 84) (by decide +kernel) ?_
                        refine zwW_p [(1, 1, 0), (1, 2, 0), (0, 100, 0)] (q := 88) (ls' := [(2, 37), (0, a), (0, b), (0, c)]) (st' := [(0, 100), (0, b), (0, a), (2, 90)]) (by decide +kernel) rfl ?_
                        refine zwW_rem (nx := 89) (by decide +kernel) (by omega) (by omega) ?_
                        refine zwW_as Ih13 (a1 := 90) (a2 := 90) (n := 20) (lo := -2147483648) (hi := 2147483647) (nx := 90) (by decide +kernel) ⟨by decide, by decide⟩ ⟨by omega, by omega⟩ ⟨by omega, by omega⟩ ?_
                        intro h14 eh14 Ih14
                        have Zh14 : yM h14 = (zs (zs (yM h) 89 a.toNat (b / 100)) 90 a.toNat (b % 100)) := by rw [yM_w (a := 90) (n := 20) (i := a.toNat) (kd := 20) rfl (Ih13.s (a1 := 90) (a2 := 90) (by decide +kernel) (by decide) (by decide)) (by omega) eh14, Zh13]
                        have Rh14 : zMR ms12 h h14 := Rh13.w (a1 := 90) (a2 := 90) (j1 := 0) (j2 := 20) (by decide +kernel) ⟨by decide, by decide⟩ ⟨by omega, by omega⟩ eh14
                        refine zwW_p [(1, 0, 2)] (q := 91) (ls' := [(2, 37), (0, a), (0, b), (0, c)]) (st' := [(2, 37)]) (by decide +kernel) rfl ?_
                        refine zwW_gc Ih14 (kd := 13) (bn := 32) (n := 97) (c := 91) (nx := 94) (by decide +kernel) ?_
                        refine zwW_p [(1, 1, 0), (1, 3, 0)] (q := 96) (ls' := [(2, 37), (0, a), (0, b), (0, c)]) (st' := [(0, c), (0, a), (2, 91)]) (by decide +kernel) rfl ?_
                        refine zwW_as Ih14 (a1 := 91) (a2 := 91) (n := 20) (lo := -2147483648) (hi := 2147483647) (nx := 97) (by decide +kernel) ⟨by decide, by decide⟩ ⟨by omega, by omega⟩ ⟨by omega, by omega⟩ ?_
                        intro h15 eh15 Ih15
                        have Zh15 : yM h15 = (zs (zs (zs (yM h) 89 a.toNat (b / 100)) 90 a.toNat (b % 100)) 91 a.toNat c) := by rw [yM_w (a := 91) (n := 20) (i := a.toNat) (kd := 20) rfl (Ih14.s (a1 := 91) (a2 := 91) (by decide +kernel) (by decide) (by decide)) (by omega) eh15, Zh14]
                        have Rh15 : zMR ms12 h h15 := Rh14.w (a1 := 91) (a2 := 91) (j1 := 0) (j2 := 20) (by decide +kernel) ⟨by decide, by decide⟩ ⟨by omega, by omega⟩ eh15
                        refine zwW_p [(0, 1, 0)] (q := 98) (ls' := [(2, 37), (0, a), (0, b), (0, c)]) (st' := [(0, 1)]) (by decide +kernel) rfl ?_
                        refine zwW_ret (nx := 99) (a := 1) (b := 0) (by decide +kernel) rfl (Or.inr (Or.inl ⟨rfl, by omega⟩)) ?_
                        exact ⟨Ih15, Rh15, by omega, by unfold yLoomA; (try rw [show yM h 91 a.toNat = fld h 91 a.toNat from yM_p (a := 91) (n := 20) rfl (by omega)]); (repeat' (first | rw [if_pos (by omega)] | rw [if_neg (by omega)])); all_goals (first | rfl | omega), by refine Eq.trans Zh15 ?_; unfold yLoom; (first | rw [show yM h 91 a.toNat = fld h 91 a.toNat from yM_p (a := 91) (n := 20) rfl (by omega)] | skip); (repeat' (first | rw [if_pos (by omega)] | rw [if_neg (by omega)])); all_goals (repeat' (first | rfl | omega | apply zs_cg))⟩
                      · exfalso; omega
                    · refine zwif_ne (q := 70) (nx := 68) (by decide +kernel) (fun c16 => ?_) (fun c16 => ?_)
                      · exfalso; omega
                      · refine zwW_p [(0, 0, 0)] (q := 69) (ls' := [(2, 37), (0, a), (0, b), (0, c)]) (st' := [(0, 0)]) (by decide +kernel) rfl ?_
                        refine zwW_ret (nx := 70) (a := 1) (b := 0) (by decide +kernel) rfl (Or.inr (Or.inl ⟨rfl, by omega⟩)) ?_
                        exact ⟨I, R, by omega, by unfold yLoomA; (try rw [show yM h 91 a.toNat = fld h 91 a.toNat from yM_p (a := 91) (n := 20) rfl (by omega)]); (repeat' (first | rw [if_pos (by omega)] | rw [if_neg (by omega)])); all_goals (first | rfl | omega), by refine Eq.trans (rfl : yM h = yM h) ?_; unfold yLoom; (first | rw [show yM h 91 a.toNat = fld h 91 a.toNat from yM_p (a := 91) (n := 20) rfl (by omega)] | skip); (repeat' (first | rw [if_pos (by omega)] | rw [if_neg (by omega)])); all_goals (repeat' (first | rfl | omega | apply zs_cg))⟩
                · refine zwif_eq (q := 68) (nx := 56) (by decide +kernel) (fun c17 => ?_) (fun c17 => ?_)
                  · refine zwW_p [(0, 0, 0)] (q := 69) (ls' := [(2, 37), (0, a), (0, b), (0, c)]) (st' := [(0, 0)]) (by decide +kernel) rfl ?_
                    refine zwW_ret (nx := 70) (a := 1) (b := 0) (by decide +kernel) rfl (Or.inr (Or.inl ⟨rfl, by omega⟩)) ?_
                    exact ⟨I, R, by omega, by unfold yLoomA; (try rw [show yM h 91 a.toNat = fld h 91 a.toNat from yM_p (a := 91) (n := 20) rfl (by omega)]); (repeat' (first | rw [if_pos (by omega)] | rw [if_neg (by omega)])); all_goals (first | rfl | omega), by refine Eq.trans (rfl : yM h = yM h) ?_; unfold yLoom; (first | rw [show yM h 91 a.toNat = fld h 91 a.toNat from yM_p (a := 91) (n := 20) rfl (by omega)] | skip); (repeat' (first | rw [if_pos (by omega)] | rw [if_neg (by omega)])); all_goals (repeat' (first | rfl | omega | apply zs_cg))⟩
                  · exfalso; omega
            · refine zwif_eq (q := 68) (nx := 37) (by decide +kernel) (fun c18 => ?_) (fun c18 => ?_)
              · refine zwW_p [(0, 0, 0)] (q := 69) (ls' := [(2, 37), (0, a), (0, b), (0, c)]) (st' := [(0, 0)]) (by decide +kernel) rfl ?_
                refine zwW_ret (nx := 70) (a := 1) (b := 0) (by decide +kernel) rfl (Or.inr (Or.inl ⟨rfl, by omega⟩)) ?_
                exact ⟨I, R, by omega, by unfold yLoomA; (try rw [show yM h 91 a.toNat = fld h 91 a.toNat from yM_p (a := 91) (n := 20) rfl (by omega)]); (repeat' (first | rw [if_pos (by omega)] | rw [if_neg (by omega)])); all_goals (first | rfl | omega), by refine Eq.trans (rfl : yM h = yM h) ?_; unfold yLoom; (first | rw [show yM h 91 a.toNat = fld h 91 a.toNat from yM_p (a := 91) (n := 20) rfl (by omega)] | skip); (repeat' (first | rw [if_pos (by omega)] | rw [if_neg (by omega)])); all_goals (repeat' (first | rfl | omega | apply zs_cg))⟩
              · exfalso; omega
  · refine zwif_eq (q := 68) (nx := 8) (by decide +kernel) (fun c19 => ?_) (fun c19 => ?_)
    · refine zwW_p [(0, 0, 0)] (q := 69) (ls' := [(2, 37), (0, a), (0, b), (0, c)]) (st' := [(0, 0)]) (by decide +kernel) rfl ?_
      refine zwW_ret (nx := 70) (a := 1) (b := 0) (by decide +kernel) rfl (Or.inr (Or.inl ⟨rfl, by omega⟩)) ?_
      exact ⟨I, R, by omega, by unfold yLoomA; (try rw [show yM h 91 a.toNat = fld h 91 a.toNat from yM_p (a := 91) (n := 20) rfl (by omega)]); (repeat' (first | rw [if_pos (by omega)] | rw [if_neg (by omega)])); all_goals (first | rfl | omega), by refine Eq.trans (rfl : yM h = yM h) ?_; unfold yLoom; (first | rw [show yM h 91 a.toNat = fld h 91 a.toNat from yM_p (a := 91) (n := 20) rfl (by omega)] | skip); (repeat' (first | rw [if_pos (by omega)] | rw [if_neg (by omega)])); all_goals (repeat' (first | rfl | omega | apply zs_cg))⟩
    · exfalso; omega
-- WheelLandModel.aim(II)Z
theorem m14_z {sc : List Int} (h : Hp) (I : zI h) (a b : Int) : zwC sc 3 14 [(2, 37), (0, a), (0, b)] h (zwRt 0 (fun x g => zI g ∧ zMR ms14 h g ∧ (-2147483648 ≤ x ∧ x ≤ 2147483647) ∧ (x = yAimA (yM h) a b) ∧ (yM g = yAim (yM h) a b))) := by
  refine zwC_of (D := 2) 3 (by decide +kernel) rfl (ls := [(2, 37), (0, a), (0, b)]) rfl ?_
  have R : zMR ms14 h h := zMR.rf _ _
  have u0 : yM h 37 0 = fld h 37 0 := rfl
  have u1 : yM h 37 1 = fld h 37 1 := rfl
  have u2 : yM h 37 2 = fld h 37 2 := rfl
  have u64 : yM h 37 64 = fld h 37 64 := rfl
  have u78 : yM h 37 78 = fld h 37 78 := rfl
  refine zwW_p [(1, 0, 2), (1, 1, 0)] (q := 2) (ls' := [(2, 37), (0, a), (0, b)]) (st' := [(0, a), (2, 37)]) (by decide +kernel) rfl ?_
  refine zwW_cm I (op := 60) (k' := 111) (n := 1) (kd := 13) (m := 97) (nx := 5) (r := 37) (tl := [(0, a)]) (st' := []) (by decide +kernel) rfl (by decide +kernel) rfl (m111 h I a) ?_
  rintro x _ ⟨rfl, ⟨rfl, c1⟩ | ⟨rfl, c1⟩⟩
  · refine zwif_eq (q := 22) (nx := 8) (by decide +kernel) (fun c2 => ?_) (fun c2 => ?_)
    · exfalso; omega
    · refine zwW_p [(1, 2, 0), (7, 0, 0), (0, 4, 1), (0, 60, 1)] (q := 16) (ls' := [(2, 37), (0, a), (0, b)]) (st' := [(1, 60), (1, 4), (1, b)]) (by decide +kernel) rfl ?_
      refine zwW_cs (k' := 101) (n := 3) (nx := 19) (as := [(1, b), (1, 4), (1, 60)]) (st' := []) (by decide +kernel) rfl (m101 h b 4 60) rfl ?_
      rintro x _ ⟨rfl, ⟨rfl, c3⟩ | ⟨rfl, c3⟩⟩
      · refine zwif_ne (q := 24) (nx := 22) (by decide +kernel) (fun c4 => ?_) (fun c4 => ?_)
        · refine zwW_p [(1, 0, 2)] (q := 25) (ls' := [(2, 37), (0, a), (0, b)]) (st' := [(2, 37)]) (by decide +kernel) rfl ?_
          refine zwW_gc I (kd := 13) (bn := 26) (n := 97) (c := 85) (nx := 28) (by decide +kernel) ?_
          refine zwW_p [(1, 1, 0), (1, 2, 0)] (q := 30) (ls' := [(2, 37), (0, a), (0, b)]) (st' := [(0, b), (0, a), (2, 85)]) (by decide +kernel) rfl ?_
          refine zwW_as I (a1 := 85) (a2 := 85) (n := 20) (lo := 0) (hi := 60) (nx := 31) (by decide +kernel) ⟨by decide, by decide⟩ ⟨by omega, by omega⟩ ⟨by omega, by omega⟩ ?_
          intro h5 eh5 Ih5
          have Zh5 : yM h5 = (zs (yM h) 85 a.toNat b) := by rw [yM_w (a := 85) (n := 20) (i := a.toNat) (kd := 20) rfl (I.s (a1 := 85) (a2 := 85) (by decide +kernel) (by decide) (by decide)) (by omega) eh5]
          have Rh5 : zMR ms14 h h5 := R.w (a1 := 85) (a2 := 85) (j1 := 0) (j2 := 20) (by decide +kernel) ⟨by decide, by decide⟩ ⟨by omega, by omega⟩ eh5
          refine zwW_p [(0, 1, 0)] (q := 32) (ls' := [(2, 37), (0, a), (0, b)]) (st' := [(0, 1)]) (by decide +kernel) rfl ?_
          refine zwW_ret (nx := 33) (a := 1) (b := 0) (by decide +kernel) rfl (Or.inr (Or.inl ⟨rfl, by omega⟩)) ?_
          exact ⟨Ih5, Rh5, by omega, by unfold yAimA; (repeat' (first | rw [if_pos (by omega)] | rw [if_neg (by omega)])); all_goals (first | rfl | omega), by refine Eq.trans Zh5 ?_; unfold yAim; (repeat' (first | rw [if_pos (by omega)] | rw [if_neg (by omega)])); all_goals (repeat' (first | rfl | omega | apply zs_cg))⟩
        · exfalso; omega
      · refine zwif_ne (q := 24) (nx := 22) (by decide +kernel) (fun c6 => ?_) (fun c6 => ?_)
        · exfalso; omega
        · refine zwW_p [(0, 0, 0)] (q := 23) (ls' := [(2, 37), (0, a), (0, b)]) (st' := [(0, 0)]) (by decide +kernel) rfl ?_
          refine zwW_ret (nx := 24) (a := 1) (b := 0) (by decide +kernel) rfl (Or.inr (Or.inl ⟨rfl, by omega⟩)) ?_
          exact ⟨I, R, by omega, by unfold yAimA; (repeat' (first | rw [if_pos (by omega)] | rw [if_neg (by omega)])); all_goals (first | rfl | omega), by refine Eq.trans (rfl : yM h = yM h) ?_; unfold yAim; (repeat' (first | rw [if_pos (by omega)] | rw [if_neg (by omega)])); all_goals (repeat' (first | rfl | omega | apply zs_cg))⟩
  · refine zwif_eq (q := 22) (nx := 8) (by decide +kernel) (fun c7 => ?_) (fun c7 => ?_)
    · refine zwW_p [(0, 0, 0)] (q := 23) (ls' := [(2, 37), (0, a), (0, b)]) (st' := [(0, 0)]) (by decide +kernel) rfl ?_
      refine zwW_ret (nx := 24) (a := 1) (b := 0) (by decide +kernel) rfl (Or.inr (Or.inl ⟨rfl, by omega⟩)) ?_
      exact ⟨I, R, by omega, by unfold yAimA; (repeat' (first | rw [if_pos (by omega)] | rw [if_neg (by omega)])); all_goals (first | rfl | omega), by refine Eq.trans (rfl : yM h = yM h) ?_; unfold yAim; (repeat' (first | rw [if_pos (by omega)] | rw [if_neg (by omega)])); all_goals (repeat' (first | rfl | omega | apply zs_cg))⟩
    · exfalso; omega
-- WheelLandModel.owing(I)I
theorem m127_z {sc : List Int} (h : Hp) (I : zI h) (a : Int) (p1 : 0 ≤ a) (p2 : a ≤ 19) : zwC sc 1 127 [(2, 37), (0, a)] h (zwRt 0 (fun x g => h = g ∧ (-2147483648 ≤ x ∧ x ≤ 2147483647) ∧ (x = yOwin (yM h) a))) := by
  refine zwC_of (D := 0) 4 (by decide +kernel) rfl (ls := [(2, 37), (0, a), (9, 0), (9, 0)]) rfl ?_
  have u0 : yM h 37 0 = fld h 37 0 := rfl
  have u1 : yM h 37 1 = fld h 37 1 := rfl
  have u2 : yM h 37 2 = fld h 37 2 := rfl
  have u64 : yM h 37 64 = fld h 37 64 := rfl
  have u78 : yM h 37 78 = fld h 37 78 := rfl
  have s93 : yM h 93 a.toNat = w32 (fld h 93 a.toNat) := yM_93 (by omega)
  refine zwW_p [(1, 0, 2)] (q := 1) (ls' := [(2, 37), (0, a), (9, 0), (9, 0)]) (st' := [(2, 37)]) (by decide +kernel) rfl ?_
  refine zwW_gc I (kd := 13) (bn := 34) (n := 97) (c := 93) (nx := 4) (by decide +kernel) ?_
  refine zwW_p [(1, 1, 0)] (q := 5) (ls' := [(2, 37), (0, a), (9, 0), (9, 0)]) (st' := [(0, a), (2, 93)]) (by decide +kernel) rfl ?_
  refine zwW_al I (a1 := 93) (a2 := 93) (kd := 23) (n := 20) (t := 1) (lo := -9223372036854775808) (hi := 9223372036854775807) (nx := 6) (by decide +kernel) ⟨by decide, by decide⟩ ⟨by omega, by omega⟩ ?_
  intro v1 ev1 lv1 uv1
  refine zwW_p [(1, 0, 2)] (q := 7) (ls' := [(2, 37), (0, a), (9, 0), (9, 0)]) (st' := [(2, 37), (1, v1)]) (by decide +kernel) rfl ?_
  refine zwW_gc I (kd := 13) (bn := 35) (n := 97) (c := 94) (nx := 10) (by decide +kernel) ?_
  refine zwW_p [(1, 1, 0)] (q := 11) (ls' := [(2, 37), (0, a), (9, 0), (9, 0)]) (st' := [(0, a), (2, 94), (1, v1)]) (by decide +kernel) rfl ?_
  refine zwW_al I (a1 := 94) (a2 := 94) (kd := 20) (n := 20) (t := 0) (lo := -2147483648) (hi := 2147483647) (nx := 12) (by decide +kernel) ⟨by decide, by decide⟩ ⟨by omega, by omega⟩ ?_
  intro v2 ev2 lv2 uv2
  have sv2 : v2 = (yM h) 94 a.toNat := Eq.trans ev2 (Eq.trans (Eq.symm (yM_p (h := h) (a := 94) (n := 20) (i := a.toNat) rfl (by omega))) (Eq.trans (congrFun (congrFun (rfl : yM h = yM h) 94) a.toNat) rfl))
  refine zwW_p [(7, 0, 0)] (q := 13) (ls' := [(2, 37), (0, a), (9, 0), (9, 0)]) (st' := [(1, v2), (1, v1)]) (by decide +kernel) rfl ?_
  refine zwW_lsw (nx := 14) (by decide +kernel) ?_
  intro v3 ev3 lv3 uv3
  refine zwW_p [(2, 2, 1), (1, 2, 1)] (q := 16) (ls' := [(2, 37), (0, a), (1, v3), (9, 0)]) (st' := [(1, v3)]) (by decide +kernel) rfl ?_
  refine zwW_l2x (nx := 17) (by decide +kernel) ?_
  intro v4 ev4 lv4 uv4
  refine zwW_ret (nx := 18) (a := 0) (b := 0) (by decide +kernel) rfl (Or.inl rfl) ?_
  exact ⟨rfl, by omega, by unfold yOwin; rw [s93, w32_sub]; simp only [w32, w64] at *; omega⟩
-- WheelLandModel.pay(III)I
theorem m36_z {sc : List Int} (h : Hp) (I : zI h) (a b c : Int) : zwC sc 3 36 [(2, 37), (0, a), (0, b), (0, c)] h (zwRt 0 (fun x g => zI g ∧ zMR ms36 h g ∧ (-2147483648 ≤ x ∧ x ≤ 2147483647) ∧ (x = yPayA (yM h) a b c) ∧ (yM g = yPay (yM h) a b c))) := by
  refine zwC_of (D := 2) 4 (by decide +kernel) rfl (ls := [(2, 37), (0, a), (0, b), (0, c)]) rfl ?_
  have R : zMR ms36 h h := zMR.rf _ _
  have u0 : yM h 37 0 = fld h 37 0 := rfl
  have u1 : yM h 37 1 = fld h 37 1 := rfl
  have u2 : yM h 37 2 = fld h 37 2 := rfl
  have u64 : yM h 37 64 = fld h 37 64 := rfl
  have u78 : yM h 37 78 = fld h 37 78 := rfl
  refine zwW_p [(1, 0, 2), (1, 1, 0)] (q := 2) (ls' := [(2, 37), (0, a), (0, b), (0, c)]) (st' := [(0, a), (2, 37)]) (by decide +kernel) rfl ?_
  refine zwW_cm I (op := 60) (k' := 111) (n := 1) (kd := 13) (m := 97) (nx := 5) (r := 37) (tl := [(0, a)]) (st' := []) (by decide +kernel) rfl (by decide +kernel) rfl (m111 h I a) ?_
  rintro x _ ⟨rfl, ⟨rfl, c1⟩ | ⟨rfl, c1⟩⟩
  · refine zwif_eq (q := 32) (nx := 8) (by decide +kernel) (fun c2 => ?_) (fun c2 => ?_)
    · exfalso; omega
    · refine zwW_p [(1, 0, 2), (1, 2, 0)] (q := 10) (ls' := [(2, 37), (0, a), (0, b), (0, c)]) (st' := [(0, b), (2, 37)]) (by decide +kernel) rfl ?_
      refine zwW_cm I (op := 60) (k' := 116) (n := 1) (kd := 13) (m := 97) (nx := 13) (r := 37) (tl := [(0, b)]) (st' := []) (by decide +kernel) rfl (by decide +kernel) rfl (m116 h I b) ?_
      rintro x _ ⟨rfl, ⟨rfl, c3⟩ | ⟨rfl, c3⟩⟩
      · refine zwif_eq (q := 32) (nx := 16) (by decide +kernel) (fun c4 => ?_) (fun c4 => ?_)
        · exfalso; omega
        · refine zwW_p [(1, 3, 0), (7, 0, 0), (0, 1, 1), (1, 0, 2)] (q := 20) (ls' := [(2, 37), (0, a), (0, b), (0, c)]) (st' := [(2, 37), (1, 1), (1, c)]) (by decide +kernel) rfl ?_
          refine zwW_gc I (kd := 13) (bn := 63) (n := 97) (c := 175) (nx := 23) (by decide +kernel) ?_
          refine zwW_p [(1, 2, 0)] (q := 24) (ls' := [(2, 37), (0, a), (0, b), (0, c)]) (st' := [(0, b), (2, 175), (1, 1), (1, c)]) (by decide +kernel) rfl ?_
          refine zwW_al I (a1 := 175) (a2 := 175) (kd := 20) (n := 300) (t := 0) (lo := -2147483648) (hi := 2147483647) (nx := 25) (by decide +kernel) ⟨by decide, by decide⟩ ⟨by omega, by omega⟩ ?_
          intro v5 ev5 lv5 uv5
          have sv5 : v5 = (yM h) 175 b.toNat := Eq.trans ev5 (Eq.trans (Eq.symm (yM_p (h := h) (a := 175) (n := 300) (i := b.toNat) rfl (by omega))) (Eq.trans (congrFun (congrFun (rfl : yM h = yM h) 175) b.toNat) rfl))
          refine zwW_p [(7, 0, 0)] (q := 26) (ls' := [(2, 37), (0, a), (0, b), (0, c)]) (st' := [(1, v5), (1, 1), (1, c)]) (by decide +kernel) rfl ?_
          refine zwW_cs (k' := 101) (n := 3) (nx := 29) (as := [(1, c), (1, 1), (1, v5)]) (st' := []) (by decide +kernel) rfl (m101 h c 1 v5) rfl ?_
          rintro x _ ⟨rfl, ⟨rfl, c6⟩ | ⟨rfl, c6⟩⟩
          · refine zwif_ne (q := 36) (nx := 32) (by decide +kernel) (fun c7 => ?_) (fun c7 => ?_)
            · refine zwW_p [(1, 0, 2)] (q := 37) (ls' := [(2, 37), (0, a), (0, b), (0, c)]) (st' := [(2, 37)]) (by decide +kernel) rfl ?_
              refine zwW_gc I (kd := 13) (bn := 63) (n := 97) (c := 175) (nx := 40) (by decide +kernel) ?_
              refine zwW_p [(1, 2, 0), (14, 0, 0)] (q := 42) (ls' := [(2, 37), (0, a), (0, b), (0, c)]) (st' := [(0, b), (2, 175), (0, b), (2, 175)]) (by decide +kernel) rfl ?_
              refine zwW_al I (a1 := 175) (a2 := 175) (kd := 20) (n := 300) (t := 0) (lo := -2147483648) (hi := 2147483647) (nx := 43) (by decide +kernel) ⟨by decide, by decide⟩ ⟨by omega, by omega⟩ ?_
              intro v8 ev8 lv8 uv8
              have sv8 : v8 = (yM h) 175 b.toNat := Eq.trans ev8 (Eq.trans (Eq.symm (yM_p (h := h) (a := 175) (n := 300) (i := b.toNat) rfl (by omega))) (Eq.trans (congrFun (congrFun (rfl : yM h = yM h) 175) b.toNat) rfl))
              refine zwW_p [(1, 3, 0)] (q := 44) (ls' := [(2, 37), (0, a), (0, b), (0, c)]) (st' := [(0, c), (0, v8), (0, b), (2, 175)]) (by decide +kernel) rfl ?_
              refine zwW_sbw (nx := 45) (by decide +kernel) ?_
              intro v9 ev9 lv9 uv9
              have Ev9 : v9 = w32 (((yM h) 175 b.toNat) - c) := by rw [ev9, sv8]
              refine zwW_as I (a1 := 175) (a2 := 175) (n := 300) (lo := -2147483648) (hi := 2147483647) (nx := 46) (by decide +kernel) ⟨by decide, by decide⟩ ⟨by omega, by omega⟩ ⟨by omega, by omega⟩ ?_
              intro h10 eh10 Ih10
              have Zh10 : yM h10 = (zs (yM h) 175 b.toNat (w32 (((yM h) 175 b.toNat) - c))) := by rw [yM_w (a := 175) (n := 300) (i := b.toNat) (kd := 20) rfl (I.s (a1 := 175) (a2 := 175) (by decide +kernel) (by decide) (by decide)) (by omega) eh10, Ev9]
              have Rh10 : zMR ms36 h h10 := R.w (a1 := 175) (a2 := 175) (j1 := 0) (j2 := 300) (by decide +kernel) ⟨by decide, by decide⟩ ⟨by omega, by omega⟩ eh10
              refine zwW_p [(1, 0, 2)] (q := 47) (ls' := [(2, 37), (0, a), (0, b), (0, c)]) (st' := [(2, 37)]) (by decide +kernel) rfl ?_
              refine zwW_gc Ih10 (kd := 13) (bn := 35) (n := 97) (c := 94) (nx := 50) (by decide +kernel) ?_
              refine zwW_p [(1, 1, 0), (14, 0, 0)] (q := 52) (ls' := [(2, 37), (0, a), (0, b), (0, c)]) (st' := [(0, a), (2, 94), (0, a), (2, 94)]) (by decide +kernel) rfl ?_
              refine zwW_al Ih10 (a1 := 94) (a2 := 94) (kd := 20) (n := 20) (t := 0) (lo := -2147483648) (hi := 2147483647) (nx := 53) (by decide +kernel) ⟨by decide, by decide⟩ ⟨by omega, by omega⟩ ?_
              intro v11 ev11 lv11 uv11
              have sv11 : v11 = (yM h) 94 a.toNat := Eq.trans ev11 (Eq.trans (Eq.symm (yM_p (h := h10) (a := 94) (n := 20) (i := a.toNat) rfl (by omega))) (Eq.trans (congrFun (congrFun Zh10 94) a.toNat) (Eq.trans (zs_na (by decide) : (zs (yM h) 175 b.toNat (w32 (((yM h) 175 b.toNat) - c))) 94 a.toNat = (yM h) 94 a.toNat) rfl)))
              refine zwW_p [(1, 3, 0)] (q := 54) (ls' := [(2, 37), (0, a), (0, b), (0, c)]) (st' := [(0, c), (0, v11), (0, a), (2, 94)]) (by decide +kernel) rfl ?_
              refine zwW_adw (nx := 55) (by decide +kernel) ?_
              intro v12 ev12 lv12 uv12
              have Ev12 : v12 = w32 (((yM h) 94 a.toNat) + c) := by rw [ev12, sv11]
              refine zwW_as Ih10 (a1 := 94) (a2 := 94) (n := 20) (lo := -2147483648) (hi := 2147483647) (nx := 56) (by decide +kernel) ⟨by decide, by decide⟩ ⟨by omega, by omega⟩ ⟨by omega, by omega⟩ ?_
              intro h13 eh13 Ih13
              have Zh13 : yM h13 = (zs (zs (yM h) 175 b.toNat (w32 (((yM h) 175 b.toNat) - c))) 94 a.toNat (w32 (((yM h) 94 a.toNat) + c))) := by rw [yM_w (a := 94) (n := 20) (i := a.toNat) (kd := 20) rfl (Ih10.s (a1 := 94) (a2 := 94) (by decide +kernel) (by decide) (by decide)) (by omega) eh13, Zh10, Ev12]
              have Rh13 : zMR ms36 h h13 := Rh10.w (a1 := 94) (a2 := 94) (j1 := 0) (j2 := 20) (by decide +kernel) ⟨by decide, by decide⟩ ⟨by omega, by omega⟩ eh13
              refine zwW_p [(1, 0, 2), (12, 0, 0)] (q := 58) (ls' := [(2, 37), (0, a), (0, b), (0, c)]) (st' := [(2, 37), (2, 37)]) (by decide +kernel) rfl ?_
              refine zwW_gs Ih13 (kd := 13) (bn := 69) (n := 97) (t := 0) (lo := -2147483648) (hi := 2147483647) (nx := 61) (by decide +kernel) ?_
              intro v14 ev14 lv14 uv14
              have sv14 : v14 = (yM h) 37 69 := Eq.trans ev14 (Eq.trans (Eq.symm (yM_s (h := h13) (i := 69) rfl)) (Eq.trans (congrFun (congrFun Zh13 37) 69) (Eq.trans (zs_na (by decide) : (zs (zs (yM h) 175 b.toNat (w32 (((yM h) 175 b.toNat) - c))) 94 a.toNat (w32 (((yM h) 94 a.toNat) + c))) 37 69 = (zs (yM h) 175 b.toNat (w32 (((yM h) 175 b.toNat) - c))) 37 69) (Eq.trans (zs_na (by decide) : (zs (yM h) 175 b.toNat (w32 (((yM h) 175 b.toNat) - c))) 37 69 = (yM h) 37 69) rfl))))
              refine zwW_p [(1, 3, 0)] (q := 62) (ls' := [(2, 37), (0, a), (0, b), (0, c)]) (st' := [(0, c), (0, v14), (2, 37)]) (by decide +kernel) rfl ?_
              refine zwW_adw (nx := 63) (by decide +kernel) ?_
              intro v15 ev15 lv15 uv15
              have Ev15 : v15 = w32 (((yM h) 37 69) + c) := by rw [ev15, sv14]
              refine zwW_ps Ih13 (kd := 13) (bn := 69) (n := 97) (lo := -2147483648) (hi := 2147483647) (nx := 66) (by decide +kernel) ⟨by omega, by omega⟩ ?_
              intro h16 eh16 Ih16
              have Zh16 : yM h16 = (zs (zs (zs (yM h) 175 b.toNat (w32 (((yM h) 175 b.toNat) - c))) 94 a.toNat (w32 (((yM h) 94 a.toNat) + c))) 37 69 (w32 (((yM h) 37 69) + c))) := by rw [yM_ws (i := 69) (kd := 13) (n := 97) rfl (Ih13.s (a1 := 37) (a2 := 37) (by decide +kernel) (by decide) (by decide)) (by decide) eh16, Zh13, Ev15]
              have Rh16 : zMR ms36 h h16 := Rh13.w (a1 := 37) (a2 := 37) (j1 := 69) (j2 := 70) (by decide +kernel) ⟨by decide, by decide⟩ ⟨by decide, by decide⟩ eh16
              refine zwW_p [(1, 0, 2)] (q := 67) (ls' := [(2, 37), (0, a), (0, b), (0, c)]) (st' := [(2, 37)]) (by decide +kernel) rfl ?_
              refine zwW_gc Ih16 (kd := 13) (bn := 58) (n := 97) (c := 170) (nx := 70) (by decide +kernel) ?_
              refine zwW_p [(1, 2, 0)] (q := 71) (ls' := [(2, 37), (0, a), (0, b), (0, c)]) (st' := [(0, b), (2, 170)]) (by decide +kernel) rfl ?_
              refine zwW_al Ih16 (a1 := 170) (a2 := 170) (kd := 20) (n := 300) (t := 0) (lo := 0) (hi := 19) (nx := 72) (by decide +kernel) ⟨by decide, by decide⟩ ⟨by omega, by omega⟩ ?_
              intro v17 ev17 lv17 uv17
              have sv17 : v17 = (yM h) 170 b.toNat := Eq.trans ev17 (Eq.trans (Eq.symm (yM_p (h := h16) (a := 170) (n := 300) (i := b.toNat) rfl (by omega))) (Eq.trans (congrFun (congrFun Zh16 170) b.toNat) (Eq.trans (zs_na (by decide) : (zs (zs (zs (yM h) 175 b.toNat (w32 (((yM h) 175 b.toNat) - c))) 94 a.toNat (w32 (((yM h) 94 a.toNat) + c))) 37 69 (w32 (((yM h) 37 69) + c))) 170 b.toNat = (zs (zs (yM h) 175 b.toNat (w32 (((yM h) 175 b.toNat) - c))) 94 a.toNat (w32 (((yM h) 94 a.toNat) + c))) 170 b.toNat) (Eq.trans (zs_na (by decide) : (zs (zs (yM h) 175 b.toNat (w32 (((yM h) 175 b.toNat) - c))) 94 a.toNat (w32 (((yM h) 94 a.toNat) + c))) 170 b.toNat = (zs (yM h) 175 b.toNat (w32 (((yM h) 175 b.toNat) - c))) 170 b.toNat) (Eq.trans (zs_na (by decide) : (zs (yM h) 175 b.toNat (w32 (((yM h) 175 b.toNat) - c))) 170 b.toNat = (yM h) 170 b.toNat) rfl)))))
              refine zwW_p [(1, 1, 0)] (q := 73) (ls' := [(2, 37), (0, a), (0, b), (0, c)]) (st' := [(0, a), (0, v17)]) (by decide +kernel) rfl ?_
              refine zwic_eq (q := 86) (nx := 76) (by decide +kernel) (fun c18 => ?_) (fun c18 => ?_)
              · refine zwW_p [(1, 0, 2), (1, 1, 0)] (q := 88) (ls' := [(2, 37), (0, a), (0, b), (0, c)]) (st' := [(0, a), (2, 37)]) (by decide +kernel) rfl ?_
                refine zwW_cm Ih16 (op := 60) (k' := 127) (n := 1) (kd := 13) (m := 97) (nx := 91) (r := 37) (tl := [(0, a)]) (st' := []) (by decide +kernel) rfl (by decide +kernel) rfl (m127_z h16 Ih16 a (by omega) (by omega)) ?_
                rintro v19 _ ⟨rfl, f20, f21⟩
                have sv19 : v19 = yOwin (zs (zs (zs (yM h) 175 b.toNat (w32 (((yM h) 175 b.toNat) - c))) 94 a.toNat (w32 (((yM h) 94 a.toNat) + c))) 37 69 (w32 (((yM h) 37 69) + c))) a := by rw [f21, Zh16]
                refine zwW_ret (nx := 92) (a := 0) (b := 0) (by decide +kernel) rfl (Or.inl rfl) ?_
                exact ⟨Ih16, Rh16, by omega, by unfold yPayA; (repeat' (first | rw [if_pos (by omega)] | rw [if_neg (by omega)])); all_goals (first | rfl | omega | (rw [sv19]; unfold yOwin; (repeat rw [zs_na (by decide)]); rw [zs_eq])), by refine Eq.trans Zh16 ?_; unfold yPay; (repeat' (first | rw [if_pos (by omega)] | rw [if_neg (by omega)])); all_goals (first | exact zs_sw (by decide) | (repeat' (first | rfl | omega | apply zs_cg)))⟩
              · refine zwW_p [(1, 0, 2)] (q := 77) (ls' := [(2, 37), (0, a), (0, b), (0, c)]) (st' := [(2, 37)]) (by decide +kernel) rfl ?_
                refine zwW_gc Ih16 (kd := 13) (bn := 37) (n := 97) (c := 96) (nx := 80) (by decide +kernel) ?_
                refine zwW_p [(1, 1, 0), (14, 0, 0)] (q := 82) (ls' := [(2, 37), (0, a), (0, b), (0, c)]) (st' := [(0, a), (2, 96), (0, a), (2, 96)]) (by decide +kernel) rfl ?_
                refine zwW_al Ih16 (a1 := 96) (a2 := 96) (kd := 20) (n := 20) (t := 0) (lo := -2147483648) (hi := 2147483647) (nx := 83) (by decide +kernel) ⟨by decide, by decide⟩ ⟨by omega, by omega⟩ ?_
                intro v22 ev22 lv22 uv22
                have sv22 : v22 = (yM h) 96 a.toNat := Eq.trans ev22 (Eq.trans (Eq.symm (yM_p (h := h16) (a := 96) (n := 20) (i := a.toNat) rfl (by omega))) (Eq.trans (congrFun (congrFun Zh16 96) a.toNat) (Eq.trans (zs_na (by decide) : (zs (zs (zs (yM h) 175 b.toNat (w32 (((yM h) 175 b.toNat) - c))) 94 a.toNat (w32 (((yM h) 94 a.toNat) + c))) 37 69 (w32 (((yM h) 37 69) + c))) 96 a.toNat = (zs (zs (yM h) 175 b.toNat (w32 (((yM h) 175 b.toNat) - c))) 94 a.toNat (w32 (((yM h) 94 a.toNat) + c))) 96 a.toNat) (Eq.trans (zs_na (by decide) : (zs (zs (yM h) 175 b.toNat (w32 (((yM h) 175 b.toNat) - c))) 94 a.toNat (w32 (((yM h) 94 a.toNat) + c))) 96 a.toNat = (zs (yM h) 175 b.toNat (w32 (((yM h) 175 b.toNat) - c))) 96 a.toNat) (Eq.trans (zs_na (by decide) : (zs (yM h) 175 b.toNat (w32 (((yM h) 175 b.toNat) - c))) 96 a.toNat = (yM h) 96 a.toNat) rfl)))))
                refine zwW_p [(1, 3, 0)] (q := 84) (ls' := [(2, 37), (0, a), (0, b), (0, c)]) (st' := [(0, c), (0, v22), (0, a), (2, 96)]) (by decide +kernel) rfl ?_
                refine zwW_adw (nx := 85) (by decide +kernel) ?_
                intro v23 ev23 lv23 uv23
                have Ev23 : v23 = w32 (((yM h) 96 a.toNat) + c) := by rw [ev23, sv22]
                refine zwW_as Ih16 (a1 := 96) (a2 := 96) (n := 20) (lo := -2147483648) (hi := 2147483647) (nx := 86) (by decide +kernel) ⟨by decide, by decide⟩ ⟨by omega, by omega⟩ ⟨by omega, by omega⟩ ?_
                intro h24 eh24 Ih24
                have Zh24 : yM h24 = (zs (zs (zs (zs (yM h) 175 b.toNat (w32 (((yM h) 175 b.toNat) - c))) 94 a.toNat (w32 (((yM h) 94 a.toNat) + c))) 37 69 (w32 (((yM h) 37 69) + c))) 96 a.toNat (w32 (((yM h) 96 a.toNat) + c))) := by rw [yM_w (a := 96) (n := 20) (i := a.toNat) (kd := 20) rfl (Ih16.s (a1 := 96) (a2 := 96) (by decide +kernel) (by decide) (by decide)) (by omega) eh24, Zh16, Ev23]
                have Rh24 : zMR ms36 h h24 := Rh16.w (a1 := 96) (a2 := 96) (j1 := 0) (j2 := 20) (by decide +kernel) ⟨by decide, by decide⟩ ⟨by omega, by omega⟩ eh24
                refine zwW_p [(1, 0, 2), (1, 1, 0)] (q := 88) (ls' := [(2, 37), (0, a), (0, b), (0, c)]) (st' := [(0, a), (2, 37)]) (by decide +kernel) rfl ?_
                refine zwW_cm Ih24 (op := 60) (k' := 127) (n := 1) (kd := 13) (m := 97) (nx := 91) (r := 37) (tl := [(0, a)]) (st' := []) (by decide +kernel) rfl (by decide +kernel) rfl (m127_z h24 Ih24 a (by omega) (by omega)) ?_
                rintro v25 _ ⟨rfl, f26, f27⟩
                have sv25 : v25 = yOwin (zs (zs (zs (zs (yM h) 175 b.toNat (w32 (((yM h) 175 b.toNat) - c))) 94 a.toNat (w32 (((yM h) 94 a.toNat) + c))) 37 69 (w32 (((yM h) 37 69) + c))) 96 a.toNat (w32 (((yM h) 96 a.toNat) + c))) a := by rw [f27, Zh24]
                refine zwW_ret (nx := 92) (a := 0) (b := 0) (by decide +kernel) rfl (Or.inl rfl) ?_
                exact ⟨Ih24, Rh24, by omega, by unfold yPayA; (repeat' (first | rw [if_pos (by omega)] | rw [if_neg (by omega)])); all_goals (first | rfl | omega | (rw [sv25]; unfold yOwin; (repeat rw [zs_na (by decide)]); rw [zs_eq])), by refine Eq.trans Zh24 ?_; unfold yPay; (repeat' (first | rw [if_pos (by omega)] | rw [if_neg (by omega)])); all_goals (first | exact zs_sw (by decide) | (repeat' (first | rfl | omega | apply zs_cg)))⟩
            · exfalso; omega
          · refine zwif_ne (q := 36) (nx := 32) (by decide +kernel) (fun c28 => ?_) (fun c28 => ?_)
            · exfalso; omega
            · refine zwW_p [(0, -2147483648, 0)] (q := 35) (ls' := [(2, 37), (0, a), (0, b), (0, c)]) (st' := [(0, -2147483648)]) (by decide +kernel) rfl ?_
              refine zwW_ret (nx := 36) (a := 0) (b := 0) (by decide +kernel) rfl (Or.inl rfl) ?_
              exact ⟨I, R, by omega, by unfold yPayA; (repeat' (first | rw [if_pos (by omega)] | rw [if_neg (by omega)])); all_goals (first | rfl | omega | (rw [s-2147483648]; unfold yOwin; (repeat rw [zs_na (by decide)]); rw [zs_eq])), by refine Eq.trans (rfl : yM h = yM h) ?_; unfold yPay; (repeat' (first | rw [if_pos (by omega)] | rw [if_neg (by omega)])); all_goals (first | exact zs_sw (by decide) | (repeat' (first | rfl | omega | apply zs_cg)))⟩
      · refine zwif_eq (q := 32) (nx := 16) (by decide +kernel) (fun c29 => ?_) (fun c29 => ?_)
        · refine zwW_p [(0, -2147483648, 0)] (q := 35) (ls' := [(2, 37), (0, a), (0, b), (0, c)]) (st' := [(0, -2147483648)]) (by decide +kernel) rfl ?_
          refine zwW_ret (nx := 36) (a := 0) (b := 0) (by decide +kernel) rfl (Or.inl rfl) ?_
          exact ⟨I, R, by omega, by unfold yPayA; (repeat' (first | rw [if_pos (by omega)] | rw [if_neg (by omega)])); all_goals (first | rfl | omega | (rw [s-2147483648]; unfold yOwin; (repeat rw [zs_na (by decide)]); rw [zs_eq])), by refine Eq.trans (rfl : yM h = yM h) ?_; unfold yPay; (repeat' (first | rw [if_pos (by omega)] | rw [if_neg (by omega)])); all_goals (first | exact zs_sw (by decide) | (repeat' (first | rfl | omega | apply zs_cg)))⟩
        · exfalso; omega
  · refine zwif_eq (q := 32) (nx := 8) (by decide +kernel) (fun c30 => ?_) (fun c30 => ?_)
    · refine zwW_p [(0, -2147483648, 0)] (q := 35) (ls' := [(2, 37), (0, a), (0, b), (0, c)]) (st' := [(0, -2147483648)]) (by decide +kernel) rfl ?_
      refine zwW_ret (nx := 36) (a := 0) (b := 0) (by decide +kernel) rfl (Or.inl rfl) ?_
      exact ⟨I, R, by omega, by unfold yPayA; (repeat' (first | rw [if_pos (by omega)] | rw [if_neg (by omega)])); all_goals (first | rfl | omega | (rw [s-2147483648]; unfold yOwin; (repeat rw [zs_na (by decide)]); rw [zs_eq])), by refine Eq.trans (rfl : yM h = yM h) ?_; unfold yPay; (repeat' (first | rw [if_pos (by omega)] | rw [if_neg (by omega)])); all_goals (first | exact zs_sw (by decide) | (repeat' (first | rfl | omega | apply zs_cg)))⟩
    · exfalso; omega
-- WheelLandModel.due(II)I
theorem m38_z {sc : List Int} (h : Hp) (I : zI h) (a b : Int) : zwC sc 3 38 [(2, 37), (0, a), (0, b)] h (zwRt 0 (fun x g => h = g ∧ (-2147483648 ≤ x ∧ x ≤ 2147483647) ∧ (x = yDueA (yM h) a b))) := by
  refine zwC_of (D := 2) 3 (by decide +kernel) rfl (ls := [(2, 37), (0, a), (0, b)]) rfl ?_
  have u0 : yM h 37 0 = fld h 37 0 := rfl
  have u1 : yM h 37 1 = fld h 37 1 := rfl
  have u2 : yM h 37 2 = fld h 37 2 := rfl
  have u64 : yM h 37 64 = fld h 37 64 := rfl
  have u78 : yM h 37 78 = fld h 37 78 := rfl
  refine zwW_p [(1, 0, 2), (1, 1, 0)] (q := 2) (ls' := [(2, 37), (0, a), (0, b)]) (st' := [(0, a), (2, 37)]) (by decide +kernel) rfl ?_
  refine zwW_cm I (op := 60) (k' := 111) (n := 1) (kd := 13) (m := 97) (nx := 5) (r := 37) (tl := [(0, a)]) (st' := []) (by decide +kernel) rfl (by decide +kernel) rfl (m111 h I a) ?_
  rintro x _ ⟨rfl, ⟨rfl, c1⟩ | ⟨rfl, c1⟩⟩
  · refine zwif_ne (q := 12) (nx := 8) (by decide +kernel) (fun c2 => ?_) (fun c2 => ?_)
    · refine zwW_p [(1, 2, 0)] (q := 13) (ls' := [(2, 37), (0, a), (0, b)]) (st' := [(0, b)]) (by decide +kernel) rfl ?_
      refine zwW_sw (d := 92) (os := [0, 48, 1, 54, 2, 61, 3, 68, 4, 85]) (by decide +kernel) ?_
      refine ⟨fun c3 => ?_, fun c3 => ?_⟩
      · show zwW _ _ _ 48 _ _ _ _
        refine zwW_p [(1, 0, 2), (1, 1, 0)] (q := 50) (ls' := [(2, 37), (0, a), (0, b)]) (st' := [(0, a), (2, 37)]) (by decide +kernel) rfl ?_
        refine zwW_cm I (op := 60) (k' := 127) (n := 1) (kd := 13) (m := 97) (nx := 53) (r := 37) (tl := [(0, a)]) (st' := []) (by decide +kernel) rfl (by decide +kernel) rfl (m127_z h I a (by omega) (by omega)) ?_
        rintro v4 _ ⟨rfl, f5, f6⟩
        have sv4 : v4 = yOwin (yM h) a := by rw [f6]
        refine zwW_ret (nx := 54) (a := 0) (b := 0) (by decide +kernel) rfl (Or.inl rfl) ?_
        exact ⟨rfl, by omega, by unfold yDueA; (repeat' (first | rw [if_pos (by omega)] | rw [if_neg (by omega)])); all_goals (first | rfl | omega | (unfold yOwin at *; omega))⟩
      refine ⟨fun c7 => ?_, fun c7 => ?_⟩
      · show zwW _ _ _ 54 _ _ _ _
        refine zwW_p [(1, 0, 2)] (q := 55) (ls' := [(2, 37), (0, a), (0, b)]) (st' := [(2, 37)]) (by decide +kernel) rfl ?_
        refine zwW_gc I (kd := 13) (bn := 35) (n := 97) (c := 94) (nx := 58) (by decide +kernel) ?_
        refine zwW_p [(1, 1, 0)] (q := 59) (ls' := [(2, 37), (0, a), (0, b)]) (st' := [(0, a), (2, 94)]) (by decide +kernel) rfl ?_
        refine zwW_al I (a1 := 94) (a2 := 94) (kd := 20) (n := 20) (t := 0) (lo := -2147483648) (hi := 2147483647) (nx := 60) (by decide +kernel) ⟨by decide, by decide⟩ ⟨by omega, by omega⟩ ?_
        intro v8 ev8 lv8 uv8
        have sv8 : v8 = (yM h) 94 a.toNat := Eq.trans ev8 (Eq.trans (Eq.symm (yM_p (h := h) (a := 94) (n := 20) (i := a.toNat) rfl (by omega))) (Eq.trans (congrFun (congrFun (rfl : yM h = yM h) 94) a.toNat) rfl))
        refine zwW_ret (nx := 61) (a := 0) (b := 0) (by decide +kernel) rfl (Or.inl rfl) ?_
        exact ⟨rfl, by omega, by unfold yDueA; (repeat' (first | rw [if_pos (by omega)] | rw [if_neg (by omega)])); all_goals (first | rfl | omega | (unfold yOwin at *; omega))⟩
      refine ⟨fun c9 => ?_, fun c9 => ?_⟩
      · show zwW _ _ _ 61 _ _ _ _
        refine zwW_p [(1, 0, 2)] (q := 62) (ls' := [(2, 37), (0, a), (0, b)]) (st' := [(2, 37)]) (by decide +kernel) rfl ?_
        refine zwW_gc I (kd := 13) (bn := 36) (n := 97) (c := 95) (nx := 65) (by decide +kernel) ?_
        refine zwW_p [(1, 1, 0)] (q := 66) (ls' := [(2, 37), (0, a), (0, b)]) (st' := [(0, a), (2, 95)]) (by decide +kernel) rfl ?_
        refine zwW_al I (a1 := 95) (a2 := 95) (kd := 20) (n := 20) (t := 0) (lo := -2147483648) (hi := 2147483647) (nx := 67) (by decide +kernel) ⟨by decide, by decide⟩ ⟨by omega, by omega⟩ ?_
        intro v10 ev10 lv10 uv10
        have sv10 : v10 = (yM h) 95 a.toNat := Eq.trans ev10 (Eq.trans (Eq.symm (yM_p (h := h) (a := 95) (n := 20) (i := a.toNat) rfl (by omega))) (Eq.trans (congrFun (congrFun (rfl : yM h = yM h) 95) a.toNat) rfl))
        refine zwW_ret (nx := 68) (a := 0) (b := 0) (by decide +kernel) rfl (Or.inl rfl) ?_
        exact ⟨rfl, by omega, by unfold yDueA; (repeat' (first | rw [if_pos (by omega)] | rw [if_neg (by omega)])); all_goals (first | rfl | omega | (unfold yOwin at *; omega))⟩
      refine ⟨fun c11 => ?_, fun c11 => ?_⟩
      · show zwW _ _ _ 68 _ _ _ _
        refine zwW_p [(1, 0, 2)] (q := 69) (ls' := [(2, 37), (0, a), (0, b)]) (st' := [(2, 37)]) (by decide +kernel) rfl ?_
        refine zwW_gc I (kd := 13) (bn := 35) (n := 97) (c := 94) (nx := 72) (by decide +kernel) ?_
        refine zwW_p [(1, 1, 0)] (q := 73) (ls' := [(2, 37), (0, a), (0, b)]) (st' := [(0, a), (2, 94)]) (by decide +kernel) rfl ?_
        refine zwW_al I (a1 := 94) (a2 := 94) (kd := 20) (n := 20) (t := 0) (lo := -2147483648) (hi := 2147483647) (nx := 74) (by decide +kernel) ⟨by decide, by decide⟩ ⟨by omega, by omega⟩ ?_
        intro v12 ev12 lv12 uv12
        have sv12 : v12 = (yM h) 94 a.toNat := Eq.trans ev12 (Eq.trans (Eq.symm (yM_p (h := h) (a := 94) (n := 20) (i := a.toNat) rfl (by omega))) (Eq.trans (congrFun (congrFun (rfl : yM h = yM h) 94) a.toNat) rfl))
        refine zwW_p [(1, 0, 2)] (q := 75) (ls' := [(2, 37), (0, a), (0, b)]) (st' := [(2, 37), (0, v12)]) (by decide +kernel) rfl ?_
        refine zwW_gc I (kd := 13) (bn := 36) (n := 97) (c := 95) (nx := 78) (by decide +kernel) ?_
        refine zwW_p [(1, 1, 0)] (q := 79) (ls' := [(2, 37), (0, a), (0, b)]) (st' := [(0, a), (2, 95), (0, v12)]) (by decide +kernel) rfl ?_
        refine zwW_al I (a1 := 95) (a2 := 95) (kd := 20) (n := 20) (t := 0) (lo := -2147483648) (hi := 2147483647) (nx := 80) (by decide +kernel) ⟨by decide, by decide⟩ ⟨by omega, by omega⟩ ?_
        intro v13 ev13 lv13 uv13
        have sv13 : v13 = (yM h) 95 a.toNat := Eq.trans ev13 (Eq.trans (Eq.symm (yM_p (h := h) (a := 95) (n := 20) (i := a.toNat) rfl (by omega))) (Eq.trans (congrFun (congrFun (rfl : yM h = yM h) 95) a.toNat) rfl))
        refine zwW_sbw (nx := 81) (by decide +kernel) ?_
        intro v14 ev14 lv14 uv14
        have Ev14 : v14 = w32 (((yM h) 94 a.toNat) - ((yM h) 95 a.toNat)) := by rw [ev14, sv12, sv13]
        refine zwW_cs (k' := 129) (n := 1) (nx := 84) (as := [(0, v14)]) (st' := []) (by decide +kernel) rfl (m129 h v14 (by omega)) rfl ?_
        rintro v15 _ ⟨rfl, f16, f17, f18⟩
        refine zwW_ret (nx := 85) (a := 0) (b := 0) (by decide +kernel) rfl (Or.inl rfl) ?_
        exact ⟨rfl, by omega, by unfold yDueA; (repeat' (first | rw [if_pos (by omega)] | rw [if_neg (by omega)])); all_goals (first | rfl | omega | (unfold yOwin at *; omega))⟩
      refine ⟨fun c19 => ?_, fun c19 => ?_⟩
      · show zwW _ _ _ 85 _ _ _ _
        refine zwW_p [(1, 0, 2)] (q := 86) (ls' := [(2, 37), (0, a), (0, b)]) (st' := [(2, 37)]) (by decide +kernel) rfl ?_
        refine zwW_gc I (kd := 13) (bn := 37) (n := 97) (c := 96) (nx := 89) (by decide +kernel) ?_
        refine zwW_p [(1, 1, 0)] (q := 90) (ls' := [(2, 37), (0, a), (0, b)]) (st' := [(0, a), (2, 96)]) (by decide +kernel) rfl ?_
        refine zwW_al I (a1 := 96) (a2 := 96) (kd := 20) (n := 20) (t := 0) (lo := -2147483648) (hi := 2147483647) (nx := 91) (by decide +kernel) ⟨by decide, by decide⟩ ⟨by omega, by omega⟩ ?_
        intro v20 ev20 lv20 uv20
        have sv20 : v20 = (yM h) 96 a.toNat := Eq.trans ev20 (Eq.trans (Eq.symm (yM_p (h := h) (a := 96) (n := 20) (i := a.toNat) rfl (by omega))) (Eq.trans (congrFun (congrFun (rfl : yM h = yM h) 96) a.toNat) rfl))
        refine zwW_ret (nx := 92) (a := 0) (b := 0) (by decide +kernel) rfl (Or.inl rfl) ?_
        exact ⟨rfl, by omega, by unfold yDueA; (repeat' (first | rw [if_pos (by omega)] | rw [if_neg (by omega)])); all_goals (first | rfl | omega | (unfold yOwin at *; omega))⟩
      show zwW _ _ _ 92 _ _ _ _
      refine zwW_p [(0, -2147483648, 0)] (q := 95) (ls' := [(2, 37), (0, a), (0, b)]) (st' := [(0, -2147483648)]) (by decide +kernel) rfl ?_
      refine zwW_ret (nx := 96) (a := 0) (b := 0) (by decide +kernel) rfl (Or.inl rfl) ?_
      exact ⟨rfl, by omega, by unfold yDueA; (repeat' (first | rw [if_pos (by omega)] | rw [if_neg (by omega)])); all_goals (first | rfl | omega | (unfold yOwin at *; omega))⟩
    · exfalso; omega
  · refine zwif_ne (q := 12) (nx := 8) (by decide +kernel) (fun c21 => ?_) (fun c21 => ?_)
    · exfalso; omega
    · refine zwW_p [(0, -2147483648, 0)] (q := 11) (ls' := [(2, 37), (0, a), (0, b)]) (st' := [(0, -2147483648)]) (by decide +kernel) rfl ?_
      refine zwW_ret (nx := 12) (a := 0) (b := 0) (by decide +kernel) rfl (Or.inl rfl) ?_
      exact ⟨rfl, by omega, by unfold yDueA; (repeat' (first | rw [if_pos (by omega)] | rw [if_neg (by omega)])); all_goals (first | rfl | omega | (unfold yOwin at *; omega))⟩
-- WheelLandModel.force(II)I
theorem m32_z {sc : List Int} (h : Hp) (I : zI h) (a b : Int) : zwC sc 2 32 [(2, 37), (0, a), (0, b)] h (zwRt 0 (fun x g => zI g ∧ zMR ms32 h g ∧ (-2147483648 ≤ x ∧ x ≤ 2147483647) ∧ (x = yForcA (yM h) a b) ∧ (yM g = yForc (yM h) a b))) := by
  refine zwC_of (D := 1) 3 (by decide +kernel) rfl (ls := [(2, 37), (0, a), (0, b)]) rfl ?_
  have R : zMR ms32 h h := zMR.rf _ _
  have u0 : yM h 37 0 = fld h 37 0 := rfl
  have u52 : yM h 37 52 = fld h 37 52 := rfl
  have u53 : yM h 37 53 = fld h 37 53 := rfl
  refine zwW_p [(1, 1, 0), (7, 0, 0), (0, 0, 1), (1, 0, 2)] (q := 4) (ls' := [(2, 37), (0, a), (0, b)]) (st' := [(2, 37), (1, 0), (1, a)]) (by decide +kernel) rfl ?_
  refine zwW_gs I (kd := 13) (bn := 52) (n := 97) (t := 0) (lo := 0) (hi := 8) (nx := 7) (by decide +kernel) ?_
  intro v1 ev1 lv1 uv1
  have sv1 : v1 = (yM h) 37 52 := Eq.trans ev1 (Eq.trans (Eq.symm (yM_s (h := h) (i := 52) rfl)) (Eq.trans (congrFun (congrFun (rfl : yM h = yM h) 37) 52) rfl))
  refine zwW_p [(0, 1, 0)] (q := 8) (ls' := [(2, 37), (0, a), (0, b)]) (st' := [(0, 1), (0, v1), (1, 0), (1, a)]) (by decide +kernel) rfl ?_
  refine zwW_sub (nx := 9) (by decide +kernel) ⟨by omega, by omega⟩ ?_
  refine zwW_p [(7, 0, 0)] (q := 10) (ls' := [(2, 37), (0, a), (0, b)]) (st' := [(1, (v1 - 1)), (1, 0), (1, a)]) (by decide +kernel) rfl ?_
  refine zwW_cs (k' := 101) (n := 3) (nx := 13) (as := [(1, a), (1, 0), (1, (v1 - 1))]) (st' := []) (by decide +kernel) rfl (m101 h a 0 (v1 - 1)) rfl ?_
  rintro x _ ⟨rfl, ⟨rfl, c2⟩ | ⟨rfl, c2⟩⟩
  · refine zwif_eq (q := 41) (nx := 16) (by decide +kernel) (fun c3 => ?_) (fun c3 => ?_)
    · exfalso; omega
    · refine zwW_p [(1, 2, 0), (7, 0, 0), (1, 0, 2)] (q := 19) (ls' := [(2, 37), (0, a), (0, b)]) (st' := [(2, 37), (1, b)]) (by decide +kernel) rfl ?_
      refine zwW_gs I (kd := 13) (bn := 0) (n := 97) (t := 0) (lo := 0) (hi := 156) (nx := 22) (by decide +kernel) ?_
      intro v4 ev4 lv4 uv4
      have sv4 : v4 = (yM h) 37 0 := Eq.trans ev4 (Eq.trans (Eq.symm (yM_s (h := h) (i := 0) rfl)) (Eq.trans (congrFun (congrFun (rfl : yM h = yM h) 37) 0) rfl))
      refine zwW_p [(7, 0, 0), (0, 155, 1)] (q := 26) (ls' := [(2, 37), (0, a), (0, b)]) (st' := [(1, 155), (1, v4), (1, b)]) (by decide +kernel) rfl ?_
      refine zwW_cs (k' := 101) (n := 3) (nx := 29) (as := [(1, b), (1, v4), (1, 155)]) (st' := []) (by decide +kernel) rfl (m101 h b v4 155) rfl ?_
      rintro x _ ⟨rfl, ⟨rfl, c5⟩ | ⟨rfl, c5⟩⟩
      · refine zwif_eq (q := 41) (nx := 32) (by decide +kernel) (fun c6 => ?_) (fun c6 => ?_)
        · exfalso; omega
        · refine zwW_p [(1, 0, 2)] (q := 33) (ls' := [(2, 37), (0, a), (0, b)]) (st' := [(2, 37)]) (by decide +kernel) rfl ?_
          refine zwW_gs I (kd := 13) (bn := 53) (n := 97) (t := 0) (lo := 0) (hi := 12) (nx := 36) (by decide +kernel) ?_
          intro v7 ev7 lv7 uv7
          have sv7 : v7 = (yM h) 37 53 := Eq.trans ev7 (Eq.trans (Eq.symm (yM_s (h := h) (i := 53) rfl)) (Eq.trans (congrFun (congrFun (rfl : yM h = yM h) 37) 53) rfl))
          refine zwW_p [(0, 12, 0)] (q := 38) (ls' := [(2, 37), (0, a), (0, b)]) (st' := [(0, 12), (0, v7)]) (by decide +kernel) rfl ?_
          refine zwic_ne (q := 43) (nx := 41) (by decide +kernel) (fun c8 => ?_) (fun c8 => ?_)
          · refine zwW_p [(1, 0, 2)] (q := 44) (ls' := [(2, 37), (0, a), (0, b)]) (st' := [(2, 37)]) (by decide +kernel) rfl ?_
            refine zwW_gc I (kd := 13) (bn := 50) (n := 97) (c := 164) (nx := 47) (by decide +kernel) ?_
            refine zwW_p [(1, 0, 2)] (q := 48) (ls' := [(2, 37), (0, a), (0, b)]) (st' := [(2, 37), (2, 164)]) (by decide +kernel) rfl ?_
            refine zwW_gs I (kd := 13) (bn := 53) (n := 97) (t := 0) (lo := 0) (hi := 12) (nx := 51) (by decide +kernel) ?_
            intro v9 ev9 lv9 uv9
            have sv9 : v9 = (yM h) 37 53 := Eq.trans ev9 (Eq.trans (Eq.symm (yM_s (h := h) (i := 53) rfl)) (Eq.trans (congrFun (congrFun (rfl : yM h = yM h) 37) 53) rfl))
            refine zwW_p [(1, 1, 0)] (q := 52) (ls' := [(2, 37), (0, a), (0, b)]) (st' := [(0, a), (0, v9), (2, 164)]) (by decide +kernel) rfl ?_
            refine zwW_as I (a1 := 164) (a2 := 164) (n := 12) (lo := 0) (hi := 7) (nx := 53) (by decide +kernel) ⟨by decide, by decide⟩ ⟨by omega, by omega⟩ ⟨by omega, by omega⟩ ?_
            intro h10 eh10 Ih10
            have th10_37_0 : fld h10 37 0 = fld h 37 0 := by rw [eh10]; exact fld_wr (by omega)
            have th10_37_52 : fld h10 37 52 = fld h 37 52 := by rw [eh10]; exact fld_wr (by omega)
            have th10_37_53 : fld h10 37 53 = fld h 37 53 := by rw [eh10]; exact fld_wr (by omega)
            have Zh10 : yM h10 = (zs (yM h) 164 (((yM h) 37 53).toNat) a) := by rw [yM_w (a := 164) (n := 12) (i := v9.toNat) (kd := 20) rfl (I.s (a1 := 164) (a2 := 164) (by decide +kernel) (by decide) (by decide)) (by omega) eh10, sv9]
            have Rh10 : zMR ms32 h h10 := R.w (a1 := 164) (a2 := 164) (j1 := 0) (j2 := 12) (by decide +kernel) ⟨by decide, by decide⟩ ⟨by omega, by omega⟩ eh10
            refine zwW_p [(1, 0, 2)] (q := 54) (ls' := [(2, 37), (0, a), (0, b)]) (st' := [(2, 37)]) (by decide +kernel) rfl ?_
            refine zwW_gc Ih10 (kd := 13) (bn := 51) (n := 97) (c := 165) (nx := 57) (by decide +kernel) ?_
            refine zwW_p [(1, 0, 2)] (q := 58) (ls' := [(2, 37), (0, a), (0, b)]) (st' := [(2, 37), (2, 165)]) (by decide +kernel) rfl ?_
            refine zwW_gs Ih10 (kd := 13) (bn := 53) (n := 97) (t := 0) (lo := 0) (hi := 12) (nx := 61) (by decide +kernel) ?_
            intro v11 ev11 lv11 uv11
            have sv11 : v11 = (yM h) 37 53 := Eq.trans ev11 (Eq.trans (Eq.symm (yM_s (h := h10) (i := 53) rfl)) (Eq.trans (congrFun (congrFun Zh10 37) 53) (Eq.trans (zs_na (by decide) : (zs (yM h) 164 (((yM h) 37 53).toNat) a) 37 53 = (yM h) 37 53) rfl)))
            refine zwW_p [(1, 2, 0)] (q := 62) (ls' := [(2, 37), (0, a), (0, b)]) (st' := [(0, b), (0, v11), (2, 165)]) (by decide +kernel) rfl ?_
            refine zwW_as Ih10 (a1 := 165) (a2 := 165) (n := 12) (lo := 0) (hi := 155) (nx := 63) (by decide +kernel) ⟨by decide, by decide⟩ ⟨by omega, by omega⟩ ⟨by omega, by omega⟩ ?_
            intro h12 eh12 Ih12
            have th12_37_0 : fld h12 37 0 = fld h10 37 0 := by rw [eh12]; exact fld_wr (by omega)
            have th12_37_52 : fld h12 37 52 = fld h10 37 52 := by rw [eh12]; exact fld_wr (by omega)
            have th12_37_53 : fld h12 37 53 = fld h10 37 53 := by rw [eh12]; exact fld_wr (by omega)
            have Zh12 : yM h12 = (zs (zs (yM h) 164 (((yM h) 37 53).toNat) a) 165 (((yM h) 37 53).toNat) b) := by rw [yM_w (a := 165) (n := 12) (i := v11.toNat) (kd := 20) rfl (Ih10.s (a1 := 165) (a2 := 165) (by decide +kernel) (by decide) (by decide)) (by omega) eh12, Zh10, sv11]
            have Rh12 : zMR ms32 h h12 := Rh10.w (a1 := 165) (a2 := 165) (j1 := 0) (j2 := 12) (by decide +kernel) ⟨by decide, by decide⟩ ⟨by omega, by omega⟩ eh12
            refine zwW_p [(1, 0, 2), (12, 0, 0)] (q := 65) (ls' := [(2, 37), (0, a), (0, b)]) (st' := [(2, 37), (2, 37)]) (by decide +kernel) rfl ?_
            refine zwW_gs Ih12 (kd := 13) (bn := 53) (n := 97) (t := 0) (lo := 0) (hi := 12) (nx := 68) (by decide +kernel) ?_
            intro v13 ev13 lv13 uv13
            have sv13 : v13 = (yM h) 37 53 := Eq.trans ev13 (Eq.trans (Eq.symm (yM_s (h := h12) (i := 53) rfl)) (Eq.trans (congrFun (congrFun Zh12 37) 53) (Eq.trans (zs_na (by decide) : (zs (zs (yM h) 164 (((yM h) 37 53).toNat) a) 165 (((yM h) 37 53).toNat) b) 37 53 = (zs (yM h) 164 (((yM h) 37 53).toNat) a) 37 53) (Eq.trans (zs_na (by decide) : (zs (yM h) 164 (((yM h) 37 53).toNat) a) 37 53 = (yM h) 37 53) rfl))))
            refine zwW_p [(0, 1, 0)] (q := 69) (ls' := [(2, 37), (0, a), (0, b)]) (st' := [(0, 1), (0, v13), (2, 37)]) (by decide +kernel) rfl ?_
            refine zwW_add (nx := 70) (by decide +kernel) ⟨by omega, by omega⟩ ?_
            refine zwW_ps Ih12 (kd := 13) (bn := 53) (n := 97) (lo := 0) (hi := 12) (nx := 73) (by decide +kernel) ⟨by omega, by omega⟩ ?_
            intro h14 eh14 Ih14
            have th14_37_0 : fld h14 37 0 = fld h12 37 0 := by rw [eh14]; exact fld_wr (by decide)
            have th14_37_52 : fld h14 37 52 = fld h12 37 52 := by rw [eh14]; exact fld_wr (by decide)
            have th14_37_53 : fld h14 37 53 = (v13 + 1) := by rw [eh14]; exact fld_wr_eq (Ih12.s (a1 := 37) (a2 := 37) (k := 13) (n := 97) (by decide +kernel) (by decide) (by decide)) (by decide)
            have Zh14 : yM h14 = (zs (zs (zs (yM h) 164 (((yM h) 37 53).toNat) a) 165 (((yM h) 37 53).toNat) b) 37 53 (((yM h) 37 53) + 1)) := by rw [yM_ws (i := 53) (kd := 13) (n := 97) rfl (Ih12.s (a1 := 37) (a2 := 37) (by decide +kernel) (by decide) (by decide)) (by decide) eh14, Zh12, sv13]
            have Rh14 : zMR ms32 h h14 := Rh12.w (a1 := 37) (a2 := 37) (j1 := 53) (j2 := 54) (by decide +kernel) ⟨by decide, by decide⟩ ⟨by decide, by decide⟩ eh14
            refine zwW_p [(1, 0, 2)] (q := 74) (ls' := [(2, 37), (0, a), (0, b)]) (st' := [(2, 37)]) (by decide +kernel) rfl ?_
            refine zwW_gs Ih14 (kd := 13) (bn := 53) (n := 97) (t := 0) (lo := 0) (hi := 12) (nx := 77) (by decide +kernel) ?_
            intro v15 ev15 lv15 uv15
            have sv15 : v15 = (((yM h) 37 53) + 1) := Eq.trans ev15 (Eq.trans (Eq.symm (yM_s (h := h14) (i := 53) rfl)) (Eq.trans (congrFun (congrFun Zh14 37) 53) (zs_eq : (zs (zs (zs (yM h) 164 (((yM h) 37 53).toNat) a) 165 (((yM h) 37 53).toNat) b) 37 53 (((yM h) 37 53) + 1)) 37 53 = (((yM h) 37 53) + 1))))
            refine zwW_ret (nx := 78) (a := 0) (b := 0) (by decide +kernel) rfl (Or.inl rfl) ?_
            exact ⟨Ih14, Rh14, by omega, by unfold yForcA; (repeat' (first | rw [if_pos (by omega)] | rw [if_neg (by omega)])); all_goals (first | rfl | omega), by refine Eq.trans Zh14 ?_; unfold yForc; (repeat' (first | rw [if_pos (by omega)] | rw [if_neg (by omega)])); all_goals (repeat' (first | rfl | omega | apply zs_cg))⟩
          · refine zwW_p [(0, -1, 0)] (q := 42) (ls' := [(2, 37), (0, a), (0, b)]) (st' := [(0, -1)]) (by decide +kernel) rfl ?_
            refine zwW_ret (nx := 43) (a := 0) (b := 0) (by decide +kernel) rfl (Or.inl rfl) ?_
            exact ⟨I, R, by omega, by unfold yForcA; (repeat' (first | rw [if_pos (by omega)] | rw [if_neg (by omega)])); all_goals (first | rfl | omega), by refine Eq.trans (rfl : yM h = yM h) ?_; unfold yForc; (repeat' (first | rw [if_pos (by omega)] | rw [if_neg (by omega)])); all_goals (repeat' (first | rfl | omega | apply zs_cg))⟩
      · refine zwif_eq (q := 41) (nx := 32) (by decide +kernel) (fun c16 => ?_) (fun c16 => ?_)
        · refine zwW_p [(0, -1, 0)] (q := 42) (ls' := [(2, 37), (0, a), (0, b)]) (st' := [(0, -1)]) (by decide +kernel) rfl ?_
          refine zwW_ret (nx := 43) (a := 0) (b := 0) (by decide +kernel) rfl (Or.inl rfl) ?_
          exact ⟨I, R, by omega, by unfold yForcA; (repeat' (first | rw [if_pos (by omega)] | rw [if_neg (by omega)])); all_goals (first | rfl | omega), by refine Eq.trans (rfl : yM h = yM h) ?_; unfold yForc; (repeat' (first | rw [if_pos (by omega)] | rw [if_neg (by omega)])); all_goals (repeat' (first | rfl | omega | apply zs_cg))⟩
        · exfalso; omega
  · refine zwif_eq (q := 41) (nx := 16) (by decide +kernel) (fun c17 => ?_) (fun c17 => ?_)
    · refine zwW_p [(0, -1, 0)] (q := 42) (ls' := [(2, 37), (0, a), (0, b)]) (st' := [(0, -1)]) (by decide +kernel) rfl ?_
      refine zwW_ret (nx := 43) (a := 0) (b := 0) (by decide +kernel) rfl (Or.inl rfl) ?_
      exact ⟨I, R, by omega, by unfold yForcA; (repeat' (first | rw [if_pos (by omega)] | rw [if_neg (by omega)])); all_goals (first | rfl | omega), by refine Eq.trans (rfl : yM h = yM h) ?_; unfold yForc; (repeat' (first | rw [if_pos (by omega)] | rw [if_neg (by omega)])); all_goals (repeat' (first | rfl | omega | apply zs_cg))⟩
    · exfalso; omega
-- WheelLandModel.hungry(I)I
theorem m76_z {sc : List Int} (h : Hp) (I : zI h) (a : Int) : zwC sc 2 76 [(2, 37), (0, a)] h (zwRt 0 (fun x g => h = g ∧ (-2147483648 ≤ x ∧ x ≤ 2147483647) ∧ (x = yHunA (yM h) a))) := by
  refine zwC_of (D := 1) 4 (by decide +kernel) rfl (ls := [(2, 37), (0, a), (9, 0), (9, 0)]) rfl ?_
  have u2 : yM h 37 2 = fld h 37 2 := rfl
  have B0 := I.b (a1 := 37) (a2 := 37) (j1 := 2) (j2 := 3) (lo := 0) (hi := 20) (by decide +kernel) (r := 37) (j := 2) (by decide) (by decide) (by decide) (by decide)
  refine zwW_p [(1, 1, 0), (7, 0, 0), (0, 1, 1), (0, 99, 1)] (q := 6) (ls' := [(2, 37), (0, a), (9, 0), (9, 0)]) (st' := [(1, 99), (1, 1), (1, a)]) (by decide +kernel) rfl ?_
  refine zwW_cs (k' := 101) (n := 3) (nx := 9) (as := [(1, a), (1, 1), (1, 99)]) (st' := []) (by decide +kernel) rfl (m101 h a 1 99) rfl ?_
  rintro x _ ⟨rfl, ⟨rfl, c1⟩ | ⟨rfl, c1⟩⟩
  · refine zwif_ne (q := 14) (nx := 12) (by decide +kernel) (fun c2 => ?_) (fun c2 => ?_)
    · refine zwW_p [(0, 0, 0), (2, 2, 0), (0, 0, 0), (2, 3, 0)] (q := 18) (ls' := [(2, 37), (0, a), (0, 0), (0, 0)]) (st' := []) (by decide +kernel) rfl ?_
      have L3 : ∀ (n0 : Nat) (nL3 qL3 : Int), n0 = ((100 - qL3)).toNat → (0 ≤ qL3 ∧ qL3 ≤ fld h 37 2) → (-2147483648 ≤ nL3 ∧ nL3 ≤ 2147483647) → (nL3 = (yHg (yM h) a (qL3).toNat)) → zwW sc (1) 76 18 [(2, 37), (0, a), (0, nL3), (0, qL3)] [] h (zwRt 0 (fun x g => h = g ∧ (-2147483648 ≤ x ∧ x ≤ 2147483647) ∧ (x = yHunA (yM h) a))) := by
        intro n0
        induction n0 using Nat.strongRecOn with
        | ind n0 IHL3 =>
          intro nL3 qL3 hnL3 iL3_0 iL3_1 iL3_2
          refine zwW_p [(1, 3, 0), (1, 0, 2)] (q := 20) (ls' := [(2, 37), (0, a), (0, nL3), (0, qL3)]) (st' := [(2, 37), (0, qL3)]) (by decide +kernel) rfl ?_
          refine zwW_gs I (kd := 13) (bn := 2) (n := 97) (t := 0) (lo := 0) (hi := 20) (nx := 23) (by decide +kernel) ?_
          intro v4 ev4 lv4 uv4
          have sv4 : v4 = (yM h) 37 2 := Eq.trans ev4 (Eq.trans (Eq.symm (yM_s (h := h) (i := 2) rfl)) (Eq.trans (congrFun (congrFun (rfl : yM h = yM h) 37) 2) rfl))
          refine zwic_ge (q := 59) (nx := 26) (by decide +kernel) (fun c5 => ?_) (fun c5 => ?_)
          · refine zwW_p [(1, 2, 0)] (q := 60) (ls' := [(2, 37), (0, a), (0, nL3), (0, qL3)]) (st' := [(0, nL3)]) (by decide +kernel) rfl ?_
            refine zwW_ret (nx := 61) (a := 0) (b := 0) (by decide +kernel) rfl (Or.inl rfl) ?_
            exact ⟨rfl, by omega, by unfold yHunA; (repeat' (first | rw [if_pos (by omega)] | rw [if_neg (by omega)])); all_goals (first | rfl | omega | (rw [show (yM h 37 2).toNat = (qL3).toNat by omega]; exact iL3_2))⟩
          · refine zwW_p [(1, 2, 0), (1, 0, 2)] (q := 28) (ls' := [(2, 37), (0, a), (0, nL3), (0, qL3)]) (st' := [(2, 37), (0, nL3)]) (by decide +kernel) rfl ?_
            refine zwW_gc I (kd := 13) (bn := 25) (n := 97) (c := 84) (nx := 31) (by decide +kernel) ?_
            refine zwW_p [(1, 3, 0)] (q := 32) (ls' := [(2, 37), (0, a), (0, nL3), (0, qL3)]) (st' := [(0, qL3), (2, 84), (0, nL3)]) (by decide +kernel) rfl ?_
            refine zwW_al I (a1 := 84) (a2 := 84) (kd := 20) (n := 20) (t := 0) (lo := -2147483648) (hi := 2147483647) (nx := 33) (by decide +kernel) ⟨by decide, by decide⟩ ⟨by omega, by omega⟩ ?_
            intro v6 ev6 lv6 uv6
            have sv6 : v6 = (yM h) 84 qL3.toNat := Eq.trans ev6 (Eq.trans (Eq.symm (yM_p (h := h) (a := 84) (n := 20) (i := qL3.toNat) rfl (by omega))) (Eq.trans (congrFun (congrFun (rfl : yM h = yM h) 84) qL3.toNat) rfl))
            refine zwW_p [(1, 0, 2)] (q := 34) (ls' := [(2, 37), (0, a), (0, nL3), (0, qL3)]) (st' := [(2, 37), (0, v6), (0, nL3)]) (by decide +kernel) rfl ?_
            refine zwW_gc I (kd := 13) (bn := 24) (n := 97) (c := 83) (nx := 37) (by decide +kernel) ?_
            refine zwW_p [(1, 3, 0)] (q := 38) (ls' := [(2, 37), (0, a), (0, nL3), (0, qL3)]) (st' := [(0, qL3), (2, 83), (0, v6), (0, nL3)]) (by decide +kernel) rfl ?_
            refine zwW_al I (a1 := 83) (a2 := 83) (kd := 20) (n := 20) (t := 0) (lo := 0) (hi := 9) (nx := 39) (by decide +kernel) ⟨by decide, by decide⟩ ⟨by omega, by omega⟩ ?_
            intro v7 ev7 lv7 uv7
            have sv7 : v7 = (yM h) 83 qL3.toNat := Eq.trans ev7 (Eq.trans (Eq.symm (yM_p (h := h) (a := 83) (n := 20) (i := qL3.toNat) rfl (by omega))) (Eq.trans (congrFun (congrFun (rfl : yM h = yM h) 83) qL3.toNat) rfl))
            refine zwW_p [(1, 1, 0)] (q := 40) (ls' := [(2, 37), (0, a), (0, nL3), (0, qL3)]) (st' := [(0, a), (0, v7), (0, v6), (0, nL3)]) (by decide +kernel) rfl ?_
            refine zwW_mulp (A := 9) (B := 99) (nx := 41) (by decide +kernel) ⟨by omega, by omega⟩ ⟨by omega, by omega⟩ (by decide) ?_
            intro v8 ev8 lv8 uv8
            have Ev8 : v8 = ((yM h) 83 qL3.toNat) * a := by rw [ev8, sv7]
            refine zwic_ge (q := 50) (nx := 44) (by decide +kernel) (fun c9 => ?_) (fun c9 => ?_)
            · refine zwW_p [(0, 0, 0)] (q := 51) (ls' := [(2, 37), (0, a), (0, nL3), (0, qL3)]) (st' := [(0, 0), (0, nL3)]) (by decide +kernel) rfl ?_
              refine zwW_ib (a := 6) (nx := 52) (by decide +kernel) rfl ?_
              refine zwW_p [(2, 2, 0)] (q := 53) (ls' := [(2, 37), (0, a), (0, (i_or nL3 0)), (0, qL3)]) (st' := []) (by decide +kernel) rfl ?_
              refine zwW_inc (i := 3) (c := 1) (x := qL3) (nx := 56) (by decide +kernel) rfl ⟨by omega, by omega⟩ (ls' := [(2, 37), (0, a), (0, (i_or nL3 0)), (0, (qL3 + 1))]) rfl ?_
              refine zwW_p [(24, 18, 0)] (q := 18) (ls' := [(2, 37), (0, a), (0, (i_or nL3 0)), (0, (qL3 + 1))]) (st' := []) (by decide +kernel) rfl ?_
              exact IHL3 ((100 - (qL3 + 1))).toNat (by omega) (i_or nL3 0) (qL3 + 1) rfl (by omega) (by first | omega | exact i_or_in) (by rw [show (qL3 + 1).toNat = (qL3).toNat + 1 by omega]; unfold yHg; first | (rw [if_pos (by omega), ← iL3_2, show (((qL3).toNat : Nat) : Int) = qL3 by omega]) | (rw [if_neg (by omega), ← iL3_2, i_or_0 ⟨by omega, by omega⟩]))
            · refine zwW_p [(0, 1, 0), (1, 3, 0)] (q := 46) (ls' := [(2, 37), (0, a), (0, nL3), (0, qL3)]) (st' := [(0, qL3), (0, 1), (0, nL3)]) (by decide +kernel) rfl ?_
              refine zwW_ib (a := 8) (nx := 47) (by decide +kernel) rfl ?_
              refine zwW_p [(24, 51, 0)] (q := 51) (ls' := [(2, 37), (0, a), (0, nL3), (0, qL3)]) (st' := [(0, (i_shl 1 qL3)), (0, nL3)]) (by decide +kernel) rfl ?_
              refine zwW_ib (a := 6) (nx := 52) (by decide +kernel) rfl ?_
              refine zwW_p [(2, 2, 0)] (q := 53) (ls' := [(2, 37), (0, a), (0, (i_or nL3 (i_shl 1 qL3))), (0, qL3)]) (st' := []) (by decide +kernel) rfl ?_
              refine zwW_inc (i := 3) (c := 1) (x := qL3) (nx := 56) (by decide +kernel) rfl ⟨by omega, by omega⟩ (ls' := [(2, 37), (0, a), (0, (i_or nL3 (i_shl 1 qL3))), (0, (qL3 + 1))]) rfl ?_
              refine zwW_p [(24, 18, 0)] (q := 18) (ls' := [(2, 37), (0, a), (0, (i_or nL3 (i_shl 1 qL3))), (0, (qL3 + 1))]) (st' := []) (by decide +kernel) rfl ?_
              exact IHL3 ((100 - (qL3 + 1))).toNat (by omega) (i_or nL3 (i_shl 1 qL3)) (qL3 + 1) rfl (by omega) (by first | omega | exact i_or_in) (by rw [show (qL3 + 1).toNat = (qL3).toNat + 1 by omega]; unfold yHg; first | (rw [if_pos (by omega), ← iL3_2, show (((qL3).toNat : Nat) : Int) = qL3 by omega]) | (rw [if_neg (by omega), ← iL3_2, i_or_0 ⟨by omega, by omega⟩]))
      exact L3 _ 0 0 rfl (by omega) (by omega) (rfl)
    · exfalso; omega
  · refine zwif_ne (q := 14) (nx := 12) (by decide +kernel) (fun c10 => ?_) (fun c10 => ?_)
    · exfalso; omega
    · refine zwW_p [(0, -1, 0)] (q := 13) (ls' := [(2, 37), (0, a), (9, 0), (9, 0)]) (st' := [(0, -1)]) (by decide +kernel) rfl ?_
      refine zwW_ret (nx := 14) (a := 0) (b := 0) (by decide +kernel) rfl (Or.inl rfl) ?_
      exact ⟨rfl, by omega, by unfold yHunA; (repeat' (first | rw [if_pos (by omega)] | rw [if_neg (by omega)])); all_goals (first | rfl | omega | (rw [show (yM h 37 2).toNat = (a).toNat by omega]; exact rfl))⟩
