/-! joined: 86.a_mz 86.b_xz -/
section
/-! contracts of methods -/
-- WheelLandModel.coins(II)I
theorem m16_z {sc : List Int} (h : Hp) (I : zI h) (a b : Int) : zwC sc 3 16 [(2, 37), (0, a), (0, b)] h (zwRt 0 (fun x g => zI g ∧ zMR ms16 h g ∧ (-2147483648 ≤ x ∧ x ≤ 2147483647) ∧ (x = yCoinA (yM h) a b) ∧ (yM g = yCoin (yM h) a b))) := by
  refine zwC_of (D := 2) 3 (by decide +kernel) rfl (ls := [(2, 37), (0, a), (0, b)]) rfl ?_
  have R : zMR ms16 h h := zMR.rf _ _
  have u0 : yM h 37 0 = fld h 37 0 := rfl
  have u1 : yM h 37 1 = fld h 37 1 := rfl
  have u2 : yM h 37 2 = fld h 37 2 := rfl
  have u64 : yM h 37 64 = fld h 37 64 := rfl
  have u78 : yM h 37 78 = fld h 37 78 := rfl
  refine zwW_p [(1, 0, 2), (1, 1, 0)] (q := 2) (ls' := [(2, 37), (0, a), (0, b)]) (st' := [(0, a), (2, 37)]) (by decide +kernel) rfl ?_
  refine zwW_cm I (op := 60) (k' := 111) (n := 1) (kd := 13) (m := 97) (nx := 5) (r := 37) (tl := [(0, a)]) (st' := []) (by decide +kernel) rfl (by decide +kernel) rfl (m111 h I a) ?_
  rintro x _ ⟨rfl, ⟨rfl, c1⟩ | ⟨rfl, c1⟩⟩
  · refine zwif_eq (q := 22) (nx := 8) (by decide +kernel) (fun c2 => ?_) (fun c2 => ?_)
    · exfalso; omega
    · refine zwW_p [(1, 2, 0), (7, 0, 0), (0, -9999, 1), (0, 9999, 1)] (q := 16) (ls' := [(2, 37), (0, a), (0, b)]) (st' := [(1, 9999), (1, -9999), (1, b)]) (by decide +kernel) rfl ?_
      refine zwW_cs (k' := 101) (n := 3) (nx := 19) (as := [(1, b), (1, -9999), (1, 9999)]) (st' := []) (by decide +kernel) rfl (m101 h b (-9999) 9999) rfl ?_
      rintro x _ ⟨rfl, ⟨rfl, c3⟩ | ⟨rfl, c3⟩⟩
      · refine zwif_ne (q := 26) (nx := 22) (by decide +kernel) (fun c4 => ?_) (fun c4 => ?_)
        · refine zwW_p [(1, 0, 2)] (q := 27) (ls' := [(2, 37), (0, a), (0, b)]) (st' := [(2, 37)]) (by decide +kernel) rfl ?_
          refine zwW_gc I (kd := 13) (bn := 25) (n := 97) (c := 84) (nx := 30) (by decide +kernel) ?_
          refine zwW_p [(1, 1, 0), (14, 0, 0)] (q := 32) (ls' := [(2, 37), (0, a), (0, b)]) (st' := [(0, a), (2, 84), (0, a), (2, 84)]) (by decide +kernel) rfl ?_
          have ib1 : 0 ≤ a ∧ a < ((20 : Nat) : Int) := (by first | omega | exact ⟨by omega, by omega⟩)
          refine zwW_al I (a1 := 84) (a2 := 84) (kd := 20) (n := 20) (t := 0) (lo := -2147483648) (hi := 2147483647) (nx := 33) (by decide +kernel) (by first | decide | exact ⟨by decide, by decide⟩) ib1 ?_
          intro v5 ev5 lv5 uv5
          have sv5 : v5 = (yM h) 84 a.toNat := Eq.trans ev5 (Eq.trans (Eq.symm (yM_p (h := h) (a := 84) (n := 20) (i := a.toNat) rfl (zit ib1))) (Eq.trans (congrFun (congrFun (rfl : yM h = yM h) 84) a.toNat) rfl))
          refine zwW_p [(1, 2, 0)] (q := 34) (ls' := [(2, 37), (0, a), (0, b)]) (st' := [(0, b), (0, v5), (0, a), (2, 84)]) (by decide +kernel) rfl ?_
          refine zwW_adw (nx := 35) (by decide +kernel) ?_
          intro v6 ev6 lv6 uv6
          have Ev6 : v6 = w32 (((yM h) 84 a.toNat) + b) := by rw [ev6, sv5]
          refine zwW_as I (a1 := 84) (a2 := 84) (n := 20) (lo := -2147483648) (hi := 2147483647) (nx := 36) (by decide +kernel) (by first | decide | exact ⟨by decide, by decide⟩) ib1 (by first | omega | exact ⟨by omega, by omega⟩) ?_
          intro h7 eh7 Ih7
          have jbh7 : 0 ≤ a.toNat ∧ a.toNat < 20 := ⟨Nat.zero_le _, zit ib1⟩
          have Zh7 : yM h7 = (zs (yM h) 84 a.toNat (w32 (((yM h) 84 a.toNat) + b))) := by rw [yM_w (a := 84) (n := 20) (i := a.toNat) (kd := 20) rfl (I.s (a1 := 84) (a2 := 84) (by decide +kernel) (by decide) (by decide)) jbh7.2 eh7, Ev6]
          have Rh7 : zMR ms16 h h7 := R.w (a1 := 84) (a2 := 84) (j1 := 0) (j2 := 20) (by decide +kernel) (by first | decide | exact ⟨by decide, by decide⟩) jbh7 eh7
          refine zwW_p [(1, 0, 2)] (q := 37) (ls' := [(2, 37), (0, a), (0, b)]) (st' := [(2, 37)]) (by decide +kernel) rfl ?_
          refine zwW_gc Ih7 (kd := 13) (bn := 25) (n := 97) (c := 84) (nx := 40) (by decide +kernel) ?_
          refine zwW_p [(1, 1, 0)] (q := 41) (ls' := [(2, 37), (0, a), (0, b)]) (st' := [(0, a), (2, 84)]) (by decide +kernel) rfl ?_
          refine zwW_al Ih7 (a1 := 84) (a2 := 84) (kd := 20) (n := 20) (t := 0) (lo := -2147483648) (hi := 2147483647) (nx := 42) (by decide +kernel) (by first | decide | exact ⟨by decide, by decide⟩) ib1 ?_
          intro v8 ev8 lv8 uv8
          have sv8 : v8 = (w32 (((yM h) 84 a.toNat) + b)) := Eq.trans ev8 (Eq.trans (Eq.symm (yM_p (h := h7) (a := 84) (n := 20) (i := a.toNat) rfl (zit ib1))) (Eq.trans (congrFun (congrFun Zh7 84) a.toNat) (zs_eq : (zs (yM h) 84 a.toNat (w32 (((yM h) 84 a.toNat) + b))) 84 a.toNat = (w32 (((yM h) 84 a.toNat) + b)))))
          refine zwW_ret (nx := 43) (a := 0) (b := 0) (by decide +kernel) rfl (Or.inl rfl) ?_
          exact ⟨Ih7, Rh7, by omega, by unfold yCoinA; (repeat' (first | rw [if_pos (by omega)] | rw [if_neg (by omega)])); all_goals (first | rfl | omega), by refine Eq.trans Zh7 ?_; unfold yCoin; (repeat' (first | rw [if_pos (by omega)] | rw [if_neg (by omega)])); all_goals (repeat' (first | rfl | apply zs_cg | omega))⟩
        · exfalso; omega
      · refine zwif_ne (q := 26) (nx := 22) (by decide +kernel) (fun c9 => ?_) (fun c9 => ?_)
        · exfalso; omega
        · refine zwW_p [(0, -2147483648, 0)] (q := 25) (ls' := [(2, 37), (0, a), (0, b)]) (st' := [(0, -2147483648)]) (by decide +kernel) rfl ?_
          refine zwW_ret (nx := 26) (a := 0) (b := 0) (by decide +kernel) rfl (Or.inl rfl) ?_
          exact ⟨I, R, by omega, by unfold yCoinA; (repeat' (first | rw [if_pos (by omega)] | rw [if_neg (by omega)])); all_goals (first | rfl | omega), by refine Eq.trans (rfl : yM h = yM h) ?_; unfold yCoin; (repeat' (first | rw [if_pos (by omega)] | rw [if_neg (by omega)])); all_goals (repeat' (first | rfl | apply zs_cg | omega))⟩
  · refine zwif_eq (q := 22) (nx := 8) (by decide +kernel) (fun c10 => ?_) (fun c10 => ?_)
    · refine zwW_p [(0, -2147483648, 0)] (q := 25) (ls' := [(2, 37), (0, a), (0, b)]) (st' := [(0, -2147483648)]) (by decide +kernel) rfl ?_
      refine zwW_ret (nx := 26) (a := 0) (b := 0) (by decide +kernel) rfl (Or.inl rfl) ?_
      exact ⟨I, R, by omega, by unfold yCoinA; (repeat' (first | rw [if_pos (by omega)] | rw [if_neg (by omega)])); all_goals (first | rfl | omega), by refine Eq.trans (rfl : yM h = yM h) ?_; unfold yCoin; (repeat' (first | rw [if_pos (by omega)] | rw [if_neg (by omega)])); all_goals (repeat' (first | rfl | apply zs_cg | omega))⟩
    · exfalso; omega
-- WheelLandModel.cotton(II)I
theorem m18_z {sc : List Int} (h : Hp) (I : zI h) (a b : Int) : zwC sc 3 18 [(2, 37), (0, a), (0, b)] h (zwRt 0 (fun x g => zI g ∧ zMR ms18 h g ∧ (-2147483648 ≤ x ∧ x ≤ 2147483647) ∧ (x = yCottA (yM h) a b) ∧ (yM g = yCott (yM h) a b))) := by
  refine zwC_of (D := 2) 3 (by decide +kernel) rfl (ls := [(2, 37), (0, a), (0, b)]) rfl ?_
  have R : zMR ms18 h h := zMR.rf _ _
  have u0 : yM h 37 0 = fld h 37 0 := rfl
  have u1 : yM h 37 1 = fld h 37 1 := rfl
  have u2 : yM h 37 2 = fld h 37 2 := rfl
  have u64 : yM h 37 64 = fld h 37 64 := rfl
  have u78 : yM h 37 78 = fld h 37 78 := rfl
  refine zwW_p [(1, 0, 2), (1, 1, 0)] (q := 2) (ls' := [(2, 37), (0, a), (0, b)]) (st' := [(0, a), (2, 37)]) (by decide +kernel) rfl ?_
  refine zwW_cm I (op := 60) (k' := 104) (n := 1) (kd := 13) (m := 97) (nx := 5) (r := 37) (tl := [(0, a)]) (st' := []) (by decide +kernel) rfl (by decide +kernel) rfl (m104 h I a) ?_
  rintro x _ ⟨rfl, ⟨rfl, c1⟩ | ⟨rfl, c1⟩⟩
  · refine zwif_eq (q := 34) (nx := 8) (by decide +kernel) (fun c2 => ?_) (fun c2 => ?_)
    · exfalso; omega
    · refine zwW_p [(1, 2, 0), (7, 0, 0), (0, 1, 1), (0, 999, 1)] (q := 14) (ls' := [(2, 37), (0, a), (0, b)]) (st' := [(1, 999), (1, 1), (1, b)]) (by decide +kernel) rfl ?_
      refine zwW_cs (k' := 101) (n := 3) (nx := 17) (as := [(1, b), (1, 1), (1, 999)]) (st' := []) (by decide +kernel) rfl (m101 h b 1 999) rfl ?_
      rintro x _ ⟨rfl, ⟨rfl, c3⟩ | ⟨rfl, c3⟩⟩
      · refine zwif_eq (q := 34) (nx := 20) (by decide +kernel) (fun c4 => ?_) (fun c4 => ?_)
        · exfalso; omega
        · refine zwW_p [(1, 0, 2)] (q := 21) (ls' := [(2, 37), (0, a), (0, b)]) (st' := [(2, 37)]) (by decide +kernel) rfl ?_
          refine zwW_gc I (kd := 13) (bn := 7) (n := 97) (c := 66) (nx := 24) (by decide +kernel) ?_
          refine zwW_p [(1, 1, 0)] (q := 25) (ls' := [(2, 37), (0, a), (0, b)]) (st' := [(0, a), (2, 66)]) (by decide +kernel) rfl ?_
          have ib1 : 0 ≤ a ∧ a < ((8 : Nat) : Int) := (by first | omega | exact ⟨by omega, by omega⟩)
          refine zwW_al I (a1 := 66) (a2 := 66) (kd := 20) (n := 8) (t := 0) (lo := -2147483648) (hi := 2147483647) (nx := 26) (by decide +kernel) (by first | decide | exact ⟨by decide, by decide⟩) ib1 ?_
          intro v5 ev5 lv5 uv5
          have sv5 : v5 = (yM h) 66 a.toNat := Eq.trans ev5 (Eq.trans (Eq.symm (yM_p (h := h) (a := 66) (n := 8) (i := a.toNat) rfl (zit ib1))) (Eq.trans (congrFun (congrFun (rfl : yM h = yM h) 66) a.toNat) rfl))
          refine zwW_p [(1, 2, 0)] (q := 27) (ls' := [(2, 37), (0, a), (0, b)]) (st' := [(0, b), (0, v5)]) (by decide +kernel) rfl ?_
          refine zwW_adw (nx := 28) (by decide +kernel) ?_
          intro v6 ev6 lv6 uv6
          have Ev6 : v6 = w32 (((yM h) 66 a.toNat) + b) := by rw [ev6, sv5]
          refine zwW_p [(0, 9999, 0)] (q := 31) (ls' := [(2, 37), (0, a), (0, b)]) (st' := [(0, 9999), (0, v6)]) (by decide +kernel) rfl ?_
          refine zwic_le (q := 36) (nx := 34) (by decide +kernel) (fun c7 => ?_) (fun c7 => ?_)
          · refine zwW_p [(1, 0, 2)] (q := 37) (ls' := [(2, 37), (0, a), (0, b)]) (st' := [(2, 37)]) (by decide +kernel) rfl ?_
            refine zwW_gc I (kd := 13) (bn := 7) (n := 97) (c := 66) (nx := 40) (by decide +kernel) ?_
            refine zwW_p [(1, 1, 0), (14, 0, 0)] (q := 42) (ls' := [(2, 37), (0, a), (0, b)]) (st' := [(0, a), (2, 66), (0, a), (2, 66)]) (by decide +kernel) rfl ?_
            refine zwW_al I (a1 := 66) (a2 := 66) (kd := 20) (n := 8) (t := 0) (lo := -2147483648) (hi := 2147483647) (nx := 43) (by decide +kernel) (by first | decide | exact ⟨by decide, by decide⟩) ib1 ?_
            intro v8 ev8 lv8 uv8
            have sv8 : v8 = (yM h) 66 a.toNat := Eq.trans ev8 (Eq.trans (Eq.symm (yM_p (h := h) (a := 66) (n := 8) (i := a.toNat) rfl (zit ib1))) (Eq.trans (congrFun (congrFun (rfl : yM h = yM h) 66) a.toNat) rfl))
            refine zwW_p [(1, 2, 0)] (q := 44) (ls' := [(2, 37), (0, a), (0, b)]) (st' := [(0, b), (0, v8), (0, a), (2, 66)]) (by decide +kernel) rfl ?_
            refine zwW_adw (nx := 45) (by decide +kernel) ?_
            intro v9 ev9 lv9 uv9
            have Ev9 : v9 = w32 (((yM h) 66 a.toNat) + b) := by rw [ev9, sv8]
            refine zwW_as I (a1 := 66) (a2 := 66) (n := 8) (lo := -2147483648) (hi := 2147483647) (nx := 46) (by decide +kernel) (by first | decide | exact ⟨by decide, by decide⟩) ib1 (by first | omega | exact ⟨by omega, by omega⟩) ?_
            intro h10 eh10 Ih10
            have jbh10 : 0 ≤ a.toNat ∧ a.toNat < 8 := ⟨Nat.zero_le _, zit ib1⟩
            have Zh10 : yM h10 = (zs (yM h) 66 a.toNat (w32 (((yM h) 66 a.toNat) + b))) := by rw [yM_w (a := 66) (n := 8) (i := a.toNat) (kd := 20) rfl (I.s (a1 := 66) (a2 := 66) (by decide +kernel) (by decide) (by decide)) jbh10.2 eh10, Ev9]
            have Rh10 : zMR ms18 h h10 := R.w (a1 := 66) (a2 := 66) (j1 := 0) (j2 := 8) (by decide +kernel) (by first | decide | exact ⟨by decide, by decide⟩) jbh10 eh10
            refine zwW_p [(1, 0, 2)] (q := 47) (ls' := [(2, 37), (0, a), (0, b)]) (st' := [(2, 37)]) (by decide +kernel) rfl ?_
            refine zwW_gc Ih10 (kd := 13) (bn := 7) (n := 97) (c := 66) (nx := 50) (by decide +kernel) ?_
            refine zwW_p [(1, 1, 0)] (q := 51) (ls' := [(2, 37), (0, a), (0, b)]) (st' := [(0, a), (2, 66)]) (by decide +kernel) rfl ?_
            refine zwW_al Ih10 (a1 := 66) (a2 := 66) (kd := 20) (n := 8) (t := 0) (lo := -2147483648) (hi := 2147483647) (nx := 52) (by decide +kernel) (by first | decide | exact ⟨by decide, by decide⟩) ib1 ?_
            intro v11 ev11 lv11 uv11
            have sv11 : v11 = (w32 (((yM h) 66 a.toNat) + b)) := Eq.trans ev11 (Eq.trans (Eq.symm (yM_p (h := h10) (a := 66) (n := 8) (i := a.toNat) rfl (zit ib1))) (Eq.trans (congrFun (congrFun Zh10 66) a.toNat) (zs_eq : (zs (yM h) 66 a.toNat (w32 (((yM h) 66 a.toNat) + b))) 66 a.toNat = (w32 (((yM h) 66 a.toNat) + b)))))
            refine zwW_ret (nx := 53) (a := 0) (b := 0) (by decide +kernel) rfl (Or.inl rfl) ?_
            exact ⟨Ih10, Rh10, by omega, by unfold yCottA; (repeat' (first | rw [if_pos (by omega)] | rw [if_neg (by omega)])); all_goals (first | rfl | omega), by refine Eq.trans Zh10 ?_; unfold yCott; (repeat' (first | rw [if_pos (by omega)] | rw [if_neg (by omega)])); all_goals (repeat' (first | rfl | apply zs_cg | omega))⟩
          · refine zwW_p [(0, -1, 0)] (q := 35) (ls' := [(2, 37), (0, a), (0, b)]) (st' := [(0, -1)]) (by decide +kernel) rfl ?_
            refine zwW_ret (nx := 36) (a := 0) (b := 0) (by decide +kernel) rfl (Or.inl rfl) ?_
            exact ⟨I, R, by omega, by unfold yCottA; (repeat' (first | rw [if_neg (by omega)] | rw [if_pos (by omega)])); all_goals (first | rfl | omega), by refine Eq.trans (rfl : yM h = yM h) ?_; unfold yCott; (repeat' (first | rw [if_neg (by omega)] | rw [if_pos (by omega)])); all_goals (repeat' (first | rfl | apply zs_cg | omega))⟩
      · refine zwif_eq (q := 34) (nx := 20) (by decide +kernel) (fun c12 => ?_) (fun c12 => ?_)
        · refine zwW_p [(0, -1, 0)] (q := 35) (ls' := [(2, 37), (0, a), (0, b)]) (st' := [(0, -1)]) (by decide +kernel) rfl ?_
          refine zwW_ret (nx := 36) (a := 0) (b := 0) (by decide +kernel) rfl (Or.inl rfl) ?_
          exact ⟨I, R, by omega, by unfold yCottA; (repeat' (first | rw [if_neg (by omega)] | rw [if_pos (by omega)])); all_goals (first | rfl | omega), by refine Eq.trans (rfl : yM h = yM h) ?_; unfold yCott; (repeat' (first | rw [if_neg (by omega)] | rw [if_pos (by omega)])); all_goals (repeat' (first | rfl | apply zs_cg | omega))⟩
        · exfalso; omega
  · refine zwif_eq (q := 34) (nx := 8) (by decide +kernel) (fun c13 => ?_) (fun c13 => ?_)
    · refine zwW_p [(0, -1, 0)] (q := 35) (ls' := [(2, 37), (0, a), (0, b)]) (st' := [(0, -1)]) (by decide +kernel) rfl ?_
      refine zwW_ret (nx := 36) (a := 0) (b := 0) (by decide +kernel) rfl (Or.inl rfl) ?_
      exact ⟨I, R, by omega, by unfold yCottA; (repeat' (first | rw [if_neg (by omega)] | rw [if_pos (by omega)])); all_goals (first | rfl | omega), by refine Eq.trans (rfl : yM h = yM h) ?_; unfold yCott; (repeat' (first | rw [if_neg (by omega)] | rw [if_pos (by omega)])); all_goals (repeat' (first | rfl | apply zs_cg | omega))⟩
    · exfalso; omega
-- WheelLandModel.mill(II)I
theorem m54_z {sc : List Int} (h : Hp) (I : zI h) (a b : Int) : zwC sc 3 54 [(2, 37), (0, a), (0, b)] h (zwRt 0 (fun x g => zI g ∧ zMR ms54 h g ∧ (-2147483648 ≤ x ∧ x ≤ 2147483647) ∧ (x = yMillA (yM h) a b) ∧ (yM g = yMill (yM h) a b))) := by
  refine zwC_of (D := 2) 3 (by decide +kernel) rfl (ls := [(2, 37), (0, a), (0, b)]) rfl ?_
  have R : zMR ms54 h h := zMR.rf _ _
  have u0 : yM h 37 0 = fld h 37 0 := rfl
  have u1 : yM h 37 1 = fld h 37 1 := rfl
  have u2 : yM h 37 2 = fld h 37 2 := rfl
  have u64 : yM h 37 64 = fld h 37 64 := rfl
  have u78 : yM h 37 78 = fld h 37 78 := rfl
  refine zwW_p [(1, 0, 2), (1, 1, 0)] (q := 2) (ls' := [(2, 37), (0, a), (0, b)]) (st' := [(0, a), (2, 37)]) (by decide +kernel) rfl ?_
  refine zwW_cm I (op := 60) (k' := 104) (n := 1) (kd := 13) (m := 97) (nx := 5) (r := 37) (tl := [(0, a)]) (st' := []) (by decide +kernel) rfl (by decide +kernel) rfl (m104 h I a) ?_
  rintro x _ ⟨rfl, ⟨rfl, c1⟩ | ⟨rfl, c1⟩⟩
  · refine zwif_eq (q := 34) (nx := 8) (by decide +kernel) (fun c2 => ?_) (fun c2 => ?_)
    · exfalso; omega
    · refine zwW_p [(1, 2, 0), (7, 0, 0), (0, 1, 1), (0, 999, 1)] (q := 14) (ls' := [(2, 37), (0, a), (0, b)]) (st' := [(1, 999), (1, 1), (1, b)]) (by decide +kernel) rfl ?_
      refine zwW_cs (k' := 101) (n := 3) (nx := 17) (as := [(1, b), (1, 1), (1, 999)]) (st' := []) (by decide +kernel) rfl (m101 h b 1 999) rfl ?_
      rintro x _ ⟨rfl, ⟨rfl, c3⟩ | ⟨rfl, c3⟩⟩
      · refine zwif_eq (q := 34) (nx := 20) (by decide +kernel) (fun c4 => ?_) (fun c4 => ?_)
        · exfalso; omega
        · refine zwW_p [(1, 0, 2)] (q := 21) (ls' := [(2, 37), (0, a), (0, b)]) (st' := [(2, 37)]) (by decide +kernel) rfl ?_
          refine zwW_gc I (kd := 13) (bn := 10) (n := 97) (c := 69) (nx := 24) (by decide +kernel) ?_
          refine zwW_p [(1, 1, 0)] (q := 25) (ls' := [(2, 37), (0, a), (0, b)]) (st' := [(0, a), (2, 69)]) (by decide +kernel) rfl ?_
          have ib1 : 0 ≤ a ∧ a < ((8 : Nat) : Int) := (by first | omega | exact ⟨by omega, by omega⟩)
          refine zwW_al I (a1 := 69) (a2 := 69) (kd := 20) (n := 8) (t := 0) (lo := -2147483648) (hi := 2147483647) (nx := 26) (by decide +kernel) (by first | decide | exact ⟨by decide, by decide⟩) ib1 ?_
          intro v5 ev5 lv5 uv5
          have sv5 : v5 = (yM h) 69 a.toNat := Eq.trans ev5 (Eq.trans (Eq.symm (yM_p (h := h) (a := 69) (n := 8) (i := a.toNat) rfl (zit ib1))) (Eq.trans (congrFun (congrFun (rfl : yM h = yM h) 69) a.toNat) rfl))
          refine zwW_p [(1, 2, 0)] (q := 27) (ls' := [(2, 37), (0, a), (0, b)]) (st' := [(0, b), (0, v5)]) (by decide +kernel) rfl ?_
          refine zwW_adw (nx := 28) (by decide +kernel) ?_
          intro v6 ev6 lv6 uv6
          have Ev6 : v6 = w32 (((yM h) 69 a.toNat) + b) := by rw [ev6, sv5]
          refine zwW_p [(0, 9999, 0)] (q := 31) (ls' := [(2, 37), (0, a), (0, b)]) (st' := [(0, 9999), (0, v6)]) (by decide +kernel) rfl ?_
          refine zwic_le (q := 36) (nx := 34) (by decide +kernel) (fun c7 => ?_) (fun c7 => ?_)
          · refine zwW_p [(1, 0, 2)] (q := 37) (ls' := [(2, 37), (0, a), (0, b)]) (st' := [(2, 37)]) (by decide +kernel) rfl ?_
            refine zwW_gc I (kd := 13) (bn := 10) (n := 97) (c := 69) (nx := 40) (by decide +kernel) ?_
            refine zwW_p [(1, 1, 0), (14, 0, 0)] (q := 42) (ls' := [(2, 37), (0, a), (0, b)]) (st' := [(0, a), (2, 69), (0, a), (2, 69)]) (by decide +kernel) rfl ?_
            refine zwW_al I (a1 := 69) (a2 := 69) (kd := 20) (n := 8) (t := 0) (lo := -2147483648) (hi := 2147483647) (nx := 43) (by decide +kernel) (by first | decide | exact ⟨by decide, by decide⟩) ib1 ?_
            intro v8 ev8 lv8 uv8
            have sv8 : v8 = (yM h) 69 a.toNat := Eq.trans ev8 (Eq.trans (Eq.symm (yM_p (h := h) (a := 69) (n := 8) (i := a.toNat) rfl (zit ib1))) (Eq.trans (congrFun (congrFun (rfl : yM h = yM h) 69) a.toNat) rfl))
            refine zwW_p [(1, 2, 0)] (q := 44) (ls' := [(2, 37), (0, a), (0, b)]) (st' := [(0, b), (0, v8), (0, a), (2, 69)]) (by decide +kernel) rfl ?_
            refine zwW_adw (nx := 45) (by decide +kernel) ?_
            intro v9 ev9 lv9 uv9
            have Ev9 : v9 = w32 (((yM h) 69 a.toNat) + b) := by rw [ev9, sv8]
            refine zwW_as I (a1 := 69) (a2 := 69) (n := 8) (lo := -2147483648) (hi := 2147483647) (nx := 46) (by decide +kernel) (by first | decide | exact ⟨by decide, by decide⟩) ib1 (by first | omega | exact ⟨by omega, by omega⟩) ?_
            intro h10 eh10 Ih10
            have jbh10 : 0 ≤ a.toNat ∧ a.toNat < 8 := ⟨Nat.zero_le _, zit ib1⟩
            have Zh10 : yM h10 = (zs (yM h) 69 a.toNat (w32 (((yM h) 69 a.toNat) + b))) := by rw [yM_w (a := 69) (n := 8) (i := a.toNat) (kd := 20) rfl (I.s (a1 := 69) (a2 := 69) (by decide +kernel) (by decide) (by decide)) jbh10.2 eh10, Ev9]
            have Rh10 : zMR ms54 h h10 := R.w (a1 := 69) (a2 := 69) (j1 := 0) (j2 := 8) (by decide +kernel) (by first | decide | exact ⟨by decide, by decide⟩) jbh10 eh10
            refine zwW_p [(1, 0, 2)] (q := 47) (ls' := [(2, 37), (0, a), (0, b)]) (st' := [(2, 37)]) (by decide +kernel) rfl ?_
            refine zwW_gc Ih10 (kd := 13) (bn := 10) (n := 97) (c := 69) (nx := 50) (by decide +kernel) ?_
            refine zwW_p [(1, 1, 0)] (q := 51) (ls' := [(2, 37), (0, a), (0, b)]) (st' := [(0, a), (2, 69)]) (by decide +kernel) rfl ?_
            refine zwW_al Ih10 (a1 := 69) (a2 := 69) (kd := 20) (n := 8) (t := 0) (lo := -2147483648) (hi := 2147483647) (nx := 52) (by decide +kernel) (by first | decide | exact ⟨by decide, by decide⟩) ib1 ?_
            intro v11 ev11 lv11 uv11
            have sv11 : v11 = (w32 (((yM h) 69 a.toNat) + b)) := Eq.trans ev11 (Eq.trans (Eq.symm (yM_p (h := h10) (a := 69) (n := 8) (i := a.toNat) rfl (zit ib1))) (Eq.trans (congrFun (congrFun Zh10 69) a.toNat) (zs_eq : (zs (yM h) 69 a.toNat (w32 (((yM h) 69 a.toNat) + b))) 69 a.toNat = (w32 (((yM h) 69 a.toNat) + b)))))
            refine zwW_ret (nx := 53) (a := 0) (b := 0) (by decide +kernel) rfl (Or.inl rfl) ?_
            exact ⟨Ih10, Rh10, by omega, by unfold yMillA; (repeat' (first | rw [if_pos (by omega)] | rw [if_neg (by omega)])); all_goals (first | rfl | omega), by refine Eq.trans Zh10 ?_; unfold yMill; (repeat' (first | rw [if_pos (by omega)] | rw [if_neg (by omega)])); all_goals (repeat' (first | rfl | apply zs_cg | omega))⟩
          · refine zwW_p [(0, -1, 0)] (q := 35) (ls' := [(2, 37), (0, a), (0, b)]) (st' := [(0, -1)]) (by decide +kernel) rfl ?_
            refine zwW_ret (nx := 36) (a := 0) (b := 0) (by decide +kernel) rfl (Or.inl rfl) ?_
            exact ⟨I, R, by omega, by unfold yMillA; (repeat' (first | rw [if_neg (by omega)] | rw [if_pos (by omega)])); all_goals (first | rfl | omega), by refine Eq.trans (rfl : yM h = yM h) ?_; unfold yMill; (repeat' (first | rw [if_neg (by omega)] | rw [if_pos (by omega)])); all_goals (repeat' (first | rfl | apply zs_cg | omega))⟩
      · refine zwif_eq (q := 34) (nx := 20) (by decide +kernel) (fun c12 => ?_) (fun c12 => ?_)
        · refine zwW_p [(0, -1, 0)] (q := 35) (ls' := [(2, 37), (0, a), (0, b)]) (st' := [(0, -1)]) (by decide +kernel) rfl ?_
          refine zwW_ret (nx := 36) (a := 0) (b := 0) (by decide +kernel) rfl (Or.inl rfl) ?_
          exact ⟨I, R, by omega, by unfold yMillA; (repeat' (first | rw [if_neg (by omega)] | rw [if_pos (by omega)])); all_goals (first | rfl | omega), by refine Eq.trans (rfl : yM h = yM h) ?_; unfold yMill; (repeat' (first | rw [if_neg (by omega)] | rw [if_pos (by omega)])); all_goals (repeat' (first | rfl | apply zs_cg | omega))⟩
        · exfalso; omega
  · refine zwif_eq (q := 34) (nx := 8) (by decide +kernel) (fun c13 => ?_) (fun c13 => ?_)
    · refine zwW_p [(0, -1, 0)] (q := 35) (ls' := [(2, 37), (0, a), (0, b)]) (st' := [(0, -1)]) (by decide +kernel) rfl ?_
      refine zwW_ret (nx := 36) (a := 0) (b := 0) (by decide +kernel) rfl (Or.inl rfl) ?_
      exact ⟨I, R, by omega, by unfold yMillA; (repeat' (first | rw [if_neg (by omega)] | rw [if_pos (by omega)])); all_goals (first | rfl | omega), by refine Eq.trans (rfl : yM h = yM h) ?_; unfold yMill; (repeat' (first | rw [if_neg (by omega)] | rw [if_pos (by omega)])); all_goals (repeat' (first | rfl | apply zs_cg | omega))⟩
    · exfalso; omega
-- WheelLandModel.sold(II)I
theorem m64_z {sc : List Int} (h : Hp) (I : zI h) (a b : Int) : zwC sc 3 64 [(2, 37), (0, a), (0, b)] h (zwRt 0 (fun x g => zI g ∧ zMR ms64 h g ∧ (-2147483648 ≤ x ∧ x ≤ 2147483647) ∧ (x = ySoldA (yM h) a b) ∧ (yM g = ySold (yM h) a b))) := by
  refine zwC_of (D := 2) 3 (by decide +kernel) rfl (ls := [(2, 37), (0, a), (0, b)]) rfl ?_
  have R : zMR ms64 h h := zMR.rf _ _
  have u0 : yM h 37 0 = fld h 37 0 := rfl
  have u1 : yM h 37 1 = fld h 37 1 := rfl
  have u2 : yM h 37 2 = fld h 37 2 := rfl
  have u64 : yM h 37 64 = fld h 37 64 := rfl
  have u78 : yM h 37 78 = fld h 37 78 := rfl
  refine zwW_p [(1, 0, 2), (1, 1, 0)] (q := 2) (ls' := [(2, 37), (0, a), (0, b)]) (st' := [(0, a), (2, 37)]) (by decide +kernel) rfl ?_
  refine zwW_cm I (op := 60) (k' := 104) (n := 1) (kd := 13) (m := 97) (nx := 5) (r := 37) (tl := [(0, a)]) (st' := []) (by decide +kernel) rfl (by decide +kernel) rfl (m104 h I a) ?_
  rintro x _ ⟨rfl, ⟨rfl, c1⟩ | ⟨rfl, c1⟩⟩
  · refine zwif_eq (q := 34) (nx := 8) (by decide +kernel) (fun c2 => ?_) (fun c2 => ?_)
    · exfalso; omega
    · refine zwW_p [(1, 2, 0), (7, 0, 0), (0, 1, 1), (0, 999, 1)] (q := 14) (ls' := [(2, 37), (0, a), (0, b)]) (st' := [(1, 999), (1, 1), (1, b)]) (by decide +kernel) rfl ?_
      refine zwW_cs (k' := 101) (n := 3) (nx := 17) (as := [(1, b), (1, 1), (1, 999)]) (st' := []) (by decide +kernel) rfl (m101 h b 1 999) rfl ?_
      rintro x _ ⟨rfl, ⟨rfl, c3⟩ | ⟨rfl, c3⟩⟩
      · refine zwif_eq (q := 34) (nx := 20) (by decide +kernel) (fun c4 => ?_) (fun c4 => ?_)
        · exfalso; omega
        · refine zwW_p [(1, 0, 2)] (q := 21) (ls' := [(2, 37), (0, a), (0, b)]) (st' := [(2, 37)]) (by decide +kernel) rfl ?_
          refine zwW_gc I (kd := 13) (bn := 15) (n := 97) (c := 74) (nx := 24) (by decide +kernel) ?_
          refine zwW_p [(1, 1, 0)] (q := 25) (ls' := [(2, 37), (0, a), (0, b)]) (st' := [(0, a), (2, 74)]) (by decide +kernel) rfl ?_
          have ib1 : 0 ≤ a ∧ a < ((8 : Nat) : Int) := (by first | omega | exact ⟨by omega, by omega⟩)
          refine zwW_al I (a1 := 74) (a2 := 74) (kd := 20) (n := 8) (t := 0) (lo := 0) (hi := 9999) (nx := 26) (by decide +kernel) (by first | decide | exact ⟨by decide, by decide⟩) ib1 ?_
          intro v5 ev5 lv5 uv5
          have sv5 : v5 = (yM h) 74 a.toNat := Eq.trans ev5 (Eq.trans (Eq.symm (yM_p (h := h) (a := 74) (n := 8) (i := a.toNat) rfl (zit ib1))) (Eq.trans (congrFun (congrFun (rfl : yM h = yM h) 74) a.toNat) rfl))
          refine zwW_p [(1, 2, 0)] (q := 27) (ls' := [(2, 37), (0, a), (0, b)]) (st' := [(0, b), (0, v5)]) (by decide +kernel) rfl ?_
          refine zwW_add (nx := 28) (by decide +kernel) (by first | omega | exact ⟨by omega, by omega⟩) ?_
          refine zwW_p [(0, 9999, 0)] (q := 31) (ls' := [(2, 37), (0, a), (0, b)]) (st' := [(0, 9999), (0, (v5 + b))]) (by decide +kernel) rfl ?_
          refine zwic_le (q := 36) (nx := 34) (by decide +kernel) (fun c6 => ?_) (fun c6 => ?_)
          · refine zwW_p [(1, 0, 2)] (q := 37) (ls' := [(2, 37), (0, a), (0, b)]) (st' := [(2, 37)]) (by decide +kernel) rfl ?_
            refine zwW_gc I (kd := 13) (bn := 15) (n := 97) (c := 74) (nx := 40) (by decide +kernel) ?_
            refine zwW_p [(1, 1, 0), (14, 0, 0)] (q := 42) (ls' := [(2, 37), (0, a), (0, b)]) (st' := [(0, a), (2, 74), (0, a), (2, 74)]) (by decide +kernel) rfl ?_
            refine zwW_al I (a1 := 74) (a2 := 74) (kd := 20) (n := 8) (t := 0) (lo := 0) (hi := 9999) (nx := 43) (by decide +kernel) (by first | decide | exact ⟨by decide, by decide⟩) ib1 ?_
            intro v7 ev7 lv7 uv7
            have sv7 : v7 = (yM h) 74 a.toNat := Eq.trans ev7 (Eq.trans (Eq.symm (yM_p (h := h) (a := 74) (n := 8) (i := a.toNat) rfl (zit ib1))) (Eq.trans (congrFun (congrFun (rfl : yM h = yM h) 74) a.toNat) rfl))
            refine zwW_p [(1, 2, 0)] (q := 44) (ls' := [(2, 37), (0, a), (0, b)]) (st' := [(0, b), (0, v7), (0, a), (2, 74)]) (by decide +kernel) rfl ?_
            refine zwW_add (nx := 45) (by decide +kernel) (by first | omega | exact ⟨by omega, by omega⟩) ?_
            refine zwW_as I (a1 := 74) (a2 := 74) (n := 8) (lo := 0) (hi := 9999) (nx := 46) (by decide +kernel) (by first | decide | exact ⟨by decide, by decide⟩) ib1 (by first | omega | exact ⟨by omega, by omega⟩) ?_
            intro h8 eh8 Ih8
            have jbh8 : 0 ≤ a.toNat ∧ a.toNat < 8 := ⟨Nat.zero_le _, zit ib1⟩
            have Zh8 : yM h8 = (zs (yM h) 74 a.toNat (((yM h) 74 a.toNat) + b)) := by rw [yM_w (a := 74) (n := 8) (i := a.toNat) (kd := 20) rfl (I.s (a1 := 74) (a2 := 74) (by decide +kernel) (by decide) (by decide)) jbh8.2 eh8, sv7]
            have Rh8 : zMR ms64 h h8 := R.w (a1 := 74) (a2 := 74) (j1 := 0) (j2 := 8) (by decide +kernel) (by first | decide | exact ⟨by decide, by decide⟩) jbh8 eh8
            refine zwW_p [(1, 0, 2)] (q := 47) (ls' := [(2, 37), (0, a), (0, b)]) (st' := [(2, 37)]) (by decide +kernel) rfl ?_
            refine zwW_gc Ih8 (kd := 13) (bn := 15) (n := 97) (c := 74) (nx := 50) (by decide +kernel) ?_
            refine zwW_p [(1, 1, 0)] (q := 51) (ls' := [(2, 37), (0, a), (0, b)]) (st' := [(0, a), (2, 74)]) (by decide +kernel) rfl ?_
            refine zwW_al Ih8 (a1 := 74) (a2 := 74) (kd := 20) (n := 8) (t := 0) (lo := 0) (hi := 9999) (nx := 52) (by decide +kernel) (by first | decide | exact ⟨by decide, by decide⟩) ib1 ?_
            intro v9 ev9 lv9 uv9
            have sv9 : v9 = (((yM h) 74 a.toNat) + b) := Eq.trans ev9 (Eq.trans (Eq.symm (yM_p (h := h8) (a := 74) (n := 8) (i := a.toNat) rfl (zit ib1))) (Eq.trans (congrFun (congrFun Zh8 74) a.toNat) (zs_eq : (zs (yM h) 74 a.toNat (((yM h) 74 a.toNat) + b)) 74 a.toNat = (((yM h) 74 a.toNat) + b))))
            refine zwW_ret (nx := 53) (a := 0) (b := 0) (by decide +kernel) rfl (Or.inl rfl) ?_
            exact ⟨Ih8, Rh8, by omega, by unfold ySoldA; (repeat' (first | rw [if_pos (by omega)] | rw [if_neg (by omega)])); all_goals (first | rfl | omega), by refine Eq.trans Zh8 ?_; unfold ySold; (repeat' (first | rw [if_pos (by omega)] | rw [if_neg (by omega)])); all_goals (repeat' (first | rfl | apply zs_cg | omega))⟩
          · refine zwW_p [(0, -1, 0)] (q := 35) (ls' := [(2, 37), (0, a), (0, b)]) (st' := [(0, -1)]) (by decide +kernel) rfl ?_
            refine zwW_ret (nx := 36) (a := 0) (b := 0) (by decide +kernel) rfl (Or.inl rfl) ?_
            exact ⟨I, R, by omega, by unfold ySoldA; (repeat' (first | rw [if_neg (by omega)] | rw [if_pos (by omega)])); all_goals (first | rfl | omega), by refine Eq.trans (rfl : yM h = yM h) ?_; unfold ySold; (repeat' (first | rw [if_neg (by omega)] | rw [if_pos (by omega)])); all_goals (repeat' (first | rfl | apply zs_cg | omega))⟩
      · refine zwif_eq (q := 34) (nx := 20) (by decide +kernel) (fun c10 => ?_) (fun c10 => ?_)
        · refine zwW_p [(0, -1, 0)] (q := 35) (ls' := [(2, 37), (0, a), (0, b)]) (st' := [(0, -1)]) (by decide +kernel) rfl ?_
          refine zwW_ret (nx := 36) (a := 0) (b := 0) (by decide +kernel) rfl (Or.inl rfl) ?_
          exact ⟨I, R, by omega, by unfold ySoldA; (repeat' (first | rw [if_neg (by omega)] | rw [if_pos (by omega)])); all_goals (first | rfl | omega), by refine Eq.trans (rfl : yM h = yM h) ?_; unfold ySold; (repeat' (first | rw [if_neg (by omega)] | rw [if_pos (by omega)])); all_goals (repeat' (first | rfl | apply zs_cg | omega))⟩
        · exfalso; omega
  · refine zwif_eq (q := 34) (nx := 8) (by decide +kernel) (fun c11 => ?_) (fun c11 => ?_)
    · refine zwW_p [(0, -1, 0)] (q := 35) (ls' := [(2, 37), (0, a), (0, b)]) (st' := [(0, -1)]) (by decide +kernel) rfl ?_
      refine zwW_ret (nx := 36) (a := 0) (b := 0) (by decide +kernel) rfl (Or.inl rfl) ?_
      exact ⟨I, R, by omega, by unfold ySoldA; (repeat' (first | rw [if_neg (by omega)] | rw [if_pos (by omega)])); all_goals (first | rfl | omega), by refine Eq.trans (rfl : yM h = yM h) ?_; unfold ySold; (repeat' (first | rw [if_neg (by omega)] | rw [if_pos (by omega)])); all_goals (repeat' (first | rfl | apply zs_cg | omega))⟩
    · exfalso; omega
-- WheelLandModel.price(II)Z
theorem m56_z {sc : List Int} (h : Hp) (I : zI h) (a b : Int) (q_b : -2147483648 ≤ b ∧ b ≤ 2147483647) : zwC sc 3 56 [(2, 37), (0, a), (0, b)] h (zwRt 0 (fun x g => zI g ∧ zMR ms56 h g ∧ (-2147483648 ≤ x ∧ x ≤ 2147483647) ∧ (x = yPricA (yM h) a b) ∧ (yM g = yPric (yM h) a b))) := by
  refine zwC_of (D := 2) 3 (by decide +kernel) rfl (ls := [(2, 37), (0, a), (0, b)]) rfl ?_
  have R : zMR ms56 h h := zMR.rf _ _
  have u0 : yM h 37 0 = fld h 37 0 := rfl
  have u1 : yM h 37 1 = fld h 37 1 := rfl
  have u2 : yM h 37 2 = fld h 37 2 := rfl
  have u64 : yM h 37 64 = fld h 37 64 := rfl
  have u78 : yM h 37 78 = fld h 37 78 := rfl
  refine zwW_p [(1, 0, 2), (1, 1, 0)] (q := 2) (ls' := [(2, 37), (0, a), (0, b)]) (st' := [(0, a), (2, 37)]) (by decide +kernel) rfl ?_
  refine zwW_cm I (op := 60) (k' := 104) (n := 1) (kd := 13) (m := 97) (nx := 5) (r := 37) (tl := [(0, a)]) (st' := []) (by decide +kernel) rfl (by decide +kernel) rfl (m104 h I a) ?_
  rintro x _ ⟨rfl, ⟨rfl, c1⟩ | ⟨rfl, c1⟩⟩
  · refine zwif_eq (q := 34) (nx := 8) (by decide +kernel) (fun c2 => ?_) (fun c2 => ?_)
    · exfalso; omega
    · refine zwW_p [(1, 2, 0)] (q := 9) (ls' := [(2, 37), (0, a), (0, b)]) (st' := [(0, b)]) (by decide +kernel) rfl ?_
      refine zwif_lt (q := 34) (nx := 12) (by decide +kernel) (fun c3 => ?_) (fun c3 => ?_)
      · refine zwW_p [(0, 0, 0)] (q := 35) (ls' := [(2, 37), (0, a), (0, b)]) (st' := [(0, 0)]) (by decide +kernel) rfl ?_
        refine zwW_ret (nx := 36) (a := 1) (b := 0) (by decide +kernel) rfl (Or.inr (Or.inl ⟨rfl, Or.inl rfl⟩)) ?_
        exact ⟨I, R, by omega, by unfold yPricA; (repeat' (first | rw [if_pos (by omega)] | rw [if_neg (by omega)])); all_goals (first | rfl | omega), by refine Eq.trans (rfl : yM h = yM h) ?_; unfold yPric; (repeat' (first | rw [if_pos (by omega)] | rw [if_neg (by omega)])); all_goals (repeat' (first | rfl | apply zs_cg | omega))⟩
      · refine zwW_p [(1, 2, 0), (0, 100, 0)] (q := 15) (ls' := [(2, 37), (0, a), (0, b)]) (st' := [(0, 100), (0, b)]) (by decide +kernel) rfl ?_
        refine zwW_div (nx := 16) (by decide +kernel) (by omega) (by omega) (by omega) ?_
        refine zwW_p [(7, 0, 0), (0, 1, 1), (0, 99, 1)] (q := 21) (ls' := [(2, 37), (0, a), (0, b)]) (st' := [(1, 99), (1, 1), (1, (b / 100))]) (by decide +kernel) rfl ?_
        refine zwW_cs (k' := 101) (n := 3) (nx := 24) (as := [(1, (b / 100)), (1, 1), (1, 99)]) (st' := []) (by decide +kernel) rfl (m101 h (b / 100) 1 99) rfl ?_
        rintro x _ ⟨rfl, ⟨rfl, c4⟩ | ⟨rfl, c4⟩⟩
        · refine zwif_eq (q := 34) (nx := 27) (by decide +kernel) (fun c5 => ?_) (fun c5 => ?_)
          · exfalso; omega
          · refine zwW_p [(1, 2, 0), (0, 100, 0)] (q := 30) (ls' := [(2, 37), (0, a), (0, b)]) (st' := [(0, 100), (0, b)]) (by decide +kernel) rfl ?_
            refine zwW_rem (nx := 31) (by decide +kernel) (by omega) (by omega) ?_
            refine zwif_ne (q := 36) (nx := 34) (by decide +kernel) (fun c6 => ?_) (fun c6 => ?_)
            · refine zwW_p [(1, 0, 2)] (q := 37) (ls' := [(2, 37), (0, a), (0, b)]) (st' := [(2, 37)]) (by decide +kernel) rfl ?_
              refine zwW_gc I (kd := 13) (bn := 11) (n := 97) (c := 70) (nx := 40) (by decide +kernel) ?_
              refine zwW_p [(1, 1, 0), (1, 2, 0), (0, 100, 0)] (q := 44) (ls' := [(2, 37), (0, a), (0, b)]) (st' := [(0, 100), (0, b), (0, a), (2, 70)]) (by decide +kernel) rfl ?_
              refine zwW_div (nx := 45) (by decide +kernel) (by omega) (by omega) (by omega) ?_
              have ib1 : 0 ≤ a ∧ a < ((8 : Nat) : Int) := (by first | omega | exact ⟨by omega, by omega⟩)
              refine zwW_as I (a1 := 70) (a2 := 70) (n := 8) (lo := -2147483648) (hi := 2147483647) (nx := 46) (by decide +kernel) (by first | decide | exact ⟨by decide, by decide⟩) ib1 (by first | omega | exact ⟨by omega, by omega⟩) ?_
              intro h7 eh7 Ih7
              have jbh7 : 0 ≤ a.toNat ∧ a.toNat < 8 := ⟨Nat.zero_le _, zit ib1⟩
              have Zh7 : yM h7 = (zs (yM h) 70 a.toNat (b / 100)) := by rw [yM_w (a := 70) (n := 8) (i := a.toNat) (kd := 20) rfl (I.s (a1 := 70) (a2 := 70) (by decide +kernel) (by decide) (by decide)) jbh7.2 eh7]
              have Rh7 : zMR ms56 h h7 := R.w (a1 := 70) (a2 := 70) (j1 := 0) (j2 := 8) (by decide +kernel) (by first | decide | exact ⟨by decide, by decide⟩) jbh7 eh7
              refine zwW_p [(1, 0, 2)] (q := 47) (ls' := [(2, 37), (0, a), (0, b)]) (st' := [(2, 37)]) (by decide +kernel) rfl ?_
              refine zwW_gc Ih7 (kd := 13) (bn := 12) (n := 97) (c := 71) (nx := 50) (by decide +kernel) ?_
              refine zwW_p [(1, 1, 0), (1, 2, 0), (0, 100, 0)] (q := 54) (ls' := [(2, 37), (0, a), (0, b)]) (st' := [(0, 100), (0, b), (0, a), (2, 71)]) (by decide +kernel) rfl ?_
              refine zwW_rem (nx := 55) (by decide +kernel) (by omega) (by omega) ?_
              refine zwW_as Ih7 (a1 := 71) (a2 := 71) (n := 8) (lo := -2147483648) (hi := 2147483647) (nx := 56) (by decide +kernel) (by first | decide | exact ⟨by decide, by decide⟩) ib1 (by first | omega | exact ⟨by omega, by omega⟩) ?_
              intro h8 eh8 Ih8
              have jbh8 : 0 ≤ a.toNat ∧ a.toNat < 8 := ⟨Nat.zero_le _, zit ib1⟩
              have Zh8 : yM h8 = (zs (zs (yM h) 70 a.toNat (b / 100)) 71 a.toNat (b % 100)) := by rw [yM_w (a := 71) (n := 8) (i := a.toNat) (kd := 20) rfl (Ih7.s (a1 := 71) (a2 := 71) (by decide +kernel) (by decide) (by decide)) jbh8.2 eh8, Zh7]
              have Rh8 : zMR ms56 h h8 := Rh7.w (a1 := 71) (a2 := 71) (j1 := 0) (j2 := 8) (by decide +kernel) (by first | decide | exact ⟨by decide, by decide⟩) jbh8 eh8
              refine zwW_p [(0, 1, 0)] (q := 57) (ls' := [(2, 37), (0, a), (0, b)]) (st' := [(0, 1)]) (by decide +kernel) rfl ?_
              refine zwW_ret (nx := 58) (a := 1) (b := 0) (by decide +kernel) rfl (Or.inr (Or.inl ⟨rfl, Or.inr rfl⟩)) ?_
              exact ⟨Ih8, Rh8, by omega, by unfold yPricA; (repeat' (first | rw [if_pos (by omega)] | rw [if_neg (by omega)])); all_goals (first | rfl | omega), by refine Eq.trans Zh8 ?_; unfold yPric; (repeat' (first | rw [if_pos (by omega)] | rw [if_neg (by omega)])); all_goals (repeat' (first | rfl | apply zs_cg | omega))⟩
            · refine zwW_p [(0, 0, 0)] (q := 35) (ls' := [(2, 37), (0, a), (0, b)]) (st' := [(0, 0)]) (by decide +kernel) rfl ?_
              refine zwW_ret (nx := 36) (a := 1) (b := 0) (by decide +kernel) rfl (Or.inr (Or.inl ⟨rfl, Or.inl rfl⟩)) ?_
              exact ⟨I, R, by omega, by unfold yPricA; (repeat' (first | rw [if_pos (by omega)] | rw [if_neg (by omega)])); all_goals (first | rfl | omega), by refine Eq.trans (rfl : yM h = yM h) ?_; unfold yPric; (repeat' (first | rw [if_pos (by omega)] | rw [if_neg (by omega)])); all_goals (repeat' (first | rfl | apply zs_cg | omega))⟩
        · refine zwif_eq (q := 34) (nx := 27) (by decide +kernel) (fun c9 => ?_) (fun c9 => ?_)
          · refine zwW_p [(0, 0, 0)] (q := 35) (ls' := [(2, 37), (0, a), (0, b)]) (st' := [(0, 0)]) (by decide +kernel) rfl ?_
            refine zwW_ret (nx := 36) (a := 1) (b := 0) (by decide +kernel) rfl (Or.inr (Or.inl ⟨rfl, Or.inl rfl⟩)) ?_
            exact ⟨I, R, by omega, by unfold yPricA; (repeat' (first | rw [if_pos (by omega)] | rw [if_neg (by omega)])); all_goals (first | rfl | omega), by refine Eq.trans (rfl : yM h = yM h) ?_; unfold yPric; (repeat' (first | rw [if_pos (by omega)] | rw [if_neg (by omega)])); all_goals (repeat' (first | rfl | apply zs_cg | omega))⟩
          · exfalso; omega
  · refine zwif_eq (q := 34) (nx := 8) (by decide +kernel) (fun c10 => ?_) (fun c10 => ?_)
    · refine zwW_p [(0, 0, 0)] (q := 35) (ls' := [(2, 37), (0, a), (0, b)]) (st' := [(0, 0)]) (by decide +kernel) rfl ?_
      refine zwW_ret (nx := 36) (a := 1) (b := 0) (by decide +kernel) rfl (Or.inr (Or.inl ⟨rfl, Or.inl rfl⟩)) ?_
      exact ⟨I, R, by omega, by unfold yPricA; (repeat' (first | rw [if_pos (by omega)] | rw [if_neg (by omega)])); all_goals (first | rfl | omega), by refine Eq.trans (rfl : yM h = yM h) ?_; unfold yPric; (repeat' (first | rw [if_pos (by omega)] | rw [if_neg (by omega)])); all_goals (repeat' (first | rfl | apply zs_cg | omega))⟩
    · exfalso; omega
-- WheelLandModel.talk(II)I
theorem m58_z {sc : List Int} (h : Hp) (I : zI h) (a b : Int) : zwC sc 3 58 [(2, 37), (0, a), (0, b)] h (zwRt 0 (fun x g => zI g ∧ zMR ms58 h g ∧ (-2147483648 ≤ x ∧ x ≤ 2147483647) ∧ (x = yTalkA (yM h) a b) ∧ (yM g = yTalk (yM h) a b))) := by
  refine zwC_of (D := 2) 3 (by decide +kernel) rfl (ls := [(2, 37), (0, a), (0, b)]) rfl ?_
  have R : zMR ms58 h h := zMR.rf _ _
  have u0 : yM h 37 0 = fld h 37 0 := rfl
  have u1 : yM h 37 1 = fld h 37 1 := rfl
  have u2 : yM h 37 2 = fld h 37 2 := rfl
  have u64 : yM h 37 64 = fld h 37 64 := rfl
  have u78 : yM h 37 78 = fld h 37 78 := rfl
  refine zwW_p [(1, 0, 2), (1, 1, 0)] (q := 2) (ls' := [(2, 37), (0, a), (0, b)]) (st' := [(0, a), (2, 37)]) (by decide +kernel) rfl ?_
  refine zwW_cm I (op := 60) (k' := 104) (n := 1) (kd := 13) (m := 97) (nx := 5) (r := 37) (tl := [(0, a)]) (st' := []) (by decide +kernel) rfl (by decide +kernel) rfl (m104 h I a) ?_
  rintro x _ ⟨rfl, ⟨rfl, c1⟩ | ⟨rfl, c1⟩⟩
  · refine zwif_eq (q := 20) (nx := 8) (by decide +kernel) (fun c2 => ?_) (fun c2 => ?_)
    · exfalso; omega
    · refine zwW_p [(1, 2, 0), (7, 0, 0), (0, 0, 1), (0, 20, 1)] (q := 14) (ls' := [(2, 37), (0, a), (0, b)]) (st' := [(1, 20), (1, 0), (1, b)]) (by decide +kernel) rfl ?_
      refine zwW_cs (k' := 101) (n := 3) (nx := 17) (as := [(1, b), (1, 0), (1, 20)]) (st' := []) (by decide +kernel) rfl (m101 h b 0 20) rfl ?_
      rintro x _ ⟨rfl, ⟨rfl, c3⟩ | ⟨rfl, c3⟩⟩
      · refine zwif_ne (q := 22) (nx := 20) (by decide +kernel) (fun c4 => ?_) (fun c4 => ?_)
        · refine zwW_p [(1, 0, 2)] (q := 23) (ls' := [(2, 37), (0, a), (0, b)]) (st' := [(2, 37)]) (by decide +kernel) rfl ?_
          refine zwW_gc I (kd := 13) (bn := 13) (n := 97) (c := 72) (nx := 26) (by decide +kernel) ?_
          refine zwW_p [(1, 1, 0), (1, 2, 0)] (q := 28) (ls' := [(2, 37), (0, a), (0, b)]) (st' := [(0, b), (0, a), (2, 72)]) (by decide +kernel) rfl ?_
          have ib1 : 0 ≤ a ∧ a < ((8 : Nat) : Int) := (by first | omega | exact ⟨by omega, by omega⟩)
          refine zwW_as I (a1 := 72) (a2 := 72) (n := 8) (lo := -2147483648) (hi := 2147483647) (nx := 29) (by decide +kernel) (by first | decide | exact ⟨by decide, by decide⟩) ib1 (by first | omega | exact ⟨by omega, by omega⟩) ?_
          intro h5 eh5 Ih5
          have jbh5 : 0 ≤ a.toNat ∧ a.toNat < 8 := ⟨Nat.zero_le _, zit ib1⟩
          have Zh5 : yM h5 = (zs (yM h) 72 a.toNat b) := by rw [yM_w (a := 72) (n := 8) (i := a.toNat) (kd := 20) rfl (I.s (a1 := 72) (a2 := 72) (by decide +kernel) (by decide) (by decide)) jbh5.2 eh5]
          have Rh5 : zMR ms58 h h5 := R.w (a1 := 72) (a2 := 72) (j1 := 0) (j2 := 8) (by decide +kernel) (by first | decide | exact ⟨by decide, by decide⟩) jbh5 eh5
          refine zwW_p [(1, 2, 0)] (q := 30) (ls' := [(2, 37), (0, a), (0, b)]) (st' := [(0, b)]) (by decide +kernel) rfl ?_
          refine zwW_ret (nx := 31) (a := 0) (b := 0) (by decide +kernel) rfl (Or.inl rfl) ?_
          exact ⟨Ih5, Rh5, by omega, by unfold yTalkA; (repeat' (first | rw [if_pos (by omega)] | rw [if_neg (by omega)])); all_goals (first | rfl | omega), by refine Eq.trans Zh5 ?_; unfold yTalk; (repeat' (first | rw [if_pos (by omega)] | rw [if_neg (by omega)])); all_goals (repeat' (first | rfl | apply zs_cg | omega))⟩
        · exfalso; omega
      · refine zwif_ne (q := 22) (nx := 20) (by decide +kernel) (fun c6 => ?_) (fun c6 => ?_)
        · exfalso; omega
        · refine zwW_p [(0, -1, 0)] (q := 21) (ls' := [(2, 37), (0, a), (0, b)]) (st' := [(0, -1)]) (by decide +kernel) rfl ?_
          refine zwW_ret (nx := 22) (a := 0) (b := 0) (by decide +kernel) rfl (Or.inl rfl) ?_
          exact ⟨I, R, by omega, by unfold yTalkA; (repeat' (first | rw [if_neg (by omega)] | rw [if_pos (by omega)])); all_goals (first | rfl | omega), by refine Eq.trans (rfl : yM h = yM h) ?_; unfold yTalk; (repeat' (first | rw [if_neg (by omega)] | rw [if_pos (by omega)])); all_goals (repeat' (first | rfl | apply zs_cg | omega))⟩
  · refine zwif_eq (q := 20) (nx := 8) (by decide +kernel) (fun c7 => ?_) (fun c7 => ?_)
    · refine zwW_p [(0, -1, 0)] (q := 21) (ls' := [(2, 37), (0, a), (0, b)]) (st' := [(0, -1)]) (by decide +kernel) rfl ?_
      refine zwW_ret (nx := 22) (a := 0) (b := 0) (by decide +kernel) rfl (Or.inl rfl) ?_
      exact ⟨I, R, by omega, by unfold yTalkA; (repeat' (first | rw [if_neg (by omega)] | rw [if_pos (by omega)])); all_goals (first | rfl | omega), by refine Eq.trans (rfl : yM h = yM h) ?_; unfold yTalk; (repeat' (first | rw [if_neg (by omega)] | rw [if_pos (by omega)])); all_goals (repeat' (first | rfl | apply zs_cg | omega))⟩
    · exfalso; omega
-- WheelLandModel.gift(III)I
theorem m70_z {sc : List Int} (h : Hp) (I : zI h) (a b c : Int) : zwC sc 3 70 [(2, 37), (0, a), (0, b), (0, c)] h (zwRt 0 (fun x g => zI g ∧ zMR ms70 h g ∧ (-2147483648 ≤ x ∧ x ≤ 2147483647) ∧ (x = yGiftA (yM h) a b c) ∧ (yM g = yGift (yM h) a b c))) := by
  refine zwC_of (D := 2) 4 (by decide +kernel) rfl (ls := [(2, 37), (0, a), (0, b), (0, c)]) rfl ?_
  have R : zMR ms70 h h := zMR.rf _ _
  have u0 : yM h 37 0 = fld h 37 0 := rfl
  have u1 : yM h 37 1 = fld h 37 1 := rfl
  have u2 : yM h 37 2 = fld h 37 2 := rfl
  have u96 : yM h 37 96 = fld h 37 96 := rfl
  refine zwW_p [(1, 1, 0), (7, 0, 0), (0, 1, 1), (0, 99, 1)] (q := 6) (ls' := [(2, 37), (0, a), (0, b), (0, c)]) (st' := [(1, 99), (1, 1), (1, a)]) (by decide +kernel) rfl ?_
  refine zwW_cs (k' := 101) (n := 3) (nx := 9) (as := [(1, a), (1, 1), (1, 99)]) (st' := []) (by decide +kernel) rfl (m101 h a 1 99) rfl ?_
  rintro x _ ⟨rfl, ⟨rfl, c1⟩ | ⟨rfl, c1⟩⟩
  · refine zwif_eq (q := 41) (nx := 12) (by decide +kernel) (fun c2 => ?_) (fun c2 => ?_)
    · exfalso; omega
    · refine zwW_p [(1, 0, 2), (1, 2, 0)] (q := 14) (ls' := [(2, 37), (0, a), (0, b), (0, c)]) (st' := [(0, b), (2, 37)]) (by decide +kernel) rfl ?_
      refine zwW_cm I (op := 60) (k' := 111) (n := 1) (kd := 13) (m := 97) (nx := 17) (r := 37) (tl := [(0, b)]) (st' := []) (by decide +kernel) rfl (by decide +kernel) rfl (m111 h I b) ?_
      rintro x _ ⟨rfl, ⟨rfl, c3⟩ | ⟨rfl, c3⟩⟩
      · refine zwif_eq (q := 41) (nx := 20) (by decide +kernel) (fun c4 => ?_) (fun c4 => ?_)
        · exfalso; omega
        · refine zwW_p [(1, 3, 0), (7, 0, 0), (0, 0, 1), (0, 2, 1)] (q := 26) (ls' := [(2, 37), (0, a), (0, b), (0, c)]) (st' := [(1, 2), (1, 0), (1, c)]) (by decide +kernel) rfl ?_
          refine zwW_cs (k' := 101) (n := 3) (nx := 29) (as := [(1, c), (1, 0), (1, 2)]) (st' := []) (by decide +kernel) rfl (m101 h c 0 2) rfl ?_
          rintro x _ ⟨rfl, ⟨rfl, c5⟩ | ⟨rfl, c5⟩⟩
          · refine zwif_eq (q := 41) (nx := 32) (by decide +kernel) (fun c6 => ?_) (fun c6 => ?_)
            · exfalso; omega
            · refine zwW_p [(1, 0, 2)] (q := 33) (ls' := [(2, 37), (0, a), (0, b), (0, c)]) (st' := [(2, 37)]) (by decide +kernel) rfl ?_
              refine zwW_gs I (kd := 13) (bn := 96) (n := 97) (t := 0) (lo := 0) (hi := 8) (nx := 36) (by decide +kernel) ?_
              intro v7 ev7 lv7 uv7
              have sv7 : v7 = (yM h) 37 96 := Eq.trans ev7 (Eq.trans (Eq.symm (yM_s (h := h) (i := 96) rfl)) (Eq.trans (congrFun (congrFun (rfl : yM h = yM h) 37) 96) rfl))
              refine zwW_p [(0, 8, 0)] (q := 38) (ls' := [(2, 37), (0, a), (0, b), (0, c)]) (st' := [(0, 8), (0, v7)]) (by decide +kernel) rfl ?_
              refine zwic_ne (q := 43) (nx := 41) (by decide +kernel) (fun c8 => ?_) (fun c8 => ?_)
              · refine zwW_p [(1, 0, 2)] (q := 44) (ls' := [(2, 37), (0, a), (0, b), (0, c)]) (st' := [(2, 37)]) (by decide +kernel) rfl ?_
                refine zwW_gc I (kd := 13) (bn := 93) (n := 97) (c := 363) (nx := 47) (by decide +kernel) ?_
                refine zwW_p [(1, 0, 2)] (q := 48) (ls' := [(2, 37), (0, a), (0, b), (0, c)]) (st' := [(2, 37), (2, 363)]) (by decide +kernel) rfl ?_
                refine zwW_gs I (kd := 13) (bn := 96) (n := 97) (t := 0) (lo := 0) (hi := 8) (nx := 51) (by decide +kernel) ?_
                intro v9 ev9 lv9 uv9
                have sv9 : v9 = (yM h) 37 96 := Eq.trans ev9 (Eq.trans (Eq.symm (yM_s (h := h) (i := 96) rfl)) (Eq.trans (congrFun (congrFun (rfl : yM h = yM h) 37) 96) rfl))
                refine zwW_p [(1, 1, 0)] (q := 52) (ls' := [(2, 37), (0, a), (0, b), (0, c)]) (st' := [(0, a), (0, v9), (2, 363)]) (by decide +kernel) rfl ?_
                have ib1 : 0 ≤ v9 ∧ v9 < ((8 : Nat) : Int) := (by first | omega | exact ⟨by omega, by omega⟩)
                refine zwW_as I (a1 := 363) (a2 := 363) (n := 8) (lo := 0) (hi := 99) (nx := 53) (by decide +kernel) (by first | decide | exact ⟨by decide, by decide⟩) ib1 (by first | omega | exact ⟨by omega, by omega⟩) ?_
                intro h10 eh10 Ih10
                have jbh10 : 0 ≤ v9.toNat ∧ v9.toNat < 8 := ⟨Nat.zero_le _, zit ib1⟩
                have th10_37_96 : fld h10 37 96 = fld h 37 96 := by rw [eh10]; exact fld_wr (Or.inl (by decide))
                have Zh10 : yM h10 = (zs (yM h) 363 (((yM h) 37 96).toNat) a) := by rw [yM_w (a := 363) (n := 8) (i := v9.toNat) (kd := 20) rfl (I.s (a1 := 363) (a2 := 363) (by decide +kernel) (by decide) (by decide)) jbh10.2 eh10, sv9]
                have Rh10 : zMR ms70 h h10 := R.w (a1 := 363) (a2 := 363) (j1 := 0) (j2 := 8) (by decide +kernel) (by first | decide | exact ⟨by decide, by decide⟩) jbh10 eh10
                refine zwW_p [(1, 0, 2)] (q := 54) (ls' := [(2, 37), (0, a), (0, b), (0, c)]) (st' := [(2, 37)]) (by decide +kernel) rfl ?_
                refine zwW_gc Ih10 (kd := 13) (bn := 94) (n := 97) (c := 364) (nx := 57) (by decide +kernel) ?_
                refine zwW_p [(1, 0, 2)] (q := 58) (ls' := [(2, 37), (0, a), (0, b), (0, c)]) (st' := [(2, 37), (2, 364)]) (by decide +kernel) rfl ?_
                refine zwW_gs Ih10 (kd := 13) (bn := 96) (n := 97) (t := 0) (lo := 0) (hi := 8) (nx := 61) (by decide +kernel) ?_
                intro v11 ev11 lv11 uv11
                have sv11 : v11 = (yM h) 37 96 := Eq.trans ev11 (Eq.trans (Eq.symm (yM_s (h := h10) (i := 96) rfl)) (Eq.trans (congrFun (congrFun Zh10 37) 96) (Eq.trans (zs_na (by decide) : (zs (yM h) 363 (((yM h) 37 96).toNat) a) 37 96 = (yM h) 37 96) rfl)))
                refine zwW_p [(1, 2, 0)] (q := 62) (ls' := [(2, 37), (0, a), (0, b), (0, c)]) (st' := [(0, b), (0, v11), (2, 364)]) (by decide +kernel) rfl ?_
                have ib2 : 0 ≤ v11 ∧ v11 < ((8 : Nat) : Int) := (by first | omega | exact ⟨by omega, by omega⟩)
                refine zwW_as Ih10 (a1 := 364) (a2 := 364) (n := 8) (lo := 0) (hi := 19) (nx := 63) (by decide +kernel) (by first | decide | exact ⟨by decide, by decide⟩) ib2 (by first | omega | exact ⟨by omega, by omega⟩) ?_
                intro h12 eh12 Ih12
                have jbh12 : 0 ≤ v11.toNat ∧ v11.toNat < 8 := ⟨Nat.zero_le _, zit ib2⟩
                have th12_37_96 : fld h12 37 96 = fld h10 37 96 := by rw [eh12]; exact fld_wr (Or.inl (by decide))
                have Zh12 : yM h12 = (zs (zs (yM h) 363 (((yM h) 37 96).toNat) a) 364 (((yM h) 37 96).toNat) b) := by rw [yM_w (a := 364) (n := 8) (i := v11.toNat) (kd := 20) rfl (Ih10.s (a1 := 364) (a2 := 364) (by decide +kernel) (by decide) (by decide)) jbh12.2 eh12, Zh10, sv11]
                have Rh12 : zMR ms70 h h12 := Rh10.w (a1 := 364) (a2 := 364) (j1 := 0) (j2 := 8) (by decide +kernel) (by first | decide | exact ⟨by decide, by decide⟩) jbh12 eh12
                refine zwW_p [(1, 0, 2)] (q := 64) (ls' := [(2, 37), (0, a), (0, b), (0, c)]) (st' := [(2, 37)]) (by decide +kernel) rfl ?_
                refine zwW_gc Ih12 (kd := 13) (bn := 95) (n := 97) (c := 365) (nx := 67) (by decide +kernel) ?_
                refine zwW_p [(1, 0, 2)] (q := 68) (ls' := [(2, 37), (0, a), (0, b), (0, c)]) (st' := [(2, 37), (2, 365)]) (by decide +kernel) rfl ?_
                refine zwW_gs Ih12 (kd := 13) (bn := 96) (n := 97) (t := 0) (lo := 0) (hi := 8) (nx := 71) (by decide +kernel) ?_
                intro v13 ev13 lv13 uv13
                have sv13 : v13 = (yM h) 37 96 := Eq.trans ev13 (Eq.trans (Eq.symm (yM_s (h := h12) (i := 96) rfl)) (Eq.trans (congrFun (congrFun Zh12 37) 96) (Eq.trans (zs_na (by decide) : (zs (zs (yM h) 363 (((yM h) 37 96).toNat) a) 364 (((yM h) 37 96).toNat) b) 37 96 = (zs (yM h) 363 (((yM h) 37 96).toNat) a) 37 96) (Eq.trans (zs_na (by decide) : (zs (yM h) 363 (((yM h) 37 96).toNat) a) 37 96 = (yM h) 37 96) rfl))))
                refine zwW_p [(1, 3, 0)] (q := 72) (ls' := [(2, 37), (0, a), (0, b), (0, c)]) (st' := [(0, c), (0, v13), (2, 365)]) (by decide +kernel) rfl ?_
                have ib3 : 0 ≤ v13 ∧ v13 < ((8 : Nat) : Int) := (by first | omega | exact ⟨by omega, by omega⟩)
                refine zwW_as Ih12 (a1 := 365) (a2 := 365) (n := 8) (lo := 0) (hi := 2) (nx := 73) (by decide +kernel) (by first | decide | exact ⟨by decide, by decide⟩) ib3 (by first | omega | exact ⟨by omega, by omega⟩) ?_
                intro h14 eh14 Ih14
                have jbh14 : 0 ≤ v13.toNat ∧ v13.toNat < 8 := ⟨Nat.zero_le _, zit ib3⟩
                have th14_37_96 : fld h14 37 96 = fld h12 37 96 := by rw [eh14]; exact fld_wr (Or.inl (by decide))
                have Zh14 : yM h14 = (zs (zs (zs (yM h) 363 (((yM h) 37 96).toNat) a) 364 (((yM h) 37 96).toNat) b) 365 (((yM h) 37 96).toNat) c) := by rw [yM_w (a := 365) (n := 8) (i := v13.toNat) (kd := 20) rfl (Ih12.s (a1 := 365) (a2 := 365) (by decide +kernel) (by decide) (by decide)) jbh14.2 eh14, Zh12, sv13]
                have Rh14 : zMR ms70 h h14 := Rh12.w (a1 := 365) (a2 := 365) (j1 := 0) (j2 := 8) (by decide +kernel) (by first | decide | exact ⟨by decide, by decide⟩) jbh14 eh14
                refine zwW_p [(1, 0, 2), (12, 0, 0)] (q := 75) (ls' := [(2, 37), (0, a), (0, b), (0, c)]) (st' := [(2, 37), (2, 37)]) (by decide +kernel) rfl ?_
                refine zwW_gs Ih14 (kd := 13) (bn := 96) (n := 97) (t := 0) (lo := 0) (hi := 8) (nx := 78) (by decide +kernel) ?_
                intro v15 ev15 lv15 uv15
                have sv15 : v15 = (yM h) 37 96 := Eq.trans ev15 (Eq.trans (Eq.symm (yM_s (h := h14) (i := 96) rfl)) (Eq.trans (congrFun (congrFun Zh14 37) 96) (Eq.trans (zs_na (by decide) : (zs (zs (zs (yM h) 363 (((yM h) 37 96).toNat) a) 364 (((yM h) 37 96).toNat) b) 365 (((yM h) 37 96).toNat) c) 37 96 = (zs (zs (yM h) 363 (((yM h) 37 96).toNat) a) 364 (((yM h) 37 96).toNat) b) 37 96) (Eq.trans (zs_na (by decide) : (zs (zs (yM h) 363 (((yM h) 37 96).toNat) a) 364 (((yM h) 37 96).toNat) b) 37 96 = (zs (yM h) 363 (((yM h) 37 96).toNat) a) 37 96) (Eq.trans (zs_na (by decide) : (zs (yM h) 363 (((yM h) 37 96).toNat) a) 37 96 = (yM h) 37 96) rfl)))))
                refine zwW_p [(0, 1, 0)] (q := 79) (ls' := [(2, 37), (0, a), (0, b), (0, c)]) (st' := [(0, 1), (0, v15), (2, 37)]) (by decide +kernel) rfl ?_
                refine zwW_add (nx := 80) (by decide +kernel) (by first | omega | exact ⟨by omega, by omega⟩) ?_
                refine zwW_ps Ih14 (kd := 13) (bn := 96) (n := 97) (lo := 0) (hi := 8) (nx := 83) (by decide +kernel) (by first | omega | exact ⟨by omega, by omega⟩) ?_
                intro h16 eh16 Ih16
                have th16_37_96 : fld h16 37 96 = (v15 + 1) := by rw [eh16]; exact fld_wr_eq (Ih14.s (a1 := 37) (a2 := 37) (k := 13) (n := 97) (by decide +kernel) (by decide) (by decide)) (by decide)
                have Zh16 : yM h16 = (zs (zs (zs (zs (yM h) 363 (((yM h) 37 96).toNat) a) 364 (((yM h) 37 96).toNat) b) 365 (((yM h) 37 96).toNat) c) 37 96 (((yM h) 37 96) + 1)) := by rw [yM_ws (i := 96) (kd := 13) (n := 97) rfl (Ih14.s (a1 := 37) (a2 := 37) (by decide +kernel) (by decide) (by decide)) (by decide) eh16, Zh14, sv15]
                have Rh16 : zMR ms70 h h16 := Rh14.w (a1 := 37) (a2 := 37) (j1 := 96) (j2 := 97) (by decide +kernel) (by first | decide | exact ⟨by decide, by decide⟩) (by first | decide | exact ⟨by decide, by decide⟩) eh16
                refine zwW_p [(1, 0, 2)] (q := 84) (ls' := [(2, 37), (0, a), (0, b), (0, c)]) (st' := [(2, 37)]) (by decide +kernel) rfl ?_
                refine zwW_gs Ih16 (kd := 13) (bn := 96) (n := 97) (t := 0) (lo := 0) (hi := 8) (nx := 87) (by decide +kernel) ?_
                intro v17 ev17 lv17 uv17
                have sv17 : v17 = (((yM h) 37 96) + 1) := Eq.trans ev17 (Eq.trans (Eq.symm (yM_s (h := h16) (i := 96) rfl)) (Eq.trans (congrFun (congrFun Zh16 37) 96) (zs_eq : (zs (zs (zs (zs (yM h) 363 (((yM h) 37 96).toNat) a) 364 (((yM h) 37 96).toNat) b) 365 (((yM h) 37 96).toNat) c) 37 96 (((yM h) 37 96) + 1)) 37 96 = (((yM h) 37 96) + 1))))
                refine zwW_p [(0, 1, 0)] (q := 88) (ls' := [(2, 37), (0, a), (0, b), (0, c)]) (st' := [(0, 1), (0, v17)]) (by decide +kernel) rfl ?_
                refine zwW_sub (nx := 89) (by decide +kernel) (by first | omega | exact ⟨by omega, by omega⟩) ?_
                refine zwW_ret (nx := 90) (a := 0) (b := 0) (by decide +kernel) rfl (Or.inl rfl) ?_
                exact ⟨Ih16, Rh16, by omega, by unfold yGiftA; (repeat' (first | rw [if_pos (by omega)] | rw [if_neg (by omega)])); all_goals (first | rfl | omega), by refine Eq.trans Zh16 ?_; unfold yGift; (repeat' (first | rw [if_pos (by omega)] | rw [if_neg (by omega)])); all_goals (repeat' (first | rfl | apply zs_cg | omega))⟩
              · refine zwW_p [(0, -1, 0)] (q := 42) (ls' := [(2, 37), (0, a), (0, b), (0, c)]) (st' := [(0, -1)]) (by decide +kernel) rfl ?_
                refine zwW_ret (nx := 43) (a := 0) (b := 0) (by decide +kernel) rfl (Or.inl rfl) ?_
                exact ⟨I, R, by omega, by unfold yGiftA; (repeat' (first | rw [if_neg (by omega)] | rw [if_pos (by omega)])); all_goals (first | rfl | omega), by refine Eq.trans (rfl : yM h = yM h) ?_; unfold yGift; (repeat' (first | rw [if_neg (by omega)] | rw [if_pos (by omega)])); all_goals (repeat' (first | rfl | apply zs_cg | omega))⟩
          · refine zwif_eq (q := 41) (nx := 32) (by decide +kernel) (fun c18 => ?_) (fun c18 => ?_)
            · refine zwW_p [(0, -1, 0)] (q := 42) (ls' := [(2, 37), (0, a), (0, b), (0, c)]) (st' := [(0, -1)]) (by decide +kernel) rfl ?_
              refine zwW_ret (nx := 43) (a := 0) (b := 0) (by decide +kernel) rfl (Or.inl rfl) ?_
              exact ⟨I, R, by omega, by unfold yGiftA; (repeat' (first | rw [if_neg (by omega)] | rw [if_pos (by omega)])); all_goals (first | rfl | omega), by refine Eq.trans (rfl : yM h = yM h) ?_; unfold yGift; (repeat' (first | rw [if_neg (by omega)] | rw [if_pos (by omega)])); all_goals (repeat' (first | rfl | apply zs_cg | omega))⟩
            · exfalso; omega
      · refine zwif_eq (q := 41) (nx := 20) (by decide +kernel) (fun c19 => ?_) (fun c19 => ?_)
        · refine zwW_p [(0, -1, 0)] (q := 42) (ls' := [(2, 37), (0, a), (0, b), (0, c)]) (st' := [(0, -1)]) (by decide +kernel) rfl ?_
          refine zwW_ret (nx := 43) (a := 0) (b := 0) (by decide +kernel) rfl (Or.inl rfl) ?_
          exact ⟨I, R, by omega, by unfold yGiftA; (repeat' (first | rw [if_neg (by omega)] | rw [if_pos (by omega)])); all_goals (first | rfl | omega), by refine Eq.trans (rfl : yM h = yM h) ?_; unfold yGift; (repeat' (first | rw [if_neg (by omega)] | rw [if_pos (by omega)])); all_goals (repeat' (first | rfl | apply zs_cg | omega))⟩
        · exfalso; omega
  · refine zwif_eq (q := 41) (nx := 12) (by decide +kernel) (fun c20 => ?_) (fun c20 => ?_)
    · refine zwW_p [(0, -1, 0)] (q := 42) (ls' := [(2, 37), (0, a), (0, b), (0, c)]) (st' := [(0, -1)]) (by decide +kernel) rfl ?_
      refine zwW_ret (nx := 43) (a := 0) (b := 0) (by decide +kernel) rfl (Or.inl rfl) ?_
      exact ⟨I, R, by omega, by unfold yGiftA; (repeat' (first | rw [if_neg (by omega)] | rw [if_pos (by omega)])); all_goals (first | rfl | omega), by refine Eq.trans (rfl : yM h = yM h) ?_; unfold yGift; (repeat' (first | rw [if_neg (by omega)] | rw [if_pos (by omega)])); all_goals (repeat' (first | rfl | apply zs_cg | omega))⟩
    · exfalso; omega
-- WheelLandModel.forget()I
theorem m72_z {sc : List Int} (h : Hp) (I : zI h) : zwC sc 1 72 [(2, 37)] h (zwRt 0 (fun x g => zI g ∧ zMR ms72 h g ∧ (-2147483648 ≤ x ∧ x ≤ 2147483647) ∧ (x = yForgA (yM h)) ∧ (yM g = yForg (yM h)))) := by
  refine zwC_of (D := 0) 2 (by decide +kernel) rfl (ls := [(2, 37), (9, 0)]) rfl ?_
  have R : zMR ms72 h h := zMR.rf _ _
  have u96 : yM h 37 96 = fld h 37 96 := rfl
  refine zwW_p [(1, 0, 2)] (q := 1) (ls' := [(2, 37), (9, 0)]) (st' := [(2, 37)]) (by decide +kernel) rfl ?_
  refine zwW_gs I (kd := 13) (bn := 96) (n := 97) (t := 0) (lo := 0) (hi := 8) (nx := 4) (by decide +kernel) ?_
  intro v1 ev1 lv1 uv1
  have sv1 : v1 = (yM h) 37 96 := Eq.trans ev1 (Eq.trans (Eq.symm (yM_s (h := h) (i := 96) rfl)) (Eq.trans (congrFun (congrFun (rfl : yM h = yM h) 37) 96) rfl))
  refine zwW_p [(2, 1, 0), (1, 0, 2), (0, 0, 0)] (q := 7) (ls' := [(2, 37), (0, v1)]) (st' := [(0, 0), (2, 37)]) (by decide +kernel) rfl ?_
  refine zwW_ps I (kd := 13) (bn := 96) (n := 97) (lo := 0) (hi := 8) (nx := 10) (by decide +kernel) (by first | decide | exact ⟨by decide, by decide⟩) ?_
  intro h2 eh2 Ih2
  have th2_37_96 : fld h2 37 96 = 0 := by rw [eh2]; exact fld_wr_eq (I.s (a1 := 37) (a2 := 37) (k := 13) (n := 97) (by decide +kernel) (by decide) (by decide)) (by decide)
  have Zh2 : yM h2 = (zs (yM h) 37 96 0) := by rw [yM_ws (i := 96) (kd := 13) (n := 97) rfl (I.s (a1 := 37) (a2 := 37) (by decide +kernel) (by decide) (by decide)) (by decide) eh2]
  have Rh2 : zMR ms72 h h2 := R.w (a1 := 37) (a2 := 37) (j1 := 96) (j2 := 97) (by decide +kernel) (by first | decide | exact ⟨by decide, by decide⟩) (by first | decide | exact ⟨by decide, by decide⟩) eh2
  refine zwW_p [(1, 1, 0)] (q := 11) (ls' := [(2, 37), (0, v1)]) (st' := [(0, v1)]) (by decide +kernel) rfl ?_
  refine zwW_ret (nx := 12) (a := 0) (b := 0) (by decide +kernel) rfl (Or.inl rfl) ?_
  exact ⟨Ih2, Rh2, by omega, by unfold yForgA; (repeat' (first | rw [if_pos (by omega)] | rw [if_neg (by omega)])); all_goals (first | rfl | omega), by refine Eq.trans Zh2 ?_; unfold yForg; (repeat' (first | rw [if_pos (by omega)] | rw [if_neg (by omega)])); all_goals (repeat' (first | rfl | apply zs_cg | omega))⟩
-- WheelLandModel.lot(II)I
theorem m22_z {sc : List Int} (h : Hp) (I : zI h) (a b : Int) : zwC sc 3 22 [(2, 37), (0, a), (0, b)] h (zwRt 0 (fun x g => h = g ∧ (-2147483648 ≤ x ∧ x ≤ 2147483647) ∧ (x = yLotA (yM h) a b))) := by
  refine zwC_of (D := 2) 3 (by decide +kernel) rfl (ls := [(2, 37), (0, a), (0, b)]) rfl ?_
  have u0 : yM h 37 0 = fld h 37 0 := rfl
  have u1 : yM h 37 1 = fld h 37 1 := rfl
  have u2 : yM h 37 2 = fld h 37 2 := rfl
  have u64 : yM h 37 64 = fld h 37 64 := rfl
  have u78 : yM h 37 78 = fld h 37 78 := rfl
  refine zwW_p [(1, 0, 2), (1, 1, 0)] (q := 2) (ls' := [(2, 37), (0, a), (0, b)]) (st' := [(0, a), (2, 37)]) (by decide +kernel) rfl ?_
  refine zwW_cm I (op := 60) (k' := 116) (n := 1) (kd := 13) (m := 97) (nx := 5) (r := 37) (tl := [(0, a)]) (st' := []) (by decide +kernel) rfl (by decide +kernel) rfl (m116 h I a) ?_
  rintro x _ ⟨rfl, ⟨rfl, c1⟩ | ⟨rfl, c1⟩⟩
  · refine zwif_ne (q := 10) (nx := 8) (by decide +kernel) (fun c2 => ?_) (fun c2 => ?_)
    · refine zwW_p [(1, 2, 0)] (q := 11) (ls' := [(2, 37), (0, a), (0, b)]) (st' := [(0, b)]) (by decide +kernel) rfl ?_
      refine zwW_sw (d := 90) (os := [0, 48, 1, 55, 2, 62, 3, 69, 4, 76, 5, 83]) (by decide +kernel) ?_
      refine ⟨fun c3 => ?_, fun c3 => ?_⟩
      · show zwW _ _ _ 48 _ _ _ _
        refine zwW_p [(1, 0, 2)] (q := 49) (ls' := [(2, 37), (0, a), (0, b)]) (st' := [(2, 37)]) (by decide +kernel) rfl ?_
        refine zwW_gc I (kd := 13) (bn := 58) (n := 97) (c := 170) (nx := 52) (by decide +kernel) ?_
        refine zwW_p [(1, 1, 0)] (q := 53) (ls' := [(2, 37), (0, a), (0, b)]) (st' := [(0, a), (2, 170)]) (by decide +kernel) rfl ?_
        have ib1 : 0 ≤ a ∧ a < ((300 : Nat) : Int) := (by first | omega | exact ⟨by omega, by omega⟩)
        refine zwW_al I (a1 := 170) (a2 := 170) (kd := 20) (n := 300) (t := 0) (lo := 0) (hi := 19) (nx := 54) (by decide +kernel) (by first | decide | exact ⟨by decide, by decide⟩) ib1 ?_
        intro v4 ev4 lv4 uv4
        have sv4 : v4 = (yM h) 170 a.toNat := Eq.trans ev4 (Eq.trans (Eq.symm (yM_p (h := h) (a := 170) (n := 300) (i := a.toNat) rfl (zit ib1))) (Eq.trans (congrFun (congrFun (rfl : yM h = yM h) 170) a.toNat) rfl))
        refine zwW_ret (nx := 55) (a := 0) (b := 0) (by decide +kernel) rfl (Or.inl rfl) ?_
        exact ⟨rfl, by omega, by unfold yLotA; (repeat' (first | rw [if_pos (by omega)] | rw [if_neg (by omega)])); all_goals (first | rfl | omega)⟩
      refine ⟨fun c5 => ?_, fun c5 => ?_⟩
      · show zwW _ _ _ 55 _ _ _ _
        refine zwW_p [(1, 0, 2)] (q := 56) (ls' := [(2, 37), (0, a), (0, b)]) (st' := [(2, 37)]) (by decide +kernel) rfl ?_
        refine zwW_gc I (kd := 13) (bn := 59) (n := 97) (c := 171) (nx := 59) (by decide +kernel) ?_
        refine zwW_p [(1, 1, 0)] (q := 60) (ls' := [(2, 37), (0, a), (0, b)]) (st' := [(0, a), (2, 171)]) (by decide +kernel) rfl ?_
        have ib2 : 0 ≤ a ∧ a < ((300 : Nat) : Int) := (by first | omega | exact ⟨by omega, by omega⟩)
        refine zwW_al I (a1 := 171) (a2 := 171) (kd := 20) (n := 300) (t := 0) (lo := -2147483648) (hi := 2147483647) (nx := 61) (by decide +kernel) (by first | decide | exact ⟨by decide, by decide⟩) ib2 ?_
        intro v6 ev6 lv6 uv6
        have sv6 : v6 = (yM h) 171 a.toNat := Eq.trans ev6 (Eq.trans (Eq.symm (yM_p (h := h) (a := 171) (n := 300) (i := a.toNat) rfl (zit ib2))) (Eq.trans (congrFun (congrFun (rfl : yM h = yM h) 171) a.toNat) rfl))
        refine zwW_ret (nx := 62) (a := 0) (b := 0) (by decide +kernel) rfl (Or.inl rfl) ?_
        exact ⟨rfl, by omega, by unfold yLotA; (repeat' (first | rw [if_pos (by omega)] | rw [if_neg (by omega)])); all_goals (first | rfl | omega)⟩
      refine ⟨fun c7 => ?_, fun c7 => ?_⟩
      · show zwW _ _ _ 62 _ _ _ _
        refine zwW_p [(1, 0, 2)] (q := 63) (ls' := [(2, 37), (0, a), (0, b)]) (st' := [(2, 37)]) (by decide +kernel) rfl ?_
        refine zwW_gc I (kd := 13) (bn := 60) (n := 97) (c := 172) (nx := 66) (by decide +kernel) ?_
        refine zwW_p [(1, 1, 0)] (q := 67) (ls' := [(2, 37), (0, a), (0, b)]) (st' := [(0, a), (2, 172)]) (by decide +kernel) rfl ?_
        have ib3 : 0 ≤ a ∧ a < ((300 : Nat) : Int) := (by first | omega | exact ⟨by omega, by omega⟩)
        refine zwW_al I (a1 := 172) (a2 := 172) (kd := 20) (n := 300) (t := 0) (lo := -2147483648) (hi := 2147483647) (nx := 68) (by decide +kernel) (by first | decide | exact ⟨by decide, by decide⟩) ib3 ?_
        intro v8 ev8 lv8 uv8
        have sv8 : v8 = (yM h) 172 a.toNat := Eq.trans ev8 (Eq.trans (Eq.symm (yM_p (h := h) (a := 172) (n := 300) (i := a.toNat) rfl (zit ib3))) (Eq.trans (congrFun (congrFun (rfl : yM h = yM h) 172) a.toNat) rfl))
        refine zwW_ret (nx := 69) (a := 0) (b := 0) (by decide +kernel) rfl (Or.inl rfl) ?_
        exact ⟨rfl, by omega, by unfold yLotA; (repeat' (first | rw [if_pos (by omega)] | rw [if_neg (by omega)])); all_goals (first | rfl | omega)⟩
      refine ⟨fun c9 => ?_, fun c9 => ?_⟩
      · show zwW _ _ _ 69 _ _ _ _
        refine zwW_p [(1, 0, 2)] (q := 70) (ls' := [(2, 37), (0, a), (0, b)]) (st' := [(2, 37)]) (by decide +kernel) rfl ?_
        refine zwW_gc I (kd := 13) (bn := 61) (n := 97) (c := 173) (nx := 73) (by decide +kernel) ?_
        refine zwW_p [(1, 1, 0)] (q := 74) (ls' := [(2, 37), (0, a), (0, b)]) (st' := [(0, a), (2, 173)]) (by decide +kernel) rfl ?_
        have ib4 : 0 ≤ a ∧ a < ((300 : Nat) : Int) := (by first | omega | exact ⟨by omega, by omega⟩)
        refine zwW_al I (a1 := 173) (a2 := 173) (kd := 20) (n := 300) (t := 0) (lo := -2147483648) (hi := 2147483647) (nx := 75) (by decide +kernel) (by first | decide | exact ⟨by decide, by decide⟩) ib4 ?_
        intro v10 ev10 lv10 uv10
        have sv10 : v10 = (yM h) 173 a.toNat := Eq.trans ev10 (Eq.trans (Eq.symm (yM_p (h := h) (a := 173) (n := 300) (i := a.toNat) rfl (zit ib4))) (Eq.trans (congrFun (congrFun (rfl : yM h = yM h) 173) a.toNat) rfl))
        refine zwW_ret (nx := 76) (a := 0) (b := 0) (by decide +kernel) rfl (Or.inl rfl) ?_
        exact ⟨rfl, by omega, by unfold yLotA; (repeat' (first | rw [if_pos (by omega)] | rw [if_neg (by omega)])); all_goals (first | rfl | omega)⟩
      refine ⟨fun c11 => ?_, fun c11 => ?_⟩
      · show zwW _ _ _ 76 _ _ _ _
        refine zwW_p [(1, 0, 2)] (q := 77) (ls' := [(2, 37), (0, a), (0, b)]) (st' := [(2, 37)]) (by decide +kernel) rfl ?_
        refine zwW_gc I (kd := 13) (bn := 62) (n := 97) (c := 174) (nx := 80) (by decide +kernel) ?_
        refine zwW_p [(1, 1, 0)] (q := 81) (ls' := [(2, 37), (0, a), (0, b)]) (st' := [(0, a), (2, 174)]) (by decide +kernel) rfl ?_
        have ib5 : 0 ≤ a ∧ a < ((300 : Nat) : Int) := (by first | omega | exact ⟨by omega, by omega⟩)
        refine zwW_al I (a1 := 174) (a2 := 174) (kd := 20) (n := 300) (t := 0) (lo := -2147483648) (hi := 2147483647) (nx := 82) (by decide +kernel) (by first | decide | exact ⟨by decide, by decide⟩) ib5 ?_
        intro v12 ev12 lv12 uv12
        have sv12 : v12 = (yM h) 174 a.toNat := Eq.trans ev12 (Eq.trans (Eq.symm (yM_p (h := h) (a := 174) (n := 300) (i := a.toNat) rfl (zit ib5))) (Eq.trans (congrFun (congrFun (rfl : yM h = yM h) 174) a.toNat) rfl))
        refine zwW_ret (nx := 83) (a := 0) (b := 0) (by decide +kernel) rfl (Or.inl rfl) ?_
        exact ⟨rfl, by omega, by unfold yLotA; (repeat' (first | rw [if_pos (by omega)] | rw [if_neg (by omega)])); all_goals (first | rfl | omega)⟩
      refine ⟨fun c13 => ?_, fun c13 => ?_⟩
      · show zwW _ _ _ 83 _ _ _ _
        refine zwW_p [(1, 0, 2)] (q := 84) (ls' := [(2, 37), (0, a), (0, b)]) (st' := [(2, 37)]) (by decide +kernel) rfl ?_
        refine zwW_gc I (kd := 13) (bn := 63) (n := 97) (c := 175) (nx := 87) (by decide +kernel) ?_
        refine zwW_p [(1, 1, 0)] (q := 88) (ls' := [(2, 37), (0, a), (0, b)]) (st' := [(0, a), (2, 175)]) (by decide +kernel) rfl ?_
        have ib6 : 0 ≤ a ∧ a < ((300 : Nat) : Int) := (by first | omega | exact ⟨by omega, by omega⟩)
        refine zwW_al I (a1 := 175) (a2 := 175) (kd := 20) (n := 300) (t := 0) (lo := -2147483648) (hi := 2147483647) (nx := 89) (by decide +kernel) (by first | decide | exact ⟨by decide, by decide⟩) ib6 ?_
        intro v14 ev14 lv14 uv14
        have sv14 : v14 = (yM h) 175 a.toNat := Eq.trans ev14 (Eq.trans (Eq.symm (yM_p (h := h) (a := 175) (n := 300) (i := a.toNat) rfl (zit ib6))) (Eq.trans (congrFun (congrFun (rfl : yM h = yM h) 175) a.toNat) rfl))
        refine zwW_ret (nx := 90) (a := 0) (b := 0) (by decide +kernel) rfl (Or.inl rfl) ?_
        exact ⟨rfl, by omega, by unfold yLotA; (repeat' (first | rw [if_pos (by omega)] | rw [if_neg (by omega)])); all_goals (first | rfl | omega)⟩
      show zwW _ _ _ 90 _ _ _ _
      refine zwW_p [(0, -1, 0)] (q := 91) (ls' := [(2, 37), (0, a), (0, b)]) (st' := [(0, -1)]) (by decide +kernel) rfl ?_
      refine zwW_ret (nx := 92) (a := 0) (b := 0) (by decide +kernel) rfl (Or.inl rfl) ?_
      exact ⟨rfl, by omega, by unfold yLotA; (repeat' (first | rw [if_neg (by omega)] | rw [if_pos (by omega)])); all_goals (first | rfl | omega)⟩
    · exfalso; omega
  · refine zwif_ne (q := 10) (nx := 8) (by decide +kernel) (fun c15 => ?_) (fun c15 => ?_)
    · exfalso; omega
    · refine zwW_p [(0, -1, 0)] (q := 9) (ls' := [(2, 37), (0, a), (0, b)]) (st' := [(0, -1)]) (by decide +kernel) rfl ?_
      refine zwW_ret (nx := 10) (a := 0) (b := 0) (by decide +kernel) rfl (Or.inl rfl) ?_
      exact ⟨rfl, by omega, by unfold yLotA; (repeat' (first | rw [if_neg (by omega)] | rw [if_pos (by omega)])); all_goals (first | rfl | omega)⟩
-- WheelLandModel.cloth(II)I
theorem m44_z {sc : List Int} (h : Hp) (I : zI h) (a b : Int) : zwC sc 3 44 [(2, 37), (0, a), (0, b)] h (zwRt 0 (fun x g => h = g ∧ (-2147483648 ≤ x ∧ x ≤ 2147483647) ∧ (x = yClotA (yM h) a b))) := by
  refine zwC_of (D := 2) 3 (by decide +kernel) rfl (ls := [(2, 37), (0, a), (0, b)]) rfl ?_
  have u0 : yM h 37 0 = fld h 37 0 := rfl
  have u1 : yM h 37 1 = fld h 37 1 := rfl
  have u2 : yM h 37 2 = fld h 37 2 := rfl
  have u64 : yM h 37 64 = fld h 37 64 := rfl
  have u78 : yM h 37 78 = fld h 37 78 := rfl
  refine zwW_p [(1, 0, 2), (1, 1, 0)] (q := 2) (ls' := [(2, 37), (0, a), (0, b)]) (st' := [(0, a), (2, 37)]) (by decide +kernel) rfl ?_
  refine zwW_cm I (op := 60) (k' := 139) (n := 1) (kd := 13) (m := 97) (nx := 5) (r := 37) (tl := [(0, a)]) (st' := []) (by decide +kernel) rfl (by decide +kernel) rfl (m139 h I a) ?_
  rintro x _ ⟨rfl, ⟨rfl, c1⟩ | ⟨rfl, c1⟩⟩
  · refine zwif_ne (q := 10) (nx := 8) (by decide +kernel) (fun c2 => ?_) (fun c2 => ?_)
    · refine zwW_p [(1, 2, 0)] (q := 11) (ls' := [(2, 37), (0, a), (0, b)]) (st' := [(0, b)]) (by decide +kernel) rfl ?_
      refine zwW_sw (d := 130) (os := [0, 56, 1, 63, 2, 70, 3, 77, 4, 84, 5, 99, 6, 111, 7, 123]) (by decide +kernel) ?_
      refine ⟨fun c3 => ?_, fun c3 => ?_⟩
      · show zwW _ _ _ 56 _ _ _ _
        refine zwW_p [(1, 0, 2)] (q := 57) (ls' := [(2, 37), (0, a), (0, b)]) (st' := [(2, 37)]) (by decide +kernel) rfl ?_
        refine zwW_gc I (kd := 13) (bn := 72) (n := 97) (c := 180) (nx := 60) (by decide +kernel) ?_
        refine zwW_p [(1, 1, 0)] (q := 61) (ls' := [(2, 37), (0, a), (0, b)]) (st' := [(0, a), (2, 180)]) (by decide +kernel) rfl ?_
        have ib1 : 0 ≤ a ∧ a < ((200 : Nat) : Int) := (by first | omega | exact ⟨by omega, by omega⟩)
        refine zwW_al I (a1 := 180) (a2 := 180) (kd := 20) (n := 200) (t := 0) (lo := 0) (hi := 299) (nx := 62) (by decide +kernel) (by first | decide | exact ⟨by decide, by decide⟩) ib1 ?_
        intro v4 ev4 lv4 uv4
        have sv4 : v4 = (yM h) 180 a.toNat := Eq.trans ev4 (Eq.trans (Eq.symm (yM_p (h := h) (a := 180) (n := 200) (i := a.toNat) rfl (zit ib1))) (Eq.trans (congrFun (congrFun (rfl : yM h = yM h) 180) a.toNat) rfl))
        refine zwW_ret (nx := 63) (a := 0) (b := 0) (by decide +kernel) rfl (Or.inl rfl) ?_
        exact ⟨rfl, by omega, by unfold yClotA; (repeat' (first | rw [if_pos (by omega)] | rw [if_neg (by omega)])); all_goals (first | rfl | omega)⟩
      refine ⟨fun c5 => ?_, fun c5 => ?_⟩
      · show zwW _ _ _ 63 _ _ _ _
        refine zwW_p [(1, 0, 2)] (q := 64) (ls' := [(2, 37), (0, a), (0, b)]) (st' := [(2, 37)]) (by decide +kernel) rfl ?_
        refine zwW_gc I (kd := 13) (bn := 73) (n := 97) (c := 181) (nx := 67) (by decide +kernel) ?_
        refine zwW_p [(1, 1, 0)] (q := 68) (ls' := [(2, 37), (0, a), (0, b)]) (st' := [(0, a), (2, 181)]) (by decide +kernel) rfl ?_
        have ib2 : 0 ≤ a ∧ a < ((200 : Nat) : Int) := (by first | omega | exact ⟨by omega, by omega⟩)
        refine zwW_al I (a1 := 181) (a2 := 181) (kd := 20) (n := 200) (t := 0) (lo := 0) (hi := 19) (nx := 69) (by decide +kernel) (by first | decide | exact ⟨by decide, by decide⟩) ib2 ?_
        intro v6 ev6 lv6 uv6
        have sv6 : v6 = (yM h) 181 a.toNat := Eq.trans ev6 (Eq.trans (Eq.symm (yM_p (h := h) (a := 181) (n := 200) (i := a.toNat) rfl (zit ib2))) (Eq.trans (congrFun (congrFun (rfl : yM h = yM h) 181) a.toNat) rfl))
        refine zwW_ret (nx := 70) (a := 0) (b := 0) (by decide +kernel) rfl (Or.inl rfl) ?_
        exact ⟨rfl, by omega, by unfold yClotA; (repeat' (first | rw [if_pos (by omega)] | rw [if_neg (by omega)])); all_goals (first | rfl | omega)⟩
      refine ⟨fun c7 => ?_, fun c7 => ?_⟩
      · show zwW _ _ _ 70 _ _ _ _
        refine zwW_p [(1, 0, 2)] (q := 71) (ls' := [(2, 37), (0, a), (0, b)]) (st' := [(2, 37)]) (by decide +kernel) rfl ?_
        refine zwW_gc I (kd := 13) (bn := 74) (n := 97) (c := 182) (nx := 74) (by decide +kernel) ?_
        refine zwW_p [(1, 1, 0)] (q := 75) (ls' := [(2, 37), (0, a), (0, b)]) (st' := [(0, a), (2, 182)]) (by decide +kernel) rfl ?_
        have ib3 : 0 ≤ a ∧ a < ((200 : Nat) : Int) := (by first | omega | exact ⟨by omega, by omega⟩)
        refine zwW_al I (a1 := 182) (a2 := 182) (kd := 20) (n := 200) (t := 0) (lo := -2147483648) (hi := 2147483647) (nx := 76) (by decide +kernel) (by first | decide | exact ⟨by decide, by decide⟩) ib3 ?_
        intro v8 ev8 lv8 uv8
        have sv8 : v8 = (yM h) 182 a.toNat := Eq.trans ev8 (Eq.trans (Eq.symm (yM_p (h := h) (a := 182) (n := 200) (i := a.toNat) rfl (zit ib3))) (Eq.trans (congrFun (congrFun (rfl : yM h = yM h) 182) a.toNat) rfl))
        refine zwW_ret (nx := 77) (a := 0) (b := 0) (by decide +kernel) rfl (Or.inl rfl) ?_
        exact ⟨rfl, by omega, by unfold yClotA; (repeat' (first | rw [if_pos (by omega)] | rw [if_neg (by omega)])); all_goals (first | rfl | omega)⟩
      refine ⟨fun c9 => ?_, fun c9 => ?_⟩
      · show zwW _ _ _ 77 _ _ _ _
        refine zwW_p [(1, 0, 2)] (q := 78) (ls' := [(2, 37), (0, a), (0, b)]) (st' := [(2, 37)]) (by decide +kernel) rfl ?_
        refine zwW_gc I (kd := 13) (bn := 75) (n := 97) (c := 183) (nx := 81) (by decide +kernel) ?_
        refine zwW_p [(1, 1, 0)] (q := 82) (ls' := [(2, 37), (0, a), (0, b)]) (st' := [(0, a), (2, 183)]) (by decide +kernel) rfl ?_
        have ib4 : 0 ≤ a ∧ a < ((200 : Nat) : Int) := (by first | omega | exact ⟨by omega, by omega⟩)
        refine zwW_al I (a1 := 183) (a2 := 183) (kd := 20) (n := 200) (t := 0) (lo := -2147483648) (hi := 2147483647) (nx := 83) (by decide +kernel) (by first | decide | exact ⟨by decide, by decide⟩) ib4 ?_
        intro v10 ev10 lv10 uv10
        have sv10 : v10 = (yM h) 183 a.toNat := Eq.trans ev10 (Eq.trans (Eq.symm (yM_p (h := h) (a := 183) (n := 200) (i := a.toNat) rfl (zit ib4))) (Eq.trans (congrFun (congrFun (rfl : yM h = yM h) 183) a.toNat) rfl))
        refine zwW_ret (nx := 84) (a := 0) (b := 0) (by decide +kernel) rfl (Or.inl rfl) ?_
        exact ⟨rfl, by omega, by unfold yClotA; (repeat' (first | rw [if_pos (by omega)] | rw [if_neg (by omega)])); all_goals (first | rfl | omega)⟩
      refine ⟨fun c11 => ?_, fun c11 => ?_⟩
      · show zwW _ _ _ 84 _ _ _ _
        refine zwW_p [(1, 0, 2)] (q := 85) (ls' := [(2, 37), (0, a), (0, b)]) (st' := [(2, 37)]) (by decide +kernel) rfl ?_
        refine zwW_gc I (kd := 13) (bn := 77) (n := 97) (c := 185) (nx := 88) (by decide +kernel) ?_
        refine zwW_p [(1, 1, 0)] (q := 89) (ls' := [(2, 37), (0, a), (0, b)]) (st' := [(0, a), (2, 185)]) (by decide +kernel) rfl ?_
        have ib5 : 0 ≤ a ∧ a < ((200 : Nat) : Int) := (by first | omega | exact ⟨by omega, by omega⟩)
        refine zwW_al I (a1 := 185) (a2 := 185) (kd := 22) (n := 200) (t := 0) (lo := 0) (hi := 1) (nx := 90) (by decide +kernel) (by first | decide | exact ⟨by decide, by decide⟩) ib5 ?_
        intro v12 ev12 lv12 uv12
        have sv12 : v12 = (yM h) 185 a.toNat := Eq.trans ev12 (Eq.trans (Eq.symm (yM_p (h := h) (a := 185) (n := 200) (i := a.toNat) rfl (zit ib5))) (Eq.trans (congrFun (congrFun (rfl : yM h = yM h) 185) a.toNat) rfl))
        refine zwif_eq (q := 97) (nx := 93) (by decide +kernel) (fun c13 => ?_) (fun c13 => ?_)
        · refine zwW_p [(0, 0, 0)] (q := 98) (ls' := [(2, 37), (0, a), (0, b)]) (st' := [(0, 0)]) (by decide +kernel) rfl ?_
          refine zwW_ret (nx := 99) (a := 0) (b := 0) (by decide +kernel) rfl (Or.inl rfl) ?_
          exact ⟨rfl, by omega, by unfold yClotA; (repeat' (first | rw [if_pos (by omega)] | rw [if_neg (by omega)])); all_goals (first | rfl | omega)⟩
        · refine zwW_p [(0, 1, 0), (24, 98, 0)] (q := 98) (ls' := [(2, 37), (0, a), (0, b)]) (st' := [(0, 1)]) (by decide +kernel) rfl ?_
          refine zwW_ret (nx := 99) (a := 0) (b := 0) (by decide +kernel) rfl (Or.inl rfl) ?_
          exact ⟨rfl, by omega, by unfold yClotA; (repeat' (first | rw [if_pos (by omega)] | rw [if_neg (by omega)])); all_goals (first | rfl | omega)⟩
      refine ⟨fun c14 => ?_, fun c14 => ?_⟩
      · show zwW _ _ _ 99 _ _ _ _
        refine zwW_p [(1, 0, 2)] (q := 100) (ls' := [(2, 37), (0, a), (0, b)]) (st' := [(2, 37)]) (by decide +kernel) rfl ?_
        refine zwW_gc I (kd := 13) (bn := 58) (n := 97) (c := 170) (nx := 103) (by decide +kernel) ?_
        refine zwW_p [(1, 0, 2)] (q := 104) (ls' := [(2, 37), (0, a), (0, b)]) (st' := [(2, 37), (2, 170)]) (by decide +kernel) rfl ?_
        refine zwW_gc I (kd := 13) (bn := 72) (n := 97) (c := 180) (nx := 107) (by decide +kernel) ?_
        refine zwW_p [(1, 1, 0)] (q := 108) (ls' := [(2, 37), (0, a), (0, b)]) (st' := [(0, a), (2, 180), (2, 170)]) (by decide +kernel) rfl ?_
        have ib6 : 0 ≤ a ∧ a < ((200 : Nat) : Int) := (by first | omega | exact ⟨by omega, by omega⟩)
        refine zwW_al I (a1 := 180) (a2 := 180) (kd := 20) (n := 200) (t := 0) (lo := 0) (hi := 299) (nx := 109) (by decide +kernel) (by first | decide | exact ⟨by decide, by decide⟩) ib6 ?_
        intro v15 ev15 lv15 uv15
        have sv15 : v15 = (yM h) 180 a.toNat := Eq.trans ev15 (Eq.trans (Eq.symm (yM_p (h := h) (a := 180) (n := 200) (i := a.toNat) rfl (zit ib6))) (Eq.trans (congrFun (congrFun (rfl : yM h = yM h) 180) a.toNat) rfl))
        have ib7 : 0 ≤ v15 ∧ v15 < ((300 : Nat) : Int) := (by first | omega | exact ⟨by omega, by omega⟩)
        refine zwW_al I (a1 := 170) (a2 := 170) (kd := 20) (n := 300) (t := 0) (lo := 0) (hi := 19) (nx := 110) (by decide +kernel) (by first | decide | exact ⟨by decide, by decide⟩) ib7 ?_
        intro v16 ev16 lv16 uv16
        have sv16 : v16 = (yM h) 170 (((yM h) 180 a.toNat).toNat) := Eq.trans ev16 (Eq.trans (Eq.symm (yM_p (h := h) (a := 170) (n := 300) (i := v15.toNat) rfl (zit ib7))) (Eq.trans (congrArg (yM h 170) (show v15.toNat = ((yM h) 180 a.toNat).toNat by rw [sv15])) (Eq.trans (congrFun (congrFun (rfl : yM h = yM h) 170) (((yM h) 180 a.toNat).toNat)) rfl)))
        refine zwW_ret (nx := 111) (a := 0) (b := 0) (by decide +kernel) rfl (Or.inl rfl) ?_
        exact ⟨rfl, by omega, by unfold yClotA; (repeat' (first | rw [if_pos (by omega)] | rw [if_neg (by omega)])); all_goals (first | rfl | omega)⟩
      refine ⟨fun c17 => ?_, fun c17 => ?_⟩
      · show zwW _ _ _ 111 _ _ _ _
        refine zwW_p [(1, 0, 2)] (q := 112) (ls' := [(2, 37), (0, a), (0, b)]) (st' := [(2, 37)]) (by decide +kernel) rfl ?_
        refine zwW_gc I (kd := 13) (bn := 59) (n := 97) (c := 171) (nx := 115) (by decide +kernel) ?_
        refine zwW_p [(1, 0, 2)] (q := 116) (ls' := [(2, 37), (0, a), (0, b)]) (st' := [(2, 37), (2, 171)]) (by decide +kernel) rfl ?_
        refine zwW_gc I (kd := 13) (bn := 72) (n := 97) (c := 180) (nx := 119) (by decide +kernel) ?_
        refine zwW_p [(1, 1, 0)] (q := 120) (ls' := [(2, 37), (0, a), (0, b)]) (st' := [(0, a), (2, 180), (2, 171)]) (by decide +kernel) rfl ?_
        have ib8 : 0 ≤ a ∧ a < ((200 : Nat) : Int) := (by first | omega | exact ⟨by omega, by omega⟩)
        refine zwW_al I (a1 := 180) (a2 := 180) (kd := 20) (n := 200) (t := 0) (lo := 0) (hi := 299) (nx := 121) (by decide +kernel) (by first | decide | exact ⟨by decide, by decide⟩) ib8 ?_
        intro v18 ev18 lv18 uv18
        have sv18 : v18 = (yM h) 180 a.toNat := Eq.trans ev18 (Eq.trans (Eq.symm (yM_p (h := h) (a := 180) (n := 200) (i := a.toNat) rfl (zit ib8))) (Eq.trans (congrFun (congrFun (rfl : yM h = yM h) 180) a.toNat) rfl))
        have ib9 : 0 ≤ v18 ∧ v18 < ((300 : Nat) : Int) := (by first | omega | exact ⟨by omega, by omega⟩)
        refine zwW_al I (a1 := 171) (a2 := 171) (kd := 20) (n := 300) (t := 0) (lo := -2147483648) (hi := 2147483647) (nx := 122) (by decide +kernel) (by first | decide | exact ⟨by decide, by decide⟩) ib9 ?_
        intro v19 ev19 lv19 uv19
        have sv19 : v19 = (yM h) 171 (((yM h) 180 a.toNat).toNat) := Eq.trans ev19 (Eq.trans (Eq.symm (yM_p (h := h) (a := 171) (n := 300) (i := v18.toNat) rfl (zit ib9))) (Eq.trans (congrArg (yM h 171) (show v18.toNat = ((yM h) 180 a.toNat).toNat by rw [sv18])) (Eq.trans (congrFun (congrFun (rfl : yM h = yM h) 171) (((yM h) 180 a.toNat).toNat)) rfl)))
        refine zwW_ret (nx := 123) (a := 0) (b := 0) (by decide +kernel) rfl (Or.inl rfl) ?_
        exact ⟨rfl, by omega, by unfold yClotA; (repeat' (first | rw [if_pos (by omega)] | rw [if_neg (by omega)])); all_goals (first | rfl | omega)⟩
      refine ⟨fun c20 => ?_, fun c20 => ?_⟩
      · show zwW _ _ _ 123 _ _ _ _
        refine zwW_p [(1, 0, 2)] (q := 124) (ls' := [(2, 37), (0, a), (0, b)]) (st' := [(2, 37)]) (by decide +kernel) rfl ?_
        refine zwW_gc I (kd := 13) (bn := 76) (n := 97) (c := 184) (nx := 127) (by decide +kernel) ?_
        refine zwW_p [(1, 1, 0)] (q := 128) (ls' := [(2, 37), (0, a), (0, b)]) (st' := [(0, a), (2, 184)]) (by decide +kernel) rfl ?_
        have ib10 : 0 ≤ a ∧ a < ((200 : Nat) : Int) := (by first | omega | exact ⟨by omega, by omega⟩)
        refine zwW_al I (a1 := 184) (a2 := 184) (kd := 20) (n := 200) (t := 0) (lo := -1) (hi := 7) (nx := 129) (by decide +kernel) (by first | decide | exact ⟨by decide, by decide⟩) ib10 ?_
        intro v21 ev21 lv21 uv21
        have sv21 : v21 = (yM h) 184 a.toNat := Eq.trans ev21 (Eq.trans (Eq.symm (yM_p (h := h) (a := 184) (n := 200) (i := a.toNat) rfl (zit ib10))) (Eq.trans (congrFun (congrFun (rfl : yM h = yM h) 184) a.toNat) rfl))
        refine zwW_ret (nx := 130) (a := 0) (b := 0) (by decide +kernel) rfl (Or.inl rfl) ?_
        exact ⟨rfl, by omega, by unfold yClotA; (repeat' (first | rw [if_pos (by omega)] | rw [if_neg (by omega)])); all_goals (first | rfl | omega)⟩
      show zwW _ _ _ 130 _ _ _ _
      refine zwW_p [(0, -1, 0)] (q := 131) (ls' := [(2, 37), (0, a), (0, b)]) (st' := [(0, -1)]) (by decide +kernel) rfl ?_
      refine zwW_ret (nx := 132) (a := 0) (b := 0) (by decide +kernel) rfl (Or.inl rfl) ?_
      exact ⟨rfl, by omega, by unfold yClotA; (repeat' (first | rw [if_neg (by omega)] | rw [if_pos (by omega)])); all_goals (first | rfl | omega)⟩
    · exfalso; omega
  · refine zwif_ne (q := 10) (nx := 8) (by decide +kernel) (fun c22 => ?_) (fun c22 => ?_)
    · exfalso; omega
    · refine zwW_p [(0, -1, 0)] (q := 9) (ls' := [(2, 37), (0, a), (0, b)]) (st' := [(0, -1)]) (by decide +kernel) rfl ?_
      refine zwW_ret (nx := 10) (a := 0) (b := 0) (by decide +kernel) rfl (Or.inl rfl) ?_
      exact ⟨rfl, by omega, by unfold yClotA; (repeat' (first | rw [if_neg (by omega)] | rw [if_pos (by omega)])); all_goals (first | rfl | omega)⟩
-- WheelLandModel.is(II)I
theorem m84_z {sc : List Int} (h : Hp) (I : zI h) (a b : Int) : zwC sc 3 84 [(2, 37), (0, a), (0, b)] h (zwRt 0 (fun x g => h = g ∧ (-2147483648 ≤ x ∧ x ≤ 2147483647) ∧ (x = yIsA (yM h) a b))) := by
  refine zwC_of (D := 2) 3 (by decide +kernel) rfl (ls := [(2, 37), (0, a), (0, b)]) rfl ?_
  have u0 : yM h 37 0 = fld h 37 0 := rfl
  have u1 : yM h 37 1 = fld h 37 1 := rfl
  have u2 : yM h 37 2 = fld h 37 2 := rfl
  have u64 : yM h 37 64 = fld h 37 64 := rfl
  have u78 : yM h 37 78 = fld h 37 78 := rfl
  refine zwW_p [(1, 0, 2), (1, 1, 0)] (q := 2) (ls' := [(2, 37), (0, a), (0, b)]) (st' := [(0, a), (2, 37)]) (by decide +kernel) rfl ?_
  refine zwW_cm I (op := 60) (k' := 104) (n := 1) (kd := 13) (m := 97) (nx := 5) (r := 37) (tl := [(0, a)]) (st' := []) (by decide +kernel) rfl (by decide +kernel) rfl (m104 h I a) ?_
  rintro x _ ⟨rfl, ⟨rfl, c1⟩ | ⟨rfl, c1⟩⟩
  · refine zwif_ne (q := 10) (nx := 8) (by decide +kernel) (fun c2 => ?_) (fun c2 => ?_)
    · refine zwW_p [(1, 2, 0)] (q := 11) (ls' := [(2, 37), (0, a), (0, b)]) (st' := [(0, b)]) (by decide +kernel) rfl ?_
      refine zwW_sw (d := 145) (os := [0, 68, 1, 75, 2, 82, 3, 89, 4, 96, 5, 103, 6, 110, 7, 117, 8, 124, 9, 131, 10, 138]) (by decide +kernel) ?_
      refine ⟨fun c3 => ?_, fun c3 => ?_⟩
      · show zwW _ _ _ 68 _ _ _ _
        refine zwW_p [(1, 0, 2)] (q := 69) (ls' := [(2, 37), (0, a), (0, b)]) (st' := [(2, 37)]) (by decide +kernel) rfl ?_
        refine zwW_gc I (kd := 13) (bn := 7) (n := 97) (c := 66) (nx := 72) (by decide +kernel) ?_
        refine zwW_p [(1, 1, 0)] (q := 73) (ls' := [(2, 37), (0, a), (0, b)]) (st' := [(0, a), (2, 66)]) (by decide +kernel) rfl ?_
        have ib1 : 0 ≤ a ∧ a < ((8 : Nat) : Int) := (by first | omega | exact ⟨by omega, by omega⟩)
        refine zwW_al I (a1 := 66) (a2 := 66) (kd := 20) (n := 8) (t := 0) (lo := -2147483648) (hi := 2147483647) (nx := 74) (by decide +kernel) (by first | decide | exact ⟨by decide, by decide⟩) ib1 ?_
        intro v4 ev4 lv4 uv4
        have sv4 : v4 = (yM h) 66 a.toNat := Eq.trans ev4 (Eq.trans (Eq.symm (yM_p (h := h) (a := 66) (n := 8) (i := a.toNat) rfl (zit ib1))) (Eq.trans (congrFun (congrFun (rfl : yM h = yM h) 66) a.toNat) rfl))
        refine zwW_ret (nx := 75) (a := 0) (b := 0) (by decide +kernel) rfl (Or.inl rfl) ?_
        exact ⟨rfl, by omega, by unfold yIsA; (repeat' (first | rw [if_pos (by omega)] | rw [if_neg (by omega)])); all_goals (first | rfl | omega)⟩
      refine ⟨fun c5 => ?_, fun c5 => ?_⟩
      · show zwW _ _ _ 75 _ _ _ _
        refine zwW_p [(1, 0, 2)] (q := 76) (ls' := [(2, 37), (0, a), (0, b)]) (st' := [(2, 37)]) (by decide +kernel) rfl ?_
        refine zwW_gc I (kd := 13) (bn := 8) (n := 97) (c := 67) (nx := 79) (by decide +kernel) ?_
        refine zwW_p [(1, 1, 0)] (q := 80) (ls' := [(2, 37), (0, a), (0, b)]) (st' := [(0, a), (2, 67)]) (by decide +kernel) rfl ?_
        have ib2 : 0 ≤ a ∧ a < ((8 : Nat) : Int) := (by first | omega | exact ⟨by omega, by omega⟩)
        refine zwW_al I (a1 := 67) (a2 := 67) (kd := 20) (n := 8) (t := 0) (lo := -2147483648) (hi := 2147483647) (nx := 81) (by decide +kernel) (by first | decide | exact ⟨by decide, by decide⟩) ib2 ?_
        intro v6 ev6 lv6 uv6
        have sv6 : v6 = (yM h) 67 a.toNat := Eq.trans ev6 (Eq.trans (Eq.symm (yM_p (h := h) (a := 67) (n := 8) (i := a.toNat) rfl (zit ib2))) (Eq.trans (congrFun (congrFun (rfl : yM h = yM h) 67) a.toNat) rfl))
        refine zwW_ret (nx := 82) (a := 0) (b := 0) (by decide +kernel) rfl (Or.inl rfl) ?_
        exact ⟨rfl, by omega, by unfold yIsA; (repeat' (first | rw [if_pos (by omega)] | rw [if_neg (by omega)])); all_goals (first | rfl | omega)⟩
      refine ⟨fun c7 => ?_, fun c7 => ?_⟩
      · show zwW _ _ _ 82 _ _ _ _
        refine zwW_p [(1, 0, 2)] (q := 83) (ls' := [(2, 37), (0, a), (0, b)]) (st' := [(2, 37)]) (by decide +kernel) rfl ?_
        refine zwW_gc I (kd := 13) (bn := 9) (n := 97) (c := 68) (nx := 86) (by decide +kernel) ?_
        refine zwW_p [(1, 1, 0)] (q := 87) (ls' := [(2, 37), (0, a), (0, b)]) (st' := [(0, a), (2, 68)]) (by decide +kernel) rfl ?_
        have ib3 : 0 ≤ a ∧ a < ((8 : Nat) : Int) := (by first | omega | exact ⟨by omega, by omega⟩)
        refine zwW_al I (a1 := 68) (a2 := 68) (kd := 20) (n := 8) (t := 0) (lo := -2147483648) (hi := 2147483647) (nx := 88) (by decide +kernel) (by first | decide | exact ⟨by decide, by decide⟩) ib3 ?_
        intro v8 ev8 lv8 uv8
        have sv8 : v8 = (yM h) 68 a.toNat := Eq.trans ev8 (Eq.trans (Eq.symm (yM_p (h := h) (a := 68) (n := 8) (i := a.toNat) rfl (zit ib3))) (Eq.trans (congrFun (congrFun (rfl : yM h = yM h) 68) a.toNat) rfl))
        refine zwW_ret (nx := 89) (a := 0) (b := 0) (by decide +kernel) rfl (Or.inl rfl) ?_
        exact ⟨rfl, by omega, by unfold yIsA; (repeat' (first | rw [if_pos (by omega)] | rw [if_neg (by omega)])); all_goals (first | rfl | omega)⟩
      refine ⟨fun c9 => ?_, fun c9 => ?_⟩
      · show zwW _ _ _ 89 _ _ _ _
        refine zwW_p [(1, 0, 2)] (q := 90) (ls' := [(2, 37), (0, a), (0, b)]) (st' := [(2, 37)]) (by decide +kernel) rfl ?_
        refine zwW_gc I (kd := 13) (bn := 10) (n := 97) (c := 69) (nx := 93) (by decide +kernel) ?_
        refine zwW_p [(1, 1, 0)] (q := 94) (ls' := [(2, 37), (0, a), (0, b)]) (st' := [(0, a), (2, 69)]) (by decide +kernel) rfl ?_
        have ib4 : 0 ≤ a ∧ a < ((8 : Nat) : Int) := (by first | omega | exact ⟨by omega, by omega⟩)
        refine zwW_al I (a1 := 69) (a2 := 69) (kd := 20) (n := 8) (t := 0) (lo := -2147483648) (hi := 2147483647) (nx := 95) (by decide +kernel) (by first | decide | exact ⟨by decide, by decide⟩) ib4 ?_
        intro v10 ev10 lv10 uv10
        have sv10 : v10 = (yM h) 69 a.toNat := Eq.trans ev10 (Eq.trans (Eq.symm (yM_p (h := h) (a := 69) (n := 8) (i := a.toNat) rfl (zit ib4))) (Eq.trans (congrFun (congrFun (rfl : yM h = yM h) 69) a.toNat) rfl))
        refine zwW_ret (nx := 96) (a := 0) (b := 0) (by decide +kernel) rfl (Or.inl rfl) ?_
        exact ⟨rfl, by omega, by unfold yIsA; (repeat' (first | rw [if_pos (by omega)] | rw [if_neg (by omega)])); all_goals (first | rfl | omega)⟩
      refine ⟨fun c11 => ?_, fun c11 => ?_⟩
      · show zwW _ _ _ 96 _ _ _ _
        refine zwW_p [(1, 0, 2)] (q := 97) (ls' := [(2, 37), (0, a), (0, b)]) (st' := [(2, 37)]) (by decide +kernel) rfl ?_
        refine zwW_gc I (kd := 13) (bn := 11) (n := 97) (c := 70) (nx := 100) (by decide +kernel) ?_
        refine zwW_p [(1, 1, 0)] (q := 101) (ls' := [(2, 37), (0, a), (0, b)]) (st' := [(0, a), (2, 70)]) (by decide +kernel) rfl ?_
        have ib5 : 0 ≤ a ∧ a < ((8 : Nat) : Int) := (by first | omega | exact ⟨by omega, by omega⟩)
        refine zwW_al I (a1 := 70) (a2 := 70) (kd := 20) (n := 8) (t := 0) (lo := -2147483648) (hi := 2147483647) (nx := 102) (by decide +kernel) (by first | decide | exact ⟨by decide, by decide⟩) ib5 ?_
        intro v12 ev12 lv12 uv12
        have sv12 : v12 = (yM h) 70 a.toNat := Eq.trans ev12 (Eq.trans (Eq.symm (yM_p (h := h) (a := 70) (n := 8) (i := a.toNat) rfl (zit ib5))) (Eq.trans (congrFun (congrFun (rfl : yM h = yM h) 70) a.toNat) rfl))
        refine zwW_ret (nx := 103) (a := 0) (b := 0) (by decide +kernel) rfl (Or.inl rfl) ?_
        exact ⟨rfl, by omega, by unfold yIsA; (repeat' (first | rw [if_pos (by omega)] | rw [if_neg (by omega)])); all_goals (first | rfl | omega)⟩
      refine ⟨fun c13 => ?_, fun c13 => ?_⟩
      · show zwW _ _ _ 103 _ _ _ _
        refine zwW_p [(1, 0, 2)] (q := 104) (ls' := [(2, 37), (0, a), (0, b)]) (st' := [(2, 37)]) (by decide +kernel) rfl ?_
        refine zwW_gc I (kd := 13) (bn := 12) (n := 97) (c := 71) (nx := 107) (by decide +kernel) ?_
        refine zwW_p [(1, 1, 0)] (q := 108) (ls' := [(2, 37), (0, a), (0, b)]) (st' := [(0, a), (2, 71)]) (by decide +kernel) rfl ?_
        have ib6 : 0 ≤ a ∧ a < ((8 : Nat) : Int) := (by first | omega | exact ⟨by omega, by omega⟩)
        refine zwW_al I (a1 := 71) (a2 := 71) (kd := 20) (n := 8) (t := 0) (lo := -2147483648) (hi := 2147483647) (nx := 109) (by decide +kernel) (by first | decide | exact ⟨by decide, by decide⟩) ib6 ?_
        intro v14 ev14 lv14 uv14
        have sv14 : v14 = (yM h) 71 a.toNat := Eq.trans ev14 (Eq.trans (Eq.symm (yM_p (h := h) (a := 71) (n := 8) (i := a.toNat) rfl (zit ib6))) (Eq.trans (congrFun (congrFun (rfl : yM h = yM h) 71) a.toNat) rfl))
        refine zwW_ret (nx := 110) (a := 0) (b := 0) (by decide +kernel) rfl (Or.inl rfl) ?_
        exact ⟨rfl, by omega, by unfold yIsA; (repeat' (first | rw [if_pos (by omega)] | rw [if_neg (by omega)])); all_goals (first | rfl | omega)⟩
      refine ⟨fun c15 => ?_, fun c15 => ?_⟩
      · show zwW _ _ _ 110 _ _ _ _
        refine zwW_p [(1, 0, 2)] (q := 111) (ls' := [(2, 37), (0, a), (0, b)]) (st' := [(2, 37)]) (by decide +kernel) rfl ?_
        refine zwW_gc I (kd := 13) (bn := 13) (n := 97) (c := 72) (nx := 114) (by decide +kernel) ?_
        refine zwW_p [(1, 1, 0)] (q := 115) (ls' := [(2, 37), (0, a), (0, b)]) (st' := [(0, a), (2, 72)]) (by decide +kernel) rfl ?_
        have ib7 : 0 ≤ a ∧ a < ((8 : Nat) : Int) := (by first | omega | exact ⟨by omega, by omega⟩)
        refine zwW_al I (a1 := 72) (a2 := 72) (kd := 20) (n := 8) (t := 0) (lo := -2147483648) (hi := 2147483647) (nx := 116) (by decide +kernel) (by first | decide | exact ⟨by decide, by decide⟩) ib7 ?_
        intro v16 ev16 lv16 uv16
        have sv16 : v16 = (yM h) 72 a.toNat := Eq.trans ev16 (Eq.trans (Eq.symm (yM_p (h := h) (a := 72) (n := 8) (i := a.toNat) rfl (zit ib7))) (Eq.trans (congrFun (congrFun (rfl : yM h = yM h) 72) a.toNat) rfl))
        refine zwW_ret (nx := 117) (a := 0) (b := 0) (by decide +kernel) rfl (Or.inl rfl) ?_
        exact ⟨rfl, by omega, by unfold yIsA; (repeat' (first | rw [if_pos (by omega)] | rw [if_neg (by omega)])); all_goals (first | rfl | omega)⟩
      refine ⟨fun c17 => ?_, fun c17 => ?_⟩
      · show zwW _ _ _ 117 _ _ _ _
        refine zwW_p [(1, 0, 2)] (q := 118) (ls' := [(2, 37), (0, a), (0, b)]) (st' := [(2, 37)]) (by decide +kernel) rfl ?_
        refine zwW_gc I (kd := 13) (bn := 14) (n := 97) (c := 73) (nx := 121) (by decide +kernel) ?_
        refine zwW_p [(1, 1, 0)] (q := 122) (ls' := [(2, 37), (0, a), (0, b)]) (st' := [(0, a), (2, 73)]) (by decide +kernel) rfl ?_
        have ib8 : 0 ≤ a ∧ a < ((8 : Nat) : Int) := (by first | omega | exact ⟨by omega, by omega⟩)
        refine zwW_al I (a1 := 73) (a2 := 73) (kd := 20) (n := 8) (t := 0) (lo := -2147483648) (hi := 2147483647) (nx := 123) (by decide +kernel) (by first | decide | exact ⟨by decide, by decide⟩) ib8 ?_
        intro v18 ev18 lv18 uv18
        have sv18 : v18 = (yM h) 73 a.toNat := Eq.trans ev18 (Eq.trans (Eq.symm (yM_p (h := h) (a := 73) (n := 8) (i := a.toNat) rfl (zit ib8))) (Eq.trans (congrFun (congrFun (rfl : yM h = yM h) 73) a.toNat) rfl))
        refine zwW_ret (nx := 124) (a := 0) (b := 0) (by decide +kernel) rfl (Or.inl rfl) ?_
        exact ⟨rfl, by omega, by unfold yIsA; (repeat' (first | rw [if_pos (by omega)] | rw [if_neg (by omega)])); all_goals (first | rfl | omega)⟩
      refine ⟨fun c19 => ?_, fun c19 => ?_⟩
      · show zwW _ _ _ 124 _ _ _ _
        refine zwW_p [(1, 0, 2)] (q := 125) (ls' := [(2, 37), (0, a), (0, b)]) (st' := [(2, 37)]) (by decide +kernel) rfl ?_
        refine zwW_gc I (kd := 13) (bn := 15) (n := 97) (c := 74) (nx := 128) (by decide +kernel) ?_
        refine zwW_p [(1, 1, 0)] (q := 129) (ls' := [(2, 37), (0, a), (0, b)]) (st' := [(0, a), (2, 74)]) (by decide +kernel) rfl ?_
        have ib9 : 0 ≤ a ∧ a < ((8 : Nat) : Int) := (by first | omega | exact ⟨by omega, by omega⟩)
        refine zwW_al I (a1 := 74) (a2 := 74) (kd := 20) (n := 8) (t := 0) (lo := 0) (hi := 9999) (nx := 130) (by decide +kernel) (by first | decide | exact ⟨by decide, by decide⟩) ib9 ?_
        intro v20 ev20 lv20 uv20
        have sv20 : v20 = (yM h) 74 a.toNat := Eq.trans ev20 (Eq.trans (Eq.symm (yM_p (h := h) (a := 74) (n := 8) (i := a.toNat) rfl (zit ib9))) (Eq.trans (congrFun (congrFun (rfl : yM h = yM h) 74) a.toNat) rfl))
        refine zwW_ret (nx := 131) (a := 0) (b := 0) (by decide +kernel) rfl (Or.inl rfl) ?_
        exact ⟨rfl, by omega, by unfold yIsA; (repeat' (first | rw [if_pos (by omega)] | rw [if_neg (by omega)])); all_goals (first | rfl | omega)⟩
      refine ⟨fun c21 => ?_, fun c21 => ?_⟩
      · show zwW _ _ _ 131 _ _ _ _
        refine zwW_p [(1, 0, 2)] (q := 132) (ls' := [(2, 37), (0, a), (0, b)]) (st' := [(2, 37)]) (by decide +kernel) rfl ?_
        refine zwW_gc I (kd := 13) (bn := 17) (n := 97) (c := 76) (nx := 135) (by decide +kernel) ?_
        refine zwW_p [(1, 1, 0)] (q := 136) (ls' := [(2, 37), (0, a), (0, b)]) (st' := [(0, a), (2, 76)]) (by decide +kernel) rfl ?_
        have ib10 : 0 ≤ a ∧ a < ((8 : Nat) : Int) := (by first | omega | exact ⟨by omega, by omega⟩)
        refine zwW_al I (a1 := 76) (a2 := 76) (kd := 20) (n := 8) (t := 0) (lo := -2147483648) (hi := 2147483647) (nx := 137) (by decide +kernel) (by first | decide | exact ⟨by decide, by decide⟩) ib10 ?_
        intro v22 ev22 lv22 uv22
        have sv22 : v22 = (yM h) 76 a.toNat := Eq.trans ev22 (Eq.trans (Eq.symm (yM_p (h := h) (a := 76) (n := 8) (i := a.toNat) rfl (zit ib10))) (Eq.trans (congrFun (congrFun (rfl : yM h = yM h) 76) a.toNat) rfl))
        refine zwW_ret (nx := 138) (a := 0) (b := 0) (by decide +kernel) rfl (Or.inl rfl) ?_
        exact ⟨rfl, by omega, by unfold yIsA; (repeat' (first | rw [if_pos (by omega)] | rw [if_neg (by omega)])); all_goals (first | rfl | omega)⟩
      refine ⟨fun c23 => ?_, fun c23 => ?_⟩
      · show zwW _ _ _ 138 _ _ _ _
        refine zwW_p [(1, 0, 2)] (q := 139) (ls' := [(2, 37), (0, a), (0, b)]) (st' := [(2, 37)]) (by decide +kernel) rfl ?_
        refine zwW_gc I (kd := 13) (bn := 18) (n := 97) (c := 77) (nx := 142) (by decide +kernel) ?_
        refine zwW_p [(1, 1, 0)] (q := 143) (ls' := [(2, 37), (0, a), (0, b)]) (st' := [(0, a), (2, 77)]) (by decide +kernel) rfl ?_
        have ib11 : 0 ≤ a ∧ a < ((8 : Nat) : Int) := (by first | omega | exact ⟨by omega, by omega⟩)
        refine zwW_al I (a1 := 77) (a2 := 77) (kd := 20) (n := 8) (t := 0) (lo := -2147483648) (hi := 2147483647) (nx := 144) (by decide +kernel) (by first | decide | exact ⟨by decide, by decide⟩) ib11 ?_
        intro v24 ev24 lv24 uv24
        have sv24 : v24 = (yM h) 77 a.toNat := Eq.trans ev24 (Eq.trans (Eq.symm (yM_p (h := h) (a := 77) (n := 8) (i := a.toNat) rfl (zit ib11))) (Eq.trans (congrFun (congrFun (rfl : yM h = yM h) 77) a.toNat) rfl))
        refine zwW_ret (nx := 145) (a := 0) (b := 0) (by decide +kernel) rfl (Or.inl rfl) ?_
        exact ⟨rfl, by omega, by unfold yIsA; (repeat' (first | rw [if_pos (by omega)] | rw [if_neg (by omega)])); all_goals (first | rfl | omega)⟩
      show zwW _ _ _ 145 _ _ _ _
      refine zwW_p [(0, -1, 0)] (q := 146) (ls' := [(2, 37), (0, a), (0, b)]) (st' := [(0, -1)]) (by decide +kernel) rfl ?_
      refine zwW_ret (nx := 147) (a := 0) (b := 0) (by decide +kernel) rfl (Or.inl rfl) ?_
      exact ⟨rfl, by omega, by unfold yIsA; (repeat' (first | rw [if_neg (by omega)] | rw [if_pos (by omega)])); all_goals (first | rfl | omega)⟩
    · exfalso; omega
  · refine zwif_ne (q := 10) (nx := 8) (by decide +kernel) (fun c25 => ?_) (fun c25 => ?_)
    · exfalso; omega
    · refine zwW_p [(0, -1, 0)] (q := 9) (ls' := [(2, 37), (0, a), (0, b)]) (st' := [(0, -1)]) (by decide +kernel) rfl ?_
      refine zwW_ret (nx := 10) (a := 0) (b := 0) (by decide +kernel) rfl (Or.inl rfl) ?_
      exact ⟨rfl, by omega, by unfold yIsA; (repeat' (first | rw [if_neg (by omega)] | rw [if_pos (by omega)])); all_goals (first | rfl | omega)⟩
-- WheelLandModel.has(II)I
theorem m86_z {sc : List Int} (h : Hp) (I : zI h) (a b : Int) : zwC sc 3 86 [(2, 37), (0, a), (0, b)] h (zwRt 0 (fun x g => h = g ∧ (-2147483648 ≤ x ∧ x ≤ 2147483647) ∧ (x = yHasA (yM h) a b))) := by
  refine zwC_of (D := 2) 3 (by decide +kernel) rfl (ls := [(2, 37), (0, a), (0, b)]) rfl ?_
  have u0 : yM h 37 0 = fld h 37 0 := rfl
  have u1 : yM h 37 1 = fld h 37 1 := rfl
  have u2 : yM h 37 2 = fld h 37 2 := rfl
  have u64 : yM h 37 64 = fld h 37 64 := rfl
  have u78 : yM h 37 78 = fld h 37 78 := rfl
  refine zwW_p [(1, 0, 2), (1, 1, 0)] (q := 2) (ls' := [(2, 37), (0, a), (0, b)]) (st' := [(0, a), (2, 37)]) (by decide +kernel) rfl ?_
  refine zwW_cm I (op := 60) (k' := 111) (n := 1) (kd := 13) (m := 97) (nx := 5) (r := 37) (tl := [(0, a)]) (st' := []) (by decide +kernel) rfl (by decide +kernel) rfl (m111 h I a) ?_
  rintro x _ ⟨rfl, ⟨rfl, c1⟩ | ⟨rfl, c1⟩⟩
  · refine zwif_ne (q := 12) (nx := 8) (by decide +kernel) (fun c2 => ?_) (fun c2 => ?_)
    · refine zwW_p [(1, 2, 0)] (q := 13) (ls' := [(2, 37), (0, a), (0, b)]) (st' := [(0, b)]) (by decide +kernel) rfl ?_
      refine zwW_sw (d := 161) (os := [0, 72, 1, 79, 2, 86, 3, 93, 4, 100, 5, 107, 6, 114, 7, 121, 8, 128, 9, 135, 10, 142]) (by decide +kernel) ?_
      refine ⟨fun c3 => ?_, fun c3 => ?_⟩
      · show zwW _ _ _ 72 _ _ _ _
        refine zwW_p [(1, 0, 2)] (q := 73) (ls' := [(2, 37), (0, a), (0, b)]) (st' := [(2, 37)]) (by decide +kernel) rfl ?_
        refine zwW_gc I (kd := 13) (bn := 20) (n := 97) (c := 79) (nx := 76) (by decide +kernel) ?_
        refine zwW_p [(1, 1, 0)] (q := 77) (ls' := [(2, 37), (0, a), (0, b)]) (st' := [(0, a), (2, 79)]) (by decide +kernel) rfl ?_
        have ib1 : 0 ≤ a ∧ a < ((20 : Nat) : Int) := (by first | omega | exact ⟨by omega, by omega⟩)
        refine zwW_al I (a1 := 79) (a2 := 79) (kd := 20) (n := 20) (t := 0) (lo := 0) (hi := 7) (nx := 78) (by decide +kernel) (by first | decide | exact ⟨by decide, by decide⟩) ib1 ?_
        intro v4 ev4 lv4 uv4
        have sv4 : v4 = (yM h) 79 a.toNat := Eq.trans ev4 (Eq.trans (Eq.symm (yM_p (h := h) (a := 79) (n := 20) (i := a.toNat) rfl (zit ib1))) (Eq.trans (congrFun (congrFun (rfl : yM h = yM h) 79) a.toNat) rfl))
        refine zwW_ret (nx := 79) (a := 0) (b := 0) (by decide +kernel) rfl (Or.inl rfl) ?_
        exact ⟨rfl, by omega, by unfold yHasA; (repeat' (first | rw [if_pos (by omega)] | rw [if_neg (by omega)])); all_goals (first | rfl | omega)⟩
      refine ⟨fun c5 => ?_, fun c5 => ?_⟩
      · show zwW _ _ _ 79 _ _ _ _
        refine zwW_p [(1, 0, 2)] (q := 80) (ls' := [(2, 37), (0, a), (0, b)]) (st' := [(2, 37)]) (by decide +kernel) rfl ?_
        refine zwW_gc I (kd := 13) (bn := 21) (n := 97) (c := 80) (nx := 83) (by decide +kernel) ?_
        refine zwW_p [(1, 1, 0)] (q := 84) (ls' := [(2, 37), (0, a), (0, b)]) (st' := [(0, a), (2, 80)]) (by decide +kernel) rfl ?_
        have ib2 : 0 ≤ a ∧ a < ((20 : Nat) : Int) := (by first | omega | exact ⟨by omega, by omega⟩)
        refine zwW_al I (a1 := 80) (a2 := 80) (kd := 20) (n := 20) (t := 0) (lo := 0) (hi := 5) (nx := 85) (by decide +kernel) (by first | decide | exact ⟨by decide, by decide⟩) ib2 ?_
        intro v6 ev6 lv6 uv6
        have sv6 : v6 = (yM h) 80 a.toNat := Eq.trans ev6 (Eq.trans (Eq.symm (yM_p (h := h) (a := 80) (n := 20) (i := a.toNat) rfl (zit ib2))) (Eq.trans (congrFun (congrFun (rfl : yM h = yM h) 80) a.toNat) rfl))
        refine zwW_ret (nx := 86) (a := 0) (b := 0) (by decide +kernel) rfl (Or.inl rfl) ?_
        exact ⟨rfl, by omega, by unfold yHasA; (repeat' (first | rw [if_pos (by omega)] | rw [if_neg (by omega)])); all_goals (first | rfl | omega)⟩
      refine ⟨fun c7 => ?_, fun c7 => ?_⟩
      · show zwW _ _ _ 86 _ _ _ _
        refine zwW_p [(1, 0, 2)] (q := 87) (ls' := [(2, 37), (0, a), (0, b)]) (st' := [(2, 37)]) (by decide +kernel) rfl ?_
        refine zwW_gc I (kd := 13) (bn := 22) (n := 97) (c := 81) (nx := 90) (by decide +kernel) ?_
        refine zwW_p [(1, 1, 0)] (q := 91) (ls' := [(2, 37), (0, a), (0, b)]) (st' := [(0, a), (2, 81)]) (by decide +kernel) rfl ?_
        have ib3 : 0 ≤ a ∧ a < ((20 : Nat) : Int) := (by first | omega | exact ⟨by omega, by omega⟩)
        refine zwW_al I (a1 := 81) (a2 := 81) (kd := 20) (n := 20) (t := 0) (lo := 0) (hi := 9) (nx := 92) (by decide +kernel) (by first | decide | exact ⟨by decide, by decide⟩) ib3 ?_
        intro v8 ev8 lv8 uv8
        have sv8 : v8 = (yM h) 81 a.toNat := Eq.trans ev8 (Eq.trans (Eq.symm (yM_p (h := h) (a := 81) (n := 20) (i := a.toNat) rfl (zit ib3))) (Eq.trans (congrFun (congrFun (rfl : yM h = yM h) 81) a.toNat) rfl))
        refine zwW_ret (nx := 93) (a := 0) (b := 0) (by decide +kernel) rfl (Or.inl rfl) ?_
        exact ⟨rfl, by omega, by unfold yHasA; (repeat' (first | rw [if_pos (by omega)] | rw [if_neg (by omega)])); all_goals (first | rfl | omega)⟩
      refine ⟨fun c9 => ?_, fun c9 => ?_⟩
      · show zwW _ _ _ 93 _ _ _ _
        refine zwW_p [(1, 0, 2)] (q := 94) (ls' := [(2, 37), (0, a), (0, b)]) (st' := [(2, 37)]) (by decide +kernel) rfl ?_
        refine zwW_gc I (kd := 13) (bn := 23) (n := 97) (c := 82) (nx := 97) (by decide +kernel) ?_
        refine zwW_p [(1, 1, 0)] (q := 98) (ls' := [(2, 37), (0, a), (0, b)]) (st' := [(0, a), (2, 82)]) (by decide +kernel) rfl ?_
        have ib4 : 0 ≤ a ∧ a < ((20 : Nat) : Int) := (by first | omega | exact ⟨by omega, by omega⟩)
        refine zwW_al I (a1 := 82) (a2 := 82) (kd := 20) (n := 20) (t := 0) (lo := 0) (hi := 5) (nx := 99) (by decide +kernel) (by first | decide | exact ⟨by decide, by decide⟩) ib4 ?_
        intro v10 ev10 lv10 uv10
        have sv10 : v10 = (yM h) 82 a.toNat := Eq.trans ev10 (Eq.trans (Eq.symm (yM_p (h := h) (a := 82) (n := 20) (i := a.toNat) rfl (zit ib4))) (Eq.trans (congrFun (congrFun (rfl : yM h = yM h) 82) a.toNat) rfl))
        refine zwW_ret (nx := 100) (a := 0) (b := 0) (by decide +kernel) rfl (Or.inl rfl) ?_
        exact ⟨rfl, by omega, by unfold yHasA; (repeat' (first | rw [if_pos (by omega)] | rw [if_neg (by omega)])); all_goals (first | rfl | omega)⟩
      refine ⟨fun c11 => ?_, fun c11 => ?_⟩
      · show zwW _ _ _ 100 _ _ _ _
        refine zwW_p [(1, 0, 2)] (q := 101) (ls' := [(2, 37), (0, a), (0, b)]) (st' := [(2, 37)]) (by decide +kernel) rfl ?_
        refine zwW_gc I (kd := 13) (bn := 24) (n := 97) (c := 83) (nx := 104) (by decide +kernel) ?_
        refine zwW_p [(1, 1, 0)] (q := 105) (ls' := [(2, 37), (0, a), (0, b)]) (st' := [(0, a), (2, 83)]) (by decide +kernel) rfl ?_
        have ib5 : 0 ≤ a ∧ a < ((20 : Nat) : Int) := (by first | omega | exact ⟨by omega, by omega⟩)
        refine zwW_al I (a1 := 83) (a2 := 83) (kd := 20) (n := 20) (t := 0) (lo := 0) (hi := 9) (nx := 106) (by decide +kernel) (by first | decide | exact ⟨by decide, by decide⟩) ib5 ?_
        intro v12 ev12 lv12 uv12
        have sv12 : v12 = (yM h) 83 a.toNat := Eq.trans ev12 (Eq.trans (Eq.symm (yM_p (h := h) (a := 83) (n := 20) (i := a.toNat) rfl (zit ib5))) (Eq.trans (congrFun (congrFun (rfl : yM h = yM h) 83) a.toNat) rfl))
        refine zwW_ret (nx := 107) (a := 0) (b := 0) (by decide +kernel) rfl (Or.inl rfl) ?_
        exact ⟨rfl, by omega, by unfold yHasA; (repeat' (first | rw [if_pos (by omega)] | rw [if_neg (by omega)])); all_goals (first | rfl | omega)⟩
      refine ⟨fun c13 => ?_, fun c13 => ?_⟩
      · show zwW _ _ _ 107 _ _ _ _
        refine zwW_p [(1, 0, 2)] (q := 108) (ls' := [(2, 37), (0, a), (0, b)]) (st' := [(2, 37)]) (by decide +kernel) rfl ?_
        refine zwW_gc I (kd := 13) (bn := 25) (n := 97) (c := 84) (nx := 111) (by decide +kernel) ?_
        refine zwW_p [(1, 1, 0)] (q := 112) (ls' := [(2, 37), (0, a), (0, b)]) (st' := [(0, a), (2, 84)]) (by decide +kernel) rfl ?_
        have ib6 : 0 ≤ a ∧ a < ((20 : Nat) : Int) := (by first | omega | exact ⟨by omega, by omega⟩)
        refine zwW_al I (a1 := 84) (a2 := 84) (kd := 20) (n := 20) (t := 0) (lo := -2147483648) (hi := 2147483647) (nx := 113) (by decide +kernel) (by first | decide | exact ⟨by decide, by decide⟩) ib6 ?_
        intro v14 ev14 lv14 uv14
        have sv14 : v14 = (yM h) 84 a.toNat := Eq.trans ev14 (Eq.trans (Eq.symm (yM_p (h := h) (a := 84) (n := 20) (i := a.toNat) rfl (zit ib6))) (Eq.trans (congrFun (congrFun (rfl : yM h = yM h) 84) a.toNat) rfl))
        refine zwW_ret (nx := 114) (a := 0) (b := 0) (by decide +kernel) rfl (Or.inl rfl) ?_
        exact ⟨rfl, by omega, by unfold yHasA; (repeat' (first | rw [if_pos (by omega)] | rw [if_neg (by omega)])); all_goals (first | rfl | omega)⟩
      refine ⟨fun c15 => ?_, fun c15 => ?_⟩
      · show zwW _ _ _ 114 _ _ _ _
        refine zwW_p [(1, 0, 2)] (q := 115) (ls' := [(2, 37), (0, a), (0, b)]) (st' := [(2, 37)]) (by decide +kernel) rfl ?_
        refine zwW_gc I (kd := 13) (bn := 26) (n := 97) (c := 85) (nx := 118) (by decide +kernel) ?_
        refine zwW_p [(1, 1, 0)] (q := 119) (ls' := [(2, 37), (0, a), (0, b)]) (st' := [(0, a), (2, 85)]) (by decide +kernel) rfl ?_
        have ib7 : 0 ≤ a ∧ a < ((20 : Nat) : Int) := (by first | omega | exact ⟨by omega, by omega⟩)
        refine zwW_al I (a1 := 85) (a2 := 85) (kd := 20) (n := 20) (t := 0) (lo := 0) (hi := 60) (nx := 120) (by decide +kernel) (by first | decide | exact ⟨by decide, by decide⟩) ib7 ?_
        intro v16 ev16 lv16 uv16
        have sv16 : v16 = (yM h) 85 a.toNat := Eq.trans ev16 (Eq.trans (Eq.symm (yM_p (h := h) (a := 85) (n := 20) (i := a.toNat) rfl (zit ib7))) (Eq.trans (congrFun (congrFun (rfl : yM h = yM h) 85) a.toNat) rfl))
        refine zwW_ret (nx := 121) (a := 0) (b := 0) (by decide +kernel) rfl (Or.inl rfl) ?_
        exact ⟨rfl, by omega, by unfold yHasA; (repeat' (first | rw [if_pos (by omega)] | rw [if_neg (by omega)])); all_goals (first | rfl | omega)⟩
      refine ⟨fun c17 => ?_, fun c17 => ?_⟩
      · show zwW _ _ _ 121 _ _ _ _
        refine zwW_p [(1, 0, 2)] (q := 122) (ls' := [(2, 37), (0, a), (0, b)]) (st' := [(2, 37)]) (by decide +kernel) rfl ?_
        refine zwW_gc I (kd := 13) (bn := 27) (n := 97) (c := 86) (nx := 125) (by decide +kernel) ?_
        refine zwW_p [(1, 1, 0)] (q := 126) (ls' := [(2, 37), (0, a), (0, b)]) (st' := [(0, a), (2, 86)]) (by decide +kernel) rfl ?_
        have ib8 : 0 ≤ a ∧ a < ((20 : Nat) : Int) := (by first | omega | exact ⟨by omega, by omega⟩)
        refine zwW_al I (a1 := 86) (a2 := 86) (kd := 20) (n := 20) (t := 0) (lo := -2147483648) (hi := 2147483647) (nx := 127) (by decide +kernel) (by first | decide | exact ⟨by decide, by decide⟩) ib8 ?_
        intro v18 ev18 lv18 uv18
        have sv18 : v18 = (yM h) 86 a.toNat := Eq.trans ev18 (Eq.trans (Eq.symm (yM_p (h := h) (a := 86) (n := 20) (i := a.toNat) rfl (zit ib8))) (Eq.trans (congrFun (congrFun (rfl : yM h = yM h) 86) a.toNat) rfl))
        refine zwW_ret (nx := 128) (a := 0) (b := 0) (by decide +kernel) rfl (Or.inl rfl) ?_
        exact ⟨rfl, by omega, by unfold yHasA; (repeat' (first | rw [if_pos (by omega)] | rw [if_neg (by omega)])); all_goals (first | rfl | omega)⟩
      refine ⟨fun c19 => ?_, fun c19 => ?_⟩
      · show zwW _ _ _ 128 _ _ _ _
        refine zwW_p [(1, 0, 2)] (q := 129) (ls' := [(2, 37), (0, a), (0, b)]) (st' := [(2, 37)]) (by decide +kernel) rfl ?_
        refine zwW_gc I (kd := 13) (bn := 28) (n := 97) (c := 87) (nx := 132) (by decide +kernel) ?_
        refine zwW_p [(1, 1, 0)] (q := 133) (ls' := [(2, 37), (0, a), (0, b)]) (st' := [(0, a), (2, 87)]) (by decide +kernel) rfl ?_
        have ib9 : 0 ≤ a ∧ a < ((20 : Nat) : Int) := (by first | omega | exact ⟨by omega, by omega⟩)
        refine zwW_al I (a1 := 87) (a2 := 87) (kd := 20) (n := 20) (t := 0) (lo := -2147483648) (hi := 2147483647) (nx := 134) (by decide +kernel) (by first | decide | exact ⟨by decide, by decide⟩) ib9 ?_
        intro v20 ev20 lv20 uv20
        have sv20 : v20 = (yM h) 87 a.toNat := Eq.trans ev20 (Eq.trans (Eq.symm (yM_p (h := h) (a := 87) (n := 20) (i := a.toNat) rfl (zit ib9))) (Eq.trans (congrFun (congrFun (rfl : yM h = yM h) 87) a.toNat) rfl))
        refine zwW_ret (nx := 135) (a := 0) (b := 0) (by decide +kernel) rfl (Or.inl rfl) ?_
        exact ⟨rfl, by omega, by unfold yHasA; (repeat' (first | rw [if_pos (by omega)] | rw [if_neg (by omega)])); all_goals (first | rfl | omega)⟩
      refine ⟨fun c21 => ?_, fun c21 => ?_⟩
      · show zwW _ _ _ 135 _ _ _ _
        refine zwW_p [(1, 0, 2)] (q := 136) (ls' := [(2, 37), (0, a), (0, b)]) (st' := [(2, 37)]) (by decide +kernel) rfl ?_
        refine zwW_gc I (kd := 13) (bn := 29) (n := 97) (c := 88) (nx := 139) (by decide +kernel) ?_
        refine zwW_p [(1, 1, 0)] (q := 140) (ls' := [(2, 37), (0, a), (0, b)]) (st' := [(0, a), (2, 88)]) (by decide +kernel) rfl ?_
        have ib10 : 0 ≤ a ∧ a < ((20 : Nat) : Int) := (by first | omega | exact ⟨by omega, by omega⟩)
        refine zwW_al I (a1 := 88) (a2 := 88) (kd := 20) (n := 20) (t := 0) (lo := -2147483648) (hi := 2147483647) (nx := 141) (by decide +kernel) (by first | decide | exact ⟨by decide, by decide⟩) ib10 ?_
        intro v22 ev22 lv22 uv22
        have sv22 : v22 = (yM h) 88 a.toNat := Eq.trans ev22 (Eq.trans (Eq.symm (yM_p (h := h) (a := 88) (n := 20) (i := a.toNat) rfl (zit ib10))) (Eq.trans (congrFun (congrFun (rfl : yM h = yM h) 88) a.toNat) rfl))
        refine zwW_ret (nx := 142) (a := 0) (b := 0) (by decide +kernel) rfl (Or.inl rfl) ?_
        exact ⟨rfl, by omega, by unfold yHasA; (repeat' (first | rw [if_pos (by omega)] | rw [if_neg (by omega)])); all_goals (first | rfl | omega)⟩
      refine ⟨fun c23 => ?_, fun c23 => ?_⟩
      · show zwW _ _ _ 142 _ _ _ _
        refine zwW_p [(1, 0, 2), (1, 1, 0)] (q := 144) (ls' := [(2, 37), (0, a), (0, b)]) (st' := [(0, a), (2, 37)]) (by decide +kernel) rfl ?_
        refine zwW_cm I (op := 60) (k' := 112) (n := 1) (kd := 13) (m := 97) (nx := 147) (r := 37) (tl := [(0, a)]) (st' := []) (by decide +kernel) rfl (by decide +kernel) rfl (m112 h I a (by omega) (by omega)) ?_
        rintro x _ ⟨rfl, ⟨rfl, c24⟩ | ⟨rfl, c24⟩⟩
        · have w147 : yM h 91 a.toNat = fld h 91 a.toNat := yM_p (a := 91) (n := 20) rfl (by omega)
          refine zwif_eq (q := 159) (nx := 150) (by decide +kernel) (fun c25 => ?_) (fun c25 => ?_)
          · exfalso; omega
          · refine zwW_p [(1, 0, 2)] (q := 151) (ls' := [(2, 37), (0, a), (0, b)]) (st' := [(2, 37)]) (by decide +kernel) rfl ?_
            refine zwW_gc I (kd := 13) (bn := 33) (n := 97) (c := 92) (nx := 154) (by decide +kernel) ?_
            refine zwW_p [(1, 1, 0)] (q := 155) (ls' := [(2, 37), (0, a), (0, b)]) (st' := [(0, a), (2, 92)]) (by decide +kernel) rfl ?_
            have ib11 : 0 ≤ a ∧ a < ((20 : Nat) : Int) := (by first | omega | exact ⟨by omega, by omega⟩)
            refine zwW_al I (a1 := 92) (a2 := 92) (kd := 20) (n := 20) (t := 0) (lo := -2147483648) (hi := 2147483647) (nx := 156) (by decide +kernel) (by first | decide | exact ⟨by decide, by decide⟩) ib11 ?_
            intro v26 ev26 lv26 uv26
            have sv26 : v26 = (yM h) 92 a.toNat := Eq.trans ev26 (Eq.trans (Eq.symm (yM_p (h := h) (a := 92) (n := 20) (i := a.toNat) rfl (zit ib11))) (Eq.trans (congrFun (congrFun (rfl : yM h = yM h) 92) a.toNat) rfl))
            refine zwW_p [(24, 160, 0)] (q := 160) (ls' := [(2, 37), (0, a), (0, b)]) (st' := [(0, v26)]) (by decide +kernel) rfl ?_
            refine zwW_ret (nx := 161) (a := 0) (b := 0) (by decide +kernel) rfl (Or.inl rfl) ?_
            exact ⟨rfl, by omega, by unfold yHasA; (repeat' (first | rw [if_pos (by omega)] | rw [if_neg (by omega)])); all_goals (first | rfl | omega)⟩
        · have w147 : yM h 91 a.toNat = fld h 91 a.toNat := yM_p (a := 91) (n := 20) rfl (by omega)
          refine zwif_eq (q := 159) (nx := 150) (by decide +kernel) (fun c27 => ?_) (fun c27 => ?_)
          · refine zwW_p [(0, -1, 0)] (q := 160) (ls' := [(2, 37), (0, a), (0, b)]) (st' := [(0, -1)]) (by decide +kernel) rfl ?_
            refine zwW_ret (nx := 161) (a := 0) (b := 0) (by decide +kernel) rfl (Or.inl rfl) ?_
            exact ⟨rfl, by omega, by unfold yHasA; (repeat' (first | rw [if_neg (by omega)] | rw [if_pos (by omega)])); all_goals (first | rfl | omega)⟩
          · exfalso; omega
      show zwW _ _ _ 161 _ _ _ _
      refine zwW_p [(0, -2147483648, 0)] (q := 164) (ls' := [(2, 37), (0, a), (0, b)]) (st' := [(0, -2147483648)]) (by decide +kernel) rfl ?_
      refine zwW_ret (nx := 165) (a := 0) (b := 0) (by decide +kernel) rfl (Or.inl rfl) ?_
      exact ⟨rfl, by omega, by unfold yHasA; (repeat' (first | rw [if_pos (by omega)] | rw [if_neg (by omega)])); all_goals (first | rfl | omega)⟩
    · exfalso; omega
  · refine zwif_ne (q := 12) (nx := 8) (by decide +kernel) (fun c28 => ?_) (fun c28 => ?_)
    · exfalso; omega
    · refine zwW_p [(0, -2147483648, 0)] (q := 11) (ls' := [(2, 37), (0, a), (0, b)]) (st' := [(0, -2147483648)]) (by decide +kernel) rfl ?_
      refine zwW_ret (nx := 12) (a := 0) (b := 0) (by decide +kernel) rfl (Or.inl rfl) ?_
      exact ⟨rfl, by omega, by unfold yHasA; (repeat' (first | rw [if_pos (by omega)] | rw [if_neg (by omega)])); all_goals (first | rfl | omega)⟩
-- WheelLandModel.count(I)I
theorem m88_z {sc : List Int} (h : Hp) (I : zI h) (a : Int) : zwC sc 1 88 [(2, 37), (0, a)] h (zwRt 0 (fun x g => h = g ∧ (-2147483648 ≤ x ∧ x ≤ 2147483647) ∧ (x = yCntA (yM h) a))) := by
  refine zwC_of (D := 0) 2 (by decide +kernel) rfl (ls := [(2, 37), (0, a)]) rfl ?_
  have u0 : yM h 37 0 = fld h 37 0 := rfl
  have u1 : yM h 37 1 = fld h 37 1 := rfl
  have u2 : yM h 37 2 = fld h 37 2 := rfl
  have u38 : yM h 37 38 = fld h 37 38 := rfl
  have u41 : yM h 37 41 = fld h 37 41 := rfl
  have u52 : yM h 37 52 = fld h 37 52 := rfl
  have u64 : yM h 37 64 = fld h 37 64 := rfl
  have u78 : yM h 37 78 = fld h 37 78 := rfl
  have u86 : yM h 37 86 = fld h 37 86 := rfl
  have u96 : yM h 37 96 = fld h 37 96 := rfl
  refine zwW_p [(1, 1, 0)] (q := 1) (ls' := [(2, 37), (0, a)]) (st' := [(0, a)]) (by decide +kernel) rfl ?_
  refine zwW_sw (d := 106) (os := [0, 56, 1, 61, 2, 66, 3, 71, 4, 76, 5, 81, 6, 86, 7, 91, 8, 96, 9, 101]) (by decide +kernel) ?_
  refine ⟨fun c1 => ?_, fun c1 => ?_⟩
  · show zwW _ _ _ 56 _ _ _ _
    refine zwW_p [(1, 0, 2)] (q := 57) (ls' := [(2, 37), (0, a)]) (st' := [(2, 37)]) (by decide +kernel) rfl ?_
    refine zwW_gs I (kd := 13) (bn := 0) (n := 97) (t := 0) (lo := 0) (hi := 156) (nx := 60) (by decide +kernel) ?_
    intro v2 ev2 lv2 uv2
    have sv2 : v2 = (yM h) 37 0 := Eq.trans ev2 (Eq.trans (Eq.symm (yM_s (h := h) (i := 0) rfl)) (Eq.trans (congrFun (congrFun (rfl : yM h = yM h) 37) 0) rfl))
    refine zwW_ret (nx := 61) (a := 0) (b := 0) (by decide +kernel) rfl (Or.inl rfl) ?_
    exact ⟨rfl, by omega, by unfold yCntA; (repeat' (first | rw [if_pos (by omega)] | rw [if_neg (by omega)])); all_goals (first | rfl | omega)⟩
  refine ⟨fun c3 => ?_, fun c3 => ?_⟩
  · show zwW _ _ _ 61 _ _ _ _
    refine zwW_p [(1, 0, 2)] (q := 62) (ls' := [(2, 37), (0, a)]) (st' := [(2, 37)]) (by decide +kernel) rfl ?_
    refine zwW_gs I (kd := 13) (bn := 1) (n := 97) (t := 0) (lo := 0) (hi := 8) (nx := 65) (by decide +kernel) ?_
    intro v4 ev4 lv4 uv4
    have sv4 : v4 = (yM h) 37 1 := Eq.trans ev4 (Eq.trans (Eq.symm (yM_s (h := h) (i := 1) rfl)) (Eq.trans (congrFun (congrFun (rfl : yM h = yM h) 37) 1) rfl))
    refine zwW_ret (nx := 66) (a := 0) (b := 0) (by decide +kernel) rfl (Or.inl rfl) ?_
    exact ⟨rfl, by omega, by unfold yCntA; (repeat' (first | rw [if_pos (by omega)] | rw [if_neg (by omega)])); all_goals (first | rfl | omega)⟩
  refine ⟨fun c5 => ?_, fun c5 => ?_⟩
  · show zwW _ _ _ 66 _ _ _ _
    refine zwW_p [(1, 0, 2)] (q := 67) (ls' := [(2, 37), (0, a)]) (st' := [(2, 37)]) (by decide +kernel) rfl ?_
    refine zwW_gs I (kd := 13) (bn := 2) (n := 97) (t := 0) (lo := 0) (hi := 20) (nx := 70) (by decide +kernel) ?_
    intro v6 ev6 lv6 uv6
    have sv6 : v6 = (yM h) 37 2 := Eq.trans ev6 (Eq.trans (Eq.symm (yM_s (h := h) (i := 2) rfl)) (Eq.trans (congrFun (congrFun (rfl : yM h = yM h) 37) 2) rfl))
    refine zwW_ret (nx := 71) (a := 0) (b := 0) (by decide +kernel) rfl (Or.inl rfl) ?_
    exact ⟨rfl, by omega, by unfold yCntA; (repeat' (first | rw [if_pos (by omega)] | rw [if_neg (by omega)])); all_goals (first | rfl | omega)⟩
  refine ⟨fun c7 => ?_, fun c7 => ?_⟩
  · show zwW _ _ _ 71 _ _ _ _
    refine zwW_p [(1, 0, 2)] (q := 72) (ls' := [(2, 37), (0, a)]) (st' := [(2, 37)]) (by decide +kernel) rfl ?_
    refine zwW_gs I (kd := 13) (bn := 64) (n := 97) (t := 0) (lo := 0) (hi := 300) (nx := 75) (by decide +kernel) ?_
    intro v8 ev8 lv8 uv8
    have sv8 : v8 = (yM h) 37 64 := Eq.trans ev8 (Eq.trans (Eq.symm (yM_s (h := h) (i := 64) rfl)) (Eq.trans (congrFun (congrFun (rfl : yM h = yM h) 37) 64) rfl))
    refine zwW_ret (nx := 76) (a := 0) (b := 0) (by decide +kernel) rfl (Or.inl rfl) ?_
    exact ⟨rfl, by omega, by unfold yCntA; (repeat' (first | rw [if_pos (by omega)] | rw [if_neg (by omega)])); all_goals (first | rfl | omega)⟩
  refine ⟨fun c9 => ?_, fun c9 => ?_⟩
  · show zwW _ _ _ 76 _ _ _ _
    refine zwW_p [(1, 0, 2)] (q := 77) (ls' := [(2, 37), (0, a)]) (st' := [(2, 37)]) (by decide +kernel) rfl ?_
    refine zwW_gs I (kd := 13) (bn := 52) (n := 97) (t := 0) (lo := 0) (hi := 8) (nx := 80) (by decide +kernel) ?_
    intro v10 ev10 lv10 uv10
    have sv10 : v10 = (yM h) 37 52 := Eq.trans ev10 (Eq.trans (Eq.symm (yM_s (h := h) (i := 52) rfl)) (Eq.trans (congrFun (congrFun (rfl : yM h = yM h) 37) 52) rfl))
    refine zwW_ret (nx := 81) (a := 0) (b := 0) (by decide +kernel) rfl (Or.inl rfl) ?_
    exact ⟨rfl, by omega, by unfold yCntA; (repeat' (first | rw [if_pos (by omega)] | rw [if_neg (by omega)])); all_goals (first | rfl | omega)⟩
  refine ⟨fun c11 => ?_, fun c11 => ?_⟩
  · show zwW _ _ _ 81 _ _ _ _
    refine zwW_p [(1, 0, 2)] (q := 82) (ls' := [(2, 37), (0, a)]) (st' := [(2, 37)]) (by decide +kernel) rfl ?_
    refine zwW_gs I (kd := 13) (bn := 78) (n := 97) (t := 0) (lo := 0) (hi := 200) (nx := 85) (by decide +kernel) ?_
    intro v12 ev12 lv12 uv12
    have sv12 : v12 = (yM h) 37 78 := Eq.trans ev12 (Eq.trans (Eq.symm (yM_s (h := h) (i := 78) rfl)) (Eq.trans (congrFun (congrFun (rfl : yM h = yM h) 37) 78) rfl))
    refine zwW_ret (nx := 86) (a := 0) (b := 0) (by decide +kernel) rfl (Or.inl rfl) ?_
    exact ⟨rfl, by omega, by unfold yCntA; (repeat' (first | rw [if_pos (by omega)] | rw [if_neg (by omega)])); all_goals (first | rfl | omega)⟩
  refine ⟨fun c13 => ?_, fun c13 => ?_⟩
  · show zwW _ _ _ 86 _ _ _ _
    refine zwW_p [(1, 0, 2)] (q := 87) (ls' := [(2, 37), (0, a)]) (st' := [(2, 37)]) (by decide +kernel) rfl ?_
    refine zwW_gs I (kd := 13) (bn := 41) (n := 97) (t := 0) (lo := 0) (hi := 400) (nx := 90) (by decide +kernel) ?_
    intro v14 ev14 lv14 uv14
    have sv14 : v14 = (yM h) 37 41 := Eq.trans ev14 (Eq.trans (Eq.symm (yM_s (h := h) (i := 41) rfl)) (Eq.trans (congrFun (congrFun (rfl : yM h = yM h) 37) 41) rfl))
    refine zwW_ret (nx := 91) (a := 0) (b := 0) (by decide +kernel) rfl (Or.inl rfl) ?_
    exact ⟨rfl, by omega, by unfold yCntA; (repeat' (first | rw [if_pos (by omega)] | rw [if_neg (by omega)])); all_goals (first | rfl | omega)⟩
  refine ⟨fun c15 => ?_, fun c15 => ?_⟩
  · show zwW _ _ _ 91 _ _ _ _
    refine zwW_p [(1, 0, 2)] (q := 92) (ls' := [(2, 37), (0, a)]) (st' := [(2, 37)]) (by decide +kernel) rfl ?_
    refine zwW_gs I (kd := 13) (bn := 86) (n := 97) (t := 0) (lo := 0) (hi := 6) (nx := 95) (by decide +kernel) ?_
    intro v16 ev16 lv16 uv16
    have sv16 : v16 = (yM h) 37 86 := Eq.trans ev16 (Eq.trans (Eq.symm (yM_s (h := h) (i := 86) rfl)) (Eq.trans (congrFun (congrFun (rfl : yM h = yM h) 37) 86) rfl))
    refine zwW_ret (nx := 96) (a := 0) (b := 0) (by decide +kernel) rfl (Or.inl rfl) ?_
    exact ⟨rfl, by omega, by unfold yCntA; (repeat' (first | rw [if_pos (by omega)] | rw [if_neg (by omega)])); all_goals (first | rfl | omega)⟩
  refine ⟨fun c17 => ?_, fun c17 => ?_⟩
  · show zwW _ _ _ 96 _ _ _ _
    refine zwW_p [(1, 0, 2)] (q := 97) (ls' := [(2, 37), (0, a)]) (st' := [(2, 37)]) (by decide +kernel) rfl ?_
    refine zwW_gs I (kd := 13) (bn := 96) (n := 97) (t := 0) (lo := 0) (hi := 8) (nx := 100) (by decide +kernel) ?_
    intro v18 ev18 lv18 uv18
    have sv18 : v18 = (yM h) 37 96 := Eq.trans ev18 (Eq.trans (Eq.symm (yM_s (h := h) (i := 96) rfl)) (Eq.trans (congrFun (congrFun (rfl : yM h = yM h) 37) 96) rfl))
    refine zwW_ret (nx := 101) (a := 0) (b := 0) (by decide +kernel) rfl (Or.inl rfl) ?_
    exact ⟨rfl, by omega, by unfold yCntA; (repeat' (first | rw [if_pos (by omega)] | rw [if_neg (by omega)])); all_goals (first | rfl | omega)⟩
  refine ⟨fun c19 => ?_, fun c19 => ?_⟩
  · show zwW _ _ _ 101 _ _ _ _
    refine zwW_p [(1, 0, 2)] (q := 102) (ls' := [(2, 37), (0, a)]) (st' := [(2, 37)]) (by decide +kernel) rfl ?_
    refine zwW_gs I (kd := 13) (bn := 38) (n := 97) (t := 0) (lo := -2147483648) (hi := 2147483647) (nx := 105) (by decide +kernel) ?_
    intro v20 ev20 lv20 uv20
    have sv20 : v20 = (yM h) 37 38 := Eq.trans ev20 (Eq.trans (Eq.symm (yM_s (h := h) (i := 38) rfl)) (Eq.trans (congrFun (congrFun (rfl : yM h = yM h) 37) 38) rfl))
    refine zwW_ret (nx := 106) (a := 0) (b := 0) (by decide +kernel) rfl (Or.inl rfl) ?_
    exact ⟨rfl, by omega, by unfold yCntA; (repeat' (first | rw [if_pos (by omega)] | rw [if_neg (by omega)])); all_goals (first | rfl | omega)⟩
  show zwW _ _ _ 106 _ _ _ _
  refine zwW_p [(0, -1, 0)] (q := 107) (ls' := [(2, 37), (0, a)]) (st' := [(0, -1)]) (by decide +kernel) rfl ?_
  refine zwW_ret (nx := 108) (a := 0) (b := 0) (by decide +kernel) rfl (Or.inl rfl) ?_
  exact ⟨rfl, by omega, by unfold yCntA; (repeat' (first | rw [if_neg (by omega)] | rw [if_pos (by omega)])); all_goals (first | rfl | omega)⟩
-- WheelLandModel.told(II)I
theorem m80_z {sc : List Int} (h : Hp) (I : zI h) (a b : Int) : zwC sc 2 80 [(2, 37), (0, a), (0, b)] h (zwRt 0 (fun x g => h = g ∧ (-2147483648 ≤ x ∧ x ≤ 2147483647) ∧ (x = yToldA (yM h) a b))) := by
  refine zwC_of (D := 1) 3 (by decide +kernel) rfl (ls := [(2, 37), (0, a), (0, b)]) rfl ?_
  have u0 : yM h 37 0 = fld h 37 0 := rfl
  have u1 : yM h 37 1 = fld h 37 1 := rfl
  have u2 : yM h 37 2 = fld h 37 2 := rfl
  have u64 : yM h 37 64 = fld h 37 64 := rfl
  have u78 : yM h 37 78 = fld h 37 78 := rfl
  refine zwW_p [(1, 1, 0), (7, 0, 0), (0, 0, 1), (1, 0, 2)] (q := 4) (ls' := [(2, 37), (0, a), (0, b)]) (st' := [(2, 37), (1, 0), (1, a)]) (by decide +kernel) rfl ?_
  refine zwW_gs I (kd := 13) (bn := 0) (n := 97) (t := 0) (lo := 0) (hi := 156) (nx := 7) (by decide +kernel) ?_
  intro v1 ev1 lv1 uv1
  have sv1 : v1 = (yM h) 37 0 := Eq.trans ev1 (Eq.trans (Eq.symm (yM_s (h := h) (i := 0) rfl)) (Eq.trans (congrFun (congrFun (rfl : yM h = yM h) 37) 0) rfl))
  refine zwW_p [(0, 1, 0)] (q := 8) (ls' := [(2, 37), (0, a), (0, b)]) (st' := [(0, 1), (0, v1), (1, 0), (1, a)]) (by decide +kernel) rfl ?_
  refine zwW_sub (nx := 9) (by decide +kernel) (by first | omega | exact ⟨by omega, by omega⟩) ?_
  refine zwW_p [(7, 0, 0)] (q := 10) (ls' := [(2, 37), (0, a), (0, b)]) (st' := [(1, (v1 - 1)), (1, 0), (1, a)]) (by decide +kernel) rfl ?_
  refine zwW_cs (k' := 101) (n := 3) (nx := 13) (as := [(1, a), (1, 0), (1, (v1 - 1))]) (st' := []) (by decide +kernel) rfl (m101 h a 0 (v1 - 1)) rfl ?_
  rintro x _ ⟨rfl, ⟨rfl, c2⟩ | ⟨rfl, c2⟩⟩
  · refine zwif_eq (q := 39) (nx := 16) (by decide +kernel) (fun c3 => ?_) (fun c3 => ?_)
    · exfalso; omega
    · refine zwW_p [(1, 2, 0), (7, 0, 0), (0, 0, 1), (0, 5, 1)] (q := 22) (ls' := [(2, 37), (0, a), (0, b)]) (st' := [(1, 5), (1, 0), (1, b)]) (by decide +kernel) rfl ?_
      refine zwW_cs (k' := 101) (n := 3) (nx := 25) (as := [(1, b), (1, 0), (1, 5)]) (st' := []) (by decide +kernel) rfl (m101 h b 0 5) rfl ?_
      rintro x _ ⟨rfl, ⟨rfl, c4⟩ | ⟨rfl, c4⟩⟩
      · refine zwif_eq (q := 39) (nx := 28) (by decide +kernel) (fun c5 => ?_) (fun c5 => ?_)
        · exfalso; omega
        · refine zwW_p [(1, 0, 2)] (q := 29) (ls' := [(2, 37), (0, a), (0, b)]) (st' := [(2, 37)]) (by decide +kernel) rfl ?_
          refine zwW_gc I (kd := 13) (bn := 91) (n := 97) (c := 205) (nx := 32) (by decide +kernel) ?_
          refine zwW_p [(1, 1, 0)] (q := 33) (ls' := [(2, 37), (0, a), (0, b)]) (st' := [(0, a), (2, 205)]) (by decide +kernel) rfl ?_
          refine zwW_ro I (a := 205) (n := 156) (kd := 26) (base := 206) (step := 1) (nx := 34) (by decide +kernel) rfl (by first | omega | exact ⟨by omega, by omega⟩) ?_
          rw [show ((206 : Nat) : Int) + ((1 : Nat) : Int) * a = (206 + a) by omega]
          refine zwW_p [(1, 2, 0)] (q := 35) (ls' := [(2, 37), (0, a), (0, b)]) (st' := [(0, b), (2, (206 + a))]) (by decide +kernel) rfl ?_
          have ib1 : 0 ≤ b ∧ b < ((6 : Nat) : Int) := (by first | omega | exact ⟨by omega, by omega⟩)
          refine zwW_al I (a1 := 206) (a2 := 361) (kd := 20) (n := 6) (t := 0) (lo := -2147483648) (hi := 2147483647) (nx := 36) (by decide +kernel) (by first | omega | exact ⟨by omega, by omega⟩) ib1 ?_
          intro v6 ev6 lv6 uv6
          have sv6 : v6 = (yM h) 206 (6 * a.toNat + b.toNat) := Eq.trans (show v6 = yM h 206 (6 * a.toNat + b.toNat) by rw [yM_2 (a := 206) (w := 6) (v := a.toNat) (j := b.toNat) rfl (by omega) (by show _ < 936; omega), ev6]; congr 1; omega) (Eq.trans (congrFun (congrFun (rfl : yM h = yM h) 206) (6 * a.toNat + b.toNat)) rfl)
          refine zwW_p [(24, 40, 0)] (q := 40) (ls' := [(2, 37), (0, a), (0, b)]) (st' := [(0, v6)]) (by decide +kernel) rfl ?_
          refine zwW_ret (nx := 41) (a := 0) (b := 0) (by decide +kernel) rfl (Or.inl rfl) ?_
          exact ⟨rfl, by omega, by unfold yToldA; (repeat' (first | rw [if_pos (by omega)] | rw [if_neg (by omega)])); all_goals (first | rfl | omega)⟩
      · refine zwif_eq (q := 39) (nx := 28) (by decide +kernel) (fun c7 => ?_) (fun c7 => ?_)
        · refine zwW_p [(0, -1, 0)] (q := 40) (ls' := [(2, 37), (0, a), (0, b)]) (st' := [(0, -1)]) (by decide +kernel) rfl ?_
          refine zwW_ret (nx := 41) (a := 0) (b := 0) (by decide +kernel) rfl (Or.inl rfl) ?_
          exact ⟨rfl, by omega, by unfold yToldA; (repeat' (first | rw [if_neg (by omega)] | rw [if_pos (by omega)])); all_goals (first | rfl | omega)⟩
        · exfalso; omega
  · refine zwif_eq (q := 39) (nx := 16) (by decide +kernel) (fun c8 => ?_) (fun c8 => ?_)
    · refine zwW_p [(0, -1, 0)] (q := 40) (ls' := [(2, 37), (0, a), (0, b)]) (st' := [(0, -1)]) (by decide +kernel) rfl ?_
      refine zwW_ret (nx := 41) (a := 0) (b := 0) (by decide +kernel) rfl (Or.inl rfl) ?_
      exact ⟨rfl, by omega, by unfold yToldA; (repeat' (first | rw [if_neg (by omega)] | rw [if_pos (by omega)])); all_goals (first | rfl | omega)⟩
    · exfalso; omega
-- WheelLandModel.falseOf(IZ)I
theorem m160_z {sc : List Int} (h : Hp) (I : zI h) (a b : Int) (p1 : 0 ≤ a) (p2 : a ≤ 7) : zwC sc 2 160 [(2, 37), (0, a), (0, b)] h (zwRt 0 (fun x g => h = g ∧ (-2147483648 ≤ x ∧ x ≤ 2147483647) ∧ (x = yFls (yM h) a.toNat b))) := by
  refine zwC_of (D := 1) 3 (by decide +kernel) rfl (ls := [(2, 37), (0, a), (0, b)]) rfl ?_
  have u0 : yM h 37 0 = fld h 37 0 := rfl
  have u1 : yM h 37 1 = fld h 37 1 := rfl
  have u2 : yM h 37 2 = fld h 37 2 := rfl
  have u64 : yM h 37 64 = fld h 37 64 := rfl
  have u78 : yM h 37 78 = fld h 37 78 := rfl
  refine zwW_p [(1, 0, 2)] (q := 1) (ls' := [(2, 37), (0, a), (0, b)]) (st' := [(2, 37)]) (by decide +kernel) rfl ?_
  refine zwW_gc I (kd := 13) (bn := 15) (n := 97) (c := 74) (nx := 4) (by decide +kernel) ?_
  refine zwW_p [(1, 1, 0)] (q := 5) (ls' := [(2, 37), (0, a), (0, b)]) (st' := [(0, a), (2, 74)]) (by decide +kernel) rfl ?_
  have ib1 : 0 ≤ a ∧ a < ((8 : Nat) : Int) := (by first | omega | exact ⟨by omega, by omega⟩)
  refine zwW_al I (a1 := 74) (a2 := 74) (kd := 20) (n := 8) (t := 0) (lo := 0) (hi := 9999) (nx := 6) (by decide +kernel) (by first | decide | exact ⟨by decide, by decide⟩) ib1 ?_
  intro v1 ev1 lv1 uv1
  have sv1 : v1 = (yM h) 74 a.toNat := Eq.trans ev1 (Eq.trans (Eq.symm (yM_p (h := h) (a := 74) (n := 8) (i := a.toNat) rfl (zit ib1))) (Eq.trans (congrFun (congrFun (rfl : yM h = yM h) 74) a.toNat) rfl))
  refine zwW_p [(1, 2, 0)] (q := 7) (ls' := [(2, 37), (0, a), (0, b)]) (st' := [(0, b), (0, v1)]) (by decide +kernel) rfl ?_
  refine zwif_eq (q := 19) (nx := 10) (by decide +kernel) (fun c2 => ?_) (fun c2 => ?_)
  · refine zwW_p [(1, 0, 2)] (q := 20) (ls' := [(2, 37), (0, a), (0, b)]) (st' := [(2, 37), (0, v1)]) (by decide +kernel) rfl ?_
    refine zwW_gc I (kd := 13) (bn := 16) (n := 97) (c := 75) (nx := 23) (by decide +kernel) ?_
    refine zwW_p [(1, 1, 0)] (q := 24) (ls' := [(2, 37), (0, a), (0, b)]) (st' := [(0, a), (2, 75), (0, v1)]) (by decide +kernel) rfl ?_
    refine zwW_al I (a1 := 75) (a2 := 75) (kd := 20) (n := 8) (t := 0) (lo := -2147483648) (hi := 2147483647) (nx := 25) (by decide +kernel) (by first | decide | exact ⟨by decide, by decide⟩) ib1 ?_
    intro v3 ev3 lv3 uv3
    have sv3 : v3 = (yM h) 75 a.toNat := Eq.trans ev3 (Eq.trans (Eq.symm (yM_p (h := h) (a := 75) (n := 8) (i := a.toNat) rfl (zit ib1))) (Eq.trans (congrFun (congrFun (rfl : yM h = yM h) 75) a.toNat) rfl))
    refine zwW_sbw (nx := 26) (by decide +kernel) ?_
    intro v4 ev4 lv4 uv4
    have Ev4 : v4 = w32 (((yM h) 74 a.toNat) - ((yM h) 75 a.toNat)) := by rw [ev4, sv1, sv3]
    refine zwW_cs (k' := 129) (n := 1) (nx := 29) (as := [(0, v4)]) (st' := []) (by decide +kernel) rfl (m129 h v4 (by omega)) rfl ?_
    rintro v5 _ ⟨rfl, f6, f7, f8⟩
    refine zwW_ret (nx := 30) (a := 0) (b := 0) (by decide +kernel) rfl (Or.inl rfl) ?_
    exact ⟨rfl, by omega, by unfold yFls; (repeat' (first | rw [if_pos (by omega)] | rw [if_neg (by omega)])); all_goals (first | rfl | omega)⟩
  · refine zwW_p [(1, 0, 2)] (q := 11) (ls' := [(2, 37), (0, a), (0, b)]) (st' := [(2, 37), (0, v1)]) (by decide +kernel) rfl ?_
    refine zwW_gc I (kd := 13) (bn := 17) (n := 97) (c := 76) (nx := 14) (by decide +kernel) ?_
    refine zwW_p [(1, 1, 0)] (q := 15) (ls' := [(2, 37), (0, a), (0, b)]) (st' := [(0, a), (2, 76), (0, v1)]) (by decide +kernel) rfl ?_
    refine zwW_al I (a1 := 76) (a2 := 76) (kd := 20) (n := 8) (t := 0) (lo := -2147483648) (hi := 2147483647) (nx := 16) (by decide +kernel) (by first | decide | exact ⟨by decide, by decide⟩) ib1 ?_
    intro v9 ev9 lv9 uv9
    have sv9 : v9 = (yM h) 76 a.toNat := Eq.trans ev9 (Eq.trans (Eq.symm (yM_p (h := h) (a := 76) (n := 8) (i := a.toNat) rfl (zit ib1))) (Eq.trans (congrFun (congrFun (rfl : yM h = yM h) 76) a.toNat) rfl))
    refine zwW_p [(24, 25, 0)] (q := 25) (ls' := [(2, 37), (0, a), (0, b)]) (st' := [(0, v9), (0, v1)]) (by decide +kernel) rfl ?_
    refine zwW_sbw (nx := 26) (by decide +kernel) ?_
    intro v10 ev10 lv10 uv10
    have Ev10 : v10 = w32 (((yM h) 74 a.toNat) - ((yM h) 76 a.toNat)) := by rw [ev10, sv1, sv9]
    refine zwW_cs (k' := 129) (n := 1) (nx := 29) (as := [(0, v10)]) (st' := []) (by decide +kernel) rfl (m129 h v10 (by omega)) rfl ?_
    rintro v11 _ ⟨rfl, f12, f13, f14⟩
    refine zwW_ret (nx := 30) (a := 0) (b := 0) (by decide +kernel) rfl (Or.inl rfl) ?_
    exact ⟨rfl, by omega, by unfold yFls; (repeat' (first | rw [if_pos (by omega)] | rw [if_neg (by omega)])); all_goals (first | rfl | omega)⟩
-- WheelLandModel.wrong(IZ)I
theorem m66_z {sc : List Int} (h : Hp) (I : zI h) (a b : Int) : zwC sc 3 66 [(2, 37), (0, a), (0, b)] h (zwRt 0 (fun x g => h = g ∧ (-2147483648 ≤ x ∧ x ≤ 2147483647) ∧ (x = yWrngA (yM h) a b))) := by
  refine zwC_of (D := 2) 3 (by decide +kernel) rfl (ls := [(2, 37), (0, a), (0, b)]) rfl ?_
  have u0 : yM h 37 0 = fld h 37 0 := rfl
  have u1 : yM h 37 1 = fld h 37 1 := rfl
  have u2 : yM h 37 2 = fld h 37 2 := rfl
  have u64 : yM h 37 64 = fld h 37 64 := rfl
  have u78 : yM h 37 78 = fld h 37 78 := rfl
  refine zwW_p [(1, 0, 2), (1, 1, 0)] (q := 2) (ls' := [(2, 37), (0, a), (0, b)]) (st' := [(0, a), (2, 37)]) (by decide +kernel) rfl ?_
  refine zwW_cm I (op := 60) (k' := 104) (n := 1) (kd := 13) (m := 97) (nx := 5) (r := 37) (tl := [(0, a)]) (st' := []) (by decide +kernel) rfl (by decide +kernel) rfl (m104 h I a) ?_
  rintro x _ ⟨rfl, ⟨rfl, c1⟩ | ⟨rfl, c1⟩⟩
  · refine zwif_eq (q := 17) (nx := 8) (by decide +kernel) (fun c2 => ?_) (fun c2 => ?_)
    · exfalso; omega
    · refine zwW_p [(1, 0, 2), (1, 1, 0), (1, 2, 0)] (q := 11) (ls' := [(2, 37), (0, a), (0, b)]) (st' := [(0, b), (0, a), (2, 37)]) (by decide +kernel) rfl ?_
      refine zwW_cm I (op := 60) (k' := 160) (n := 2) (kd := 13) (m := 97) (nx := 14) (r := 37) (tl := [(0, a), (0, b)]) (st' := []) (by decide +kernel) rfl (by decide +kernel) rfl (m160_z h I a b (by omega) (by omega)) ?_
      rintro v3 _ ⟨rfl, f4, f5⟩
      have sv3 : v3 = yFls (yM h) a.toNat b := by rw [f5]
      refine zwW_p [(24, 18, 0)] (q := 18) (ls' := [(2, 37), (0, a), (0, b)]) (st' := [(0, v3)]) (by decide +kernel) rfl ?_
      refine zwW_ret (nx := 19) (a := 0) (b := 0) (by decide +kernel) rfl (Or.inl rfl) ?_
      exact ⟨rfl, by omega, by unfold yWrngA; (repeat' (first | rw [if_pos (by omega)] | rw [if_neg (by omega)])); all_goals (first | rfl | omega)⟩
  · refine zwif_eq (q := 17) (nx := 8) (by decide +kernel) (fun c6 => ?_) (fun c6 => ?_)
    · refine zwW_p [(0, -1, 0)] (q := 18) (ls' := [(2, 37), (0, a), (0, b)]) (st' := [(0, -1)]) (by decide +kernel) rfl ?_
      refine zwW_ret (nx := 19) (a := 0) (b := 0) (by decide +kernel) rfl (Or.inl rfl) ?_
      exact ⟨rfl, by omega, by unfold yWrngA; (repeat' (first | rw [if_neg (by omega)] | rw [if_pos (by omega)])); all_goals (first | rfl | omega)⟩
    · exfalso; omega
-- WheelLandModel.look()I
theorem m68_z {sc : List Int} (h : Hp) (I : zI h) : zwC sc 3 68 [(2, 37)] h (zwRt 0 (fun x g => h = g ∧ (-2147483648 ≤ x ∧ x ≤ 2147483647) ∧ (x = yLookA (yM h)))) := by
  refine zwC_of (D := 2) 5 (by decide +kernel) rfl (ls := [(2, 37), (9, 0), (9, 0), (9, 0), (9, 0)]) rfl ?_
  have u0 : yM h 37 0 = fld h 37 0 := rfl
  have u1 : yM h 37 1 = fld h 37 1 := rfl
  have u2 : yM h 37 2 = fld h 37 2 := rfl
  have u64 : yM h 37 64 = fld h 37 64 := rfl
  have u78 : yM h 37 78 = fld h 37 78 := rfl
  have N1 := I.b (a1 := 37) (a2 := 37) (j1 := 1) (j2 := 2) (lo := 0) (hi := 8) (by decide +kernel) (r := 37) (j := 1) (by decide) (by decide) (by decide) (by decide)
  refine zwW_p [(0, -1, 0), (2, 1, 0), (0, 0, 0), (2, 2, 0), (0, 0, 0), (2, 3, 0)] (q := 6) (ls' := [(2, 37), (0, -1), (0, 0), (0, 0), (9, 0)]) (st' := []) (by decide +kernel) rfl ?_
  have L1 : ∀ (n0 : Nat) (zL1 mL1 vL1 : Int) (w4L1 : Vl), n0 = ((100 - vL1)).toNat → (0 ≤ vL1 ∧ vL1 ≤ fld h 37 1) → (-1 ≤ zL1 ∧ zL1 ≤ 8) → (zL1 = (yLk (yM h) (vL1).toNat).1) → (mL1 = (yLk (yM h) (vL1).toNat).2) → zwW sc (2) 68 6 [(2, 37), (0, zL1), (0, mL1), (0, vL1), w4L1] [] h (zwRt 0 (fun x g => h = g ∧ (-2147483648 ≤ x ∧ x ≤ 2147483647) ∧ (x = yLookA (yM h)))) := by
    intro n0
    induction n0 using Nat.strongRecOn with
    | ind n0 IHL1 =>
      intro zL1 mL1 vL1 w4L1 hnL1 iL1_0 iL1_1 iL1_2 iL1_3
      refine zwW_p [(1, 3, 0), (1, 0, 2)] (q := 8) (ls' := [(2, 37), (0, zL1), (0, mL1), (0, vL1), w4L1]) (st' := [(2, 37), (0, vL1)]) (by decide +kernel) rfl ?_
      refine zwW_gs I (kd := 13) (bn := 1) (n := 97) (t := 0) (lo := 0) (hi := 8) (nx := 11) (by decide +kernel) ?_
      intro v2 ev2 lv2 uv2
      have sv2 : v2 = (yM h) 37 1 := Eq.trans ev2 (Eq.trans (Eq.symm (yM_s (h := h) (i := 1) rfl)) (Eq.trans (congrFun (congrFun (rfl : yM h = yM h) 37) 1) rfl))
      refine zwic_ge (q := 49) (nx := 14) (by decide +kernel) (fun c3 => ?_) (fun c3 => ?_)
      · refine zwW_p [(1, 1, 0)] (q := 50) (ls' := [(2, 37), (0, zL1), (0, mL1), (0, vL1), w4L1]) (st' := [(0, zL1)]) (by decide +kernel) rfl ?_
        refine zwW_ret (nx := 51) (a := 0) (b := 0) (by decide +kernel) rfl (Or.inl rfl) ?_
        exact ⟨rfl, by omega, by unfold yLookA; rw [show (yM h 37 1).toNat = (vL1).toNat by omega]; exact iL1_2⟩
      · refine zwW_p [(1, 0, 2), (1, 3, 0), (0, 1, 0)] (q := 17) (ls' := [(2, 37), (0, zL1), (0, mL1), (0, vL1), w4L1]) (st' := [(0, 1), (0, vL1), (2, 37)]) (by decide +kernel) rfl ?_
        refine zwW_cm I (op := 60) (k' := 160) (n := 2) (kd := 13) (m := 97) (nx := 20) (r := 37) (tl := [(0, vL1), (0, 1)]) (st' := []) (by decide +kernel) rfl (by decide +kernel) rfl (m160_z h I vL1 1 (by omega) (by omega)) ?_
        rintro v4 _ ⟨rfl, f5, f6⟩
        have sv4 : v4 = yFls (yM h) vL1.toNat 1 := by rw [f6]
        refine zwW_p [(1, 0, 2), (1, 3, 0), (0, 0, 0)] (q := 23) (ls' := [(2, 37), (0, zL1), (0, mL1), (0, vL1), w4L1]) (st' := [(0, 0), (0, vL1), (2, 37), (0, v4)]) (by decide +kernel) rfl ?_
        refine zwW_cm I (op := 60) (k' := 160) (n := 2) (kd := 13) (m := 97) (nx := 26) (r := 37) (tl := [(0, vL1), (0, 0)]) (st' := [(0, v4)]) (by decide +kernel) rfl (by decide +kernel) rfl (m160_z h I vL1 0 (by omega) (by omega)) ?_
        rintro v7 _ ⟨rfl, f8, f9⟩
        have sv7 : v7 = yFls (yM h) vL1.toNat 0 := by rw [f9]
        refine zwW_sbw (nx := 27) (by decide +kernel) ?_
        intro v10 ev10 lv10 uv10
        have Ev10 : v10 = w32 ((yFls (yM h) vL1.toNat 1) - (yFls (yM h) vL1.toNat 0)) := by rw [ev10, sv4, sv7]
        refine zwW_p [(2, 4, 0), (1, 4, 0), (1, 2, 0)] (q := 32) (ls' := [(2, 37), (0, zL1), (0, mL1), (0, vL1), (0, v10)]) (st' := [(0, mL1), (0, v10)]) (by decide +kernel) rfl ?_
        refine zwic_gt (q := 38) (nx := 35) (by decide +kernel) (fun c11 => ?_) (fun c11 => ?_)
        · refine zwW_p [(1, 4, 0), (2, 2, 0), (1, 3, 0), (2, 1, 0)] (q := 43) (ls' := [(2, 37), (0, vL1), (0, v10), (0, vL1), (0, v10)]) (st' := []) (by decide +kernel) rfl ?_
          refine zwW_inc (i := 3) (c := 1) (x := vL1) (nx := 46) (by decide +kernel) rfl (by first | omega | exact ⟨by omega, by omega⟩) (ls' := [(2, 37), (0, vL1), (0, v10), (0, (vL1 + 1)), (0, v10)]) rfl ?_
          refine zwW_p [(24, 6, 0)] (q := 6) (ls' := [(2, 37), (0, vL1), (0, v10), (0, (vL1 + 1)), (0, v10)]) (st' := []) (by decide +kernel) rfl ?_
          exact IHL1 ((100 - (vL1 + 1))).toNat (by omega) vL1 v10 (vL1 + 1) (0, v10) rfl (by omega) (by omega) (by rw [show (vL1 + 1).toNat = (vL1).toNat + 1 by omega]; unfold yLk; first | (rw [if_pos (by unfold yGap; omega)]; show _ = (((vL1).toNat : Nat) : Int); omega) | (rw [if_neg (by unfold yGap; omega)]; exact iL1_2)) (by rw [show (vL1 + 1).toNat = (vL1).toNat + 1 by omega]; unfold yLk; first | (rw [if_pos (by unfold yGap; omega)]; show _ = yGap _ _; unfold yGap; omega) | (rw [if_neg (by unfold yGap; omega)]; exact iL1_3))
        · refine zwW_p [(24, 43, 0)] (q := 43) (ls' := [(2, 37), (0, zL1), (0, mL1), (0, vL1), (0, v10)]) (st' := []) (by decide +kernel) rfl ?_
          refine zwW_inc (i := 3) (c := 1) (x := vL1) (nx := 46) (by decide +kernel) rfl (by first | omega | exact ⟨by omega, by omega⟩) (ls' := [(2, 37), (0, zL1), (0, mL1), (0, (vL1 + 1)), (0, v10)]) rfl ?_
          refine zwW_p [(24, 6, 0)] (q := 6) (ls' := [(2, 37), (0, zL1), (0, mL1), (0, (vL1 + 1)), (0, v10)]) (st' := []) (by decide +kernel) rfl ?_
          exact IHL1 ((100 - (vL1 + 1))).toNat (by omega) zL1 mL1 (vL1 + 1) (0, v10) rfl (by omega) (by omega) (by rw [show (vL1 + 1).toNat = (vL1).toNat + 1 by omega]; unfold yLk; first | (rw [if_pos (by unfold yGap; omega)]; show _ = (((vL1).toNat : Nat) : Int); omega) | (rw [if_neg (by unfold yGap; omega)]; exact iL1_2)) (by rw [show (vL1 + 1).toNat = (vL1).toNat + 1 by omega]; unfold yLk; first | (rw [if_pos (by unfold yGap; omega)]; show _ = yGap _ _; unfold yGap; omega) | (rw [if_neg (by unfold yGap; omega)]; exact iL1_3))
  exact L1 _ (-1) 0 0 (9, 0) rfl (by omega) (by omega) (rfl) (rfl)
-- WheelLandModel.loom(III)Z
theorem m12_z {sc : List Int} (h : Hp) (I : zI h) (a b c : Int) (q_b : -2147483648 ≤ b ∧ b ≤ 2147483647) : zwC sc 3 12 [(2, 37), (0, a), (0, b), (0, c)] h (zwRt 0 (fun x g => zI g ∧ zMR ms12 h g ∧ (-2147483648 ≤ x ∧ x ≤ 2147483647) ∧ (x = yLoomA (yM h) a b c) ∧ (yM g = yLoom (yM h) a b c))) := by
  refine zwC_of (D := 2) 4 (by decide +kernel) rfl (ls := [(2, 37), (0, a), (0, b), (0, c)]) rfl ?_
  have R : zMR ms12 h h := zMR.rf _ _
  have u0 : yM h 37 0 = fld h 37 0 := rfl
  have u1 : yM h 37 1 = fld h 37 1 := rfl
  have u2 : yM h 37 2 = fld h 37 2 := rfl
  have u64 : yM h 37 64 = fld h 37 64 := rfl
  have u78 : yM h 37 78 = fld h 37 78 := rfl
  refine zwW_p [(1, 0, 2), (1, 1, 0)] (q := 2) (ls' := [(2, 37), (0, a), (0, b), (0, c)]) (st' := [(0, a), (2, 37)]) (by decide +kernel) rfl ?_
  refine zwW_cm I (op := 60) (k' := 111) (n := 1) (kd := 13) (m := 97) (nx := 5) (r := 37) (tl := [(0, a)]) (st' := []) (by decide +kernel) rfl (by decide +kernel) rfl (m111 h I a) ?_
  rintro x _ ⟨rfl, ⟨rfl, c1⟩ | ⟨rfl, c1⟩⟩
  · refine zwif_eq (q := 68) (nx := 8) (by decide +kernel) (fun c2 => ?_) (fun c2 => ?_)
    · exfalso; omega
    · refine zwW_p [(1, 0, 2), (1, 1, 0)] (q := 10) (ls' := [(2, 37), (0, a), (0, b), (0, c)]) (st' := [(0, a), (2, 37)]) (by decide +kernel) rfl ?_
      refine zwW_cm I (op := 60) (k' := 112) (n := 1) (kd := 13) (m := 97) (nx := 13) (r := 37) (tl := [(0, a)]) (st' := []) (by decide +kernel) rfl (by decide +kernel) rfl (m112 h I a (by omega) (by omega)) ?_
      rintro x _ ⟨rfl, ⟨rfl, c3⟩ | ⟨rfl, c3⟩⟩
      · refine zwif_ne (q := 68) (nx := 16) (by decide +kernel) (fun c4 => ?_) (fun c4 => ?_)
        · refine zwW_p [(0, 0, 0)] (q := 69) (ls' := [(2, 37), (0, a), (0, b), (0, c)]) (st' := [(0, 0)]) (by decide +kernel) rfl ?_
          refine zwW_ret (nx := 70) (a := 1) (b := 0) (by decide +kernel) rfl (Or.inr (Or.inl ⟨rfl, Or.inl rfl⟩)) ?_
          exact ⟨I, R, by omega, by unfold yLoomA; (try rw [show yM h 91 a.toNat = fld h 91 a.toNat from yM_p (a := 91) (n := 20) rfl (by omega)]); (repeat' (first | rw [if_pos (by omega)] | rw [if_neg (by omega)])); all_goals (first | rfl | omega), by refine Eq.trans (rfl : yM h = yM h) ?_; unfold yLoom; (first | rw [show yM h 91 a.toNat = fld h 91 a.toNat from yM_p (a := 91) (n := 20) rfl (by omega)] | skip); (repeat' (first | rw [if_pos (by omega)] | rw [if_neg (by omega)])); all_goals (repeat' (first | rfl | apply zs_cg | omega))⟩
        · exfalso; omega
      · refine zwif_ne (q := 68) (nx := 16) (by decide +kernel) (fun c5 => ?_) (fun c5 => ?_)
        · exfalso; omega
        · refine zwW_p [(1, 2, 0)] (q := 17) (ls' := [(2, 37), (0, a), (0, b), (0, c)]) (st' := [(0, b)]) (by decide +kernel) rfl ?_
          refine zwif_lt (q := 68) (nx := 20) (by decide +kernel) (fun c6 => ?_) (fun c6 => ?_)
          · refine zwW_p [(0, 0, 0)] (q := 69) (ls' := [(2, 37), (0, a), (0, b), (0, c)]) (st' := [(0, 0)]) (by decide +kernel) rfl ?_
            refine zwW_ret (nx := 70) (a := 1) (b := 0) (by decide +kernel) rfl (Or.inr (Or.inl ⟨rfl, Or.inl rfl⟩)) ?_
            exact ⟨I, R, by omega, by unfold yLoomA; (try rw [show yM h 91 a.toNat = fld h 91 a.toNat from yM_p (a := 91) (n := 20) rfl (by omega)]); (repeat' (first | rw [if_pos (by omega)] | rw [if_neg (by omega)])); all_goals (first | rfl | omega), by refine Eq.trans (rfl : yM h = yM h) ?_; unfold yLoom; (first | rw [show yM h 91 a.toNat = fld h 91 a.toNat from yM_p (a := 91) (n := 20) rfl (by omega)] | skip); (repeat' (first | rw [if_pos (by omega)] | rw [if_neg (by omega)])); all_goals (repeat' (first | rfl | apply zs_cg | omega))⟩
          · refine zwW_p [(1, 2, 0), (0, 100, 0)] (q := 23) (ls' := [(2, 37), (0, a), (0, b), (0, c)]) (st' := [(0, 100), (0, b)]) (by decide +kernel) rfl ?_
            refine zwW_div (nx := 24) (by decide +kernel) (by omega) (by omega) (by omega) ?_
            refine zwW_p [(7, 0, 0), (0, 4, 1), (0, 60, 1)] (q := 31) (ls' := [(2, 37), (0, a), (0, b), (0, c)]) (st' := [(1, 60), (1, 4), (1, (b / 100))]) (by decide +kernel) rfl ?_
            refine zwW_cs (k' := 101) (n := 3) (nx := 34) (as := [(1, (b / 100)), (1, 4), (1, 60)]) (st' := []) (by decide +kernel) rfl (m101 h (b / 100) 4 60) rfl ?_
            rintro x _ ⟨rfl, ⟨rfl, c7⟩ | ⟨rfl, c7⟩⟩
            · refine zwif_eq (q := 68) (nx := 37) (by decide +kernel) (fun c8 => ?_) (fun c8 => ?_)
              · exfalso; omega
              · refine zwW_p [(1, 2, 0), (0, 100, 0)] (q := 40) (ls' := [(2, 37), (0, a), (0, b), (0, c)]) (st' := [(0, 100), (0, b)]) (by decide +kernel) rfl ?_
                refine zwW_rem (nx := 41) (by decide +kernel) (by omega) (by omega) ?_
                refine zwW_p [(7, 0, 0), (1, 2, 0), (0, 100, 0)] (q := 45) (ls' := [(2, 37), (0, a), (0, b), (0, c)]) (st' := [(0, 100), (0, b), (1, (b % 100))]) (by decide +kernel) rfl ?_
                refine zwW_div (nx := 46) (by decide +kernel) (by omega) (by omega) (by omega) ?_
                refine zwW_p [(7, 0, 0), (0, 60, 1)] (q := 50) (ls' := [(2, 37), (0, a), (0, b), (0, c)]) (st' := [(1, 60), (1, (b / 100)), (1, (b % 100))]) (by decide +kernel) rfl ?_
                refine zwW_cs (k' := 101) (n := 3) (nx := 53) (as := [(1, (b % 100)), (1, (b / 100)), (1, 60)]) (st' := []) (by decide +kernel) rfl (m101 h (b % 100) (b / 100) 60) rfl ?_
                rintro x _ ⟨rfl, ⟨rfl, c9⟩ | ⟨rfl, c9⟩⟩
                · refine zwif_eq (q := 68) (nx := 56) (by decide +kernel) (fun c10 => ?_) (fun c10 => ?_)
                  · exfalso; omega
                  · refine zwW_p [(1, 3, 0), (7, 0, 0), (0, 1, 1), (0, 40, 1)] (q := 62) (ls' := [(2, 37), (0, a), (0, b), (0, c)]) (st' := [(1, 40), (1, 1), (1, c)]) (by decide +kernel) rfl ?_
                    refine zwW_cs (k' := 101) (n := 3) (nx := 65) (as := [(1, c), (1, 1), (1, 40)]) (st' := []) (by decide +kernel) rfl (m101 h c 1 40) rfl ?_
                    rintro x _ ⟨rfl, ⟨rfl, c11⟩ | ⟨rfl, c11⟩⟩
                    · refine zwif_ne (q := 70) (nx := 68) (by decide +kernel) (fun c12 => ?_) (fun c12 => ?_)
                      · refine zwW_p [(1, 0, 2)] (q := 71) (ls' := [(2, 37), (0, a), (0, b), (0, c)]) (st' := [(2, 37)]) (by decide +kernel) rfl ?_
                        refine zwW_gc I (kd := 13) (bn := 30) (n := 97) (c := 89) (nx := 74) (by decide +kernel) ?_
                        refine zwW_p [(1, 1, 0), (1, 2, 0), (0, 100, 0)] (q := 78) (ls' := [(2, 37), (0, a), (0, b), (0, c)]) (st' := [(0, 100), (0, b), (0, a), (2, 89)]) (by decide +kernel) rfl ?_
                        refine zwW_div (nx := 79) (by decide +kernel) (by omega) (by omega) (by omega) ?_
                        have ib1 : 0 ≤ a ∧ a < ((20 : Nat) : Int) := (by first | omega | exact ⟨by omega, by omega⟩)
                        refine zwW_as I (a1 := 89) (a2 := 89) (n := 20) (lo := -2147483648) (hi := 2147483647) (nx := 80) (by decide +kernel) (by first | decide | exact ⟨by decide, by decide⟩) ib1 (by first | omega | exact ⟨by omega, by omega⟩) ?_
                        intro h13 eh13 Ih13
                        have jbh13 : 0 ≤ a.toNat ∧ a.toNat < 20 := ⟨Nat.zero_le _, zit ib1⟩
                        have Zh13 : yM h13 = (zs (yM h) 89 a.toNat (b / 100)) := by rw [yM_w (a := 89) (n := 20) (i := a.toNat) (kd := 20) rfl (I.s (a1 := 89) (a2 := 89) (by decide +kernel) (by decide) (by decide)) jbh13.2 eh13]
                        have Rh13 : zMR ms12 h h13 := R.w (a1 := 89) (a2 := 89) (j1 := 0) (j2 := 20) (by decide +kernel) (by first | decide | exact ⟨by decide, by decide⟩) jbh13 eh13
                        refine zwW_p [(1, 0, 2)] (q := 81) (ls' := [(2, 37), (0, a), (0, b), (0, c)]) (st' := [(2, 37)]) (by decide +kernel) rfl ?_
                        refine zwW_gc Ih13 (kd := 13) (bn := 31) (n := 97) (c := 90) (nx := 84) (by decide +kernel) ?_
                        refine zwW_p [(1, 1, 0), (1, 2, 0), (0, 100, 0)] (q := 88) (ls' := [(2, 37), (0, a), (0, b), (0, c)]) (st' := [(0, 100), (0, b), (0, a), (2, 90)]) (by decide +kernel) rfl ?_
                        refine zwW_rem (nx := 89) (by decide +kernel) (by omega) (by omega) ?_
                        refine zwW_as Ih13 (a1 := 90) (a2 := 90) (n := 20) (lo := -2147483648) (hi := 2147483647) (nx := 90) (by decide +kernel) (by first | decide | exact ⟨by decide, by decide⟩) ib1 (by first | omega | exact ⟨by omega, by omega⟩) ?_
                        intro h14 eh14 Ih14
                        have jbh14 : 0 ≤ a.toNat ∧ a.toNat < 20 := ⟨Nat.zero_le _, zit ib1⟩
                        have Zh14 : yM h14 = (zs (zs (yM h) 89 a.toNat (b / 100)) 90 a.toNat (b % 100)) := by rw [yM_w (a := 90) (n := 20) (i := a.toNat) (kd := 20) rfl (Ih13.s (a1 := 90) (a2 := 90) (by decide +kernel) (by decide) (by decide)) jbh14.2 eh14, Zh13]
                        have Rh14 : zMR ms12 h h14 := Rh13.w (a1 := 90) (a2 := 90) (j1 := 0) (j2 := 20) (by decide +kernel) (by first | decide | exact ⟨by decide, by decide⟩) jbh14 eh14
                        refine zwW_p [(1, 0, 2)] (q := 91) (ls' := [(2, 37), (0, a), (0, b), (0, c)]) (st' := [(2, 37)]) (by decide +kernel) rfl ?_
                        refine zwW_gc Ih14 (kd := 13) (bn := 32) (n := 97) (c := 91) (nx := 94) (by decide +kernel) ?_
                        refine zwW_p [(1, 1, 0), (1, 3, 0)] (q := 96) (ls' := [(2, 37), (0, a), (0, b), (0, c)]) (st' := [(0, c), (0, a), (2, 91)]) (by decide +kernel) rfl ?_
                        refine zwW_as Ih14 (a1 := 91) (a2 := 91) (n := 20) (lo := -2147483648) (hi := 2147483647) (nx := 97) (by decide +kernel) (by first | decide | exact ⟨by decide, by decide⟩) ib1 (by first | omega | exact ⟨by omega, by omega⟩) ?_
                        intro h15 eh15 Ih15
                        have jbh15 : 0 ≤ a.toNat ∧ a.toNat < 20 := ⟨Nat.zero_le _, zit ib1⟩
                        have Zh15 : yM h15 = (zs (zs (zs (yM h) 89 a.toNat (b / 100)) 90 a.toNat (b % 100)) 91 a.toNat c) := by rw [yM_w (a := 91) (n := 20) (i := a.toNat) (kd := 20) rfl (Ih14.s (a1 := 91) (a2 := 91) (by decide +kernel) (by decide) (by decide)) jbh15.2 eh15, Zh14]
                        have Rh15 : zMR ms12 h h15 := Rh14.w (a1 := 91) (a2 := 91) (j1 := 0) (j2 := 20) (by decide +kernel) (by first | decide | exact ⟨by decide, by decide⟩) jbh15 eh15
                        refine zwW_p [(0, 1, 0)] (q := 98) (ls' := [(2, 37), (0, a), (0, b), (0, c)]) (st' := [(0, 1)]) (by decide +kernel) rfl ?_
                        refine zwW_ret (nx := 99) (a := 1) (b := 0) (by decide +kernel) rfl (Or.inr (Or.inl ⟨rfl, Or.inr rfl⟩)) ?_
                        exact ⟨Ih15, Rh15, by omega, by unfold yLoomA; (try rw [show yM h 91 a.toNat = fld h 91 a.toNat from yM_p (a := 91) (n := 20) rfl (by omega)]); (repeat' (first | rw [if_pos (by omega)] | rw [if_neg (by omega)])); all_goals (first | rfl | omega), by refine Eq.trans Zh15 ?_; unfold yLoom; (first | rw [show yM h 91 a.toNat = fld h 91 a.toNat from yM_p (a := 91) (n := 20) rfl (by omega)] | skip); (repeat' (first | rw [if_pos (by omega)] | rw [if_neg (by omega)])); all_goals (repeat' (first | rfl | apply zs_cg | omega))⟩
                      · exfalso; omega
                    · refine zwif_ne (q := 70) (nx := 68) (by decide +kernel) (fun c16 => ?_) (fun c16 => ?_)
                      · exfalso; omega
                      · refine zwW_p [(0, 0, 0)] (q := 69) (ls' := [(2, 37), (0, a), (0, b), (0, c)]) (st' := [(0, 0)]) (by decide +kernel) rfl ?_
                        refine zwW_ret (nx := 70) (a := 1) (b := 0) (by decide +kernel) rfl (Or.inr (Or.inl ⟨rfl, Or.inl rfl⟩)) ?_
                        exact ⟨I, R, by omega, by unfold yLoomA; (try rw [show yM h 91 a.toNat = fld h 91 a.toNat from yM_p (a := 91) (n := 20) rfl (by omega)]); (repeat' (first | rw [if_pos (by omega)] | rw [if_neg (by omega)])); all_goals (first | rfl | omega), by refine Eq.trans (rfl : yM h = yM h) ?_; unfold yLoom; (first | rw [show yM h 91 a.toNat = fld h 91 a.toNat from yM_p (a := 91) (n := 20) rfl (by omega)] | skip); (repeat' (first | rw [if_pos (by omega)] | rw [if_neg (by omega)])); all_goals (repeat' (first | rfl | apply zs_cg | omega))⟩
                · refine zwif_eq (q := 68) (nx := 56) (by decide +kernel) (fun c17 => ?_) (fun c17 => ?_)
                  · refine zwW_p [(0, 0, 0)] (q := 69) (ls' := [(2, 37), (0, a), (0, b), (0, c)]) (st' := [(0, 0)]) (by decide +kernel) rfl ?_
                    refine zwW_ret (nx := 70) (a := 1) (b := 0) (by decide +kernel) rfl (Or.inr (Or.inl ⟨rfl, Or.inl rfl⟩)) ?_
                    exact ⟨I, R, by omega, by unfold yLoomA; (try rw [show yM h 91 a.toNat = fld h 91 a.toNat from yM_p (a := 91) (n := 20) rfl (by omega)]); (repeat' (first | rw [if_pos (by omega)] | rw [if_neg (by omega)])); all_goals (first | rfl | omega), by refine Eq.trans (rfl : yM h = yM h) ?_; unfold yLoom; (first | rw [show yM h 91 a.toNat = fld h 91 a.toNat from yM_p (a := 91) (n := 20) rfl (by omega)] | skip); (repeat' (first | rw [if_pos (by omega)] | rw [if_neg (by omega)])); all_goals (repeat' (first | rfl | apply zs_cg | omega))⟩
                  · exfalso; omega
            · refine zwif_eq (q := 68) (nx := 37) (by decide +kernel) (fun c18 => ?_) (fun c18 => ?_)
              · refine zwW_p [(0, 0, 0)] (q := 69) (ls' := [(2, 37), (0, a), (0, b), (0, c)]) (st' := [(0, 0)]) (by decide +kernel) rfl ?_
                refine zwW_ret (nx := 70) (a := 1) (b := 0) (by decide +kernel) rfl (Or.inr (Or.inl ⟨rfl, Or.inl rfl⟩)) ?_
                exact ⟨I, R, by omega, by unfold yLoomA; (try rw [show yM h 91 a.toNat = fld h 91 a.toNat from yM_p (a := 91) (n := 20) rfl (by omega)]); (repeat' (first | rw [if_pos (by omega)] | rw [if_neg (by omega)])); all_goals (first | rfl | omega), by refine Eq.trans (rfl : yM h = yM h) ?_; unfold yLoom; (first | rw [show yM h 91 a.toNat = fld h 91 a.toNat from yM_p (a := 91) (n := 20) rfl (by omega)] | skip); (repeat' (first | rw [if_pos (by omega)] | rw [if_neg (by omega)])); all_goals (repeat' (first | rfl | apply zs_cg | omega))⟩
              · exfalso; omega
  · refine zwif_eq (q := 68) (nx := 8) (by decide +kernel) (fun c19 => ?_) (fun c19 => ?_)
    · refine zwW_p [(0, 0, 0)] (q := 69) (ls' := [(2, 37), (0, a), (0, b), (0, c)]) (st' := [(0, 0)]) (by decide +kernel) rfl ?_
      refine zwW_ret (nx := 70) (a := 1) (b := 0) (by decide +kernel) rfl (Or.inr (Or.inl ⟨rfl, Or.inl rfl⟩)) ?_
      exact ⟨I, R, by omega, by unfold yLoomA; (try rw [show yM h 91 a.toNat = fld h 91 a.toNat from yM_p (a := 91) (n := 20) rfl (by omega)]); (repeat' (first | rw [if_pos (by omega)] | rw [if_neg (by omega)])); all_goals (first | rfl | omega), by refine Eq.trans (rfl : yM h = yM h) ?_; unfold yLoom; (first | rw [show yM h 91 a.toNat = fld h 91 a.toNat from yM_p (a := 91) (n := 20) rfl (by omega)] | skip); (repeat' (first | rw [if_pos (by omega)] | rw [if_neg (by omega)])); all_goals (repeat' (first | rfl | apply zs_cg | omega))⟩
    · exfalso; omega
-- WheelLandModel.aim(II)Z
theorem m14_z {sc : List Int} (h : Hp) (I : zI h) (a b : Int) : zwC sc 3 14 [(2, 37), (0, a), (0, b)] h (zwRt 0 (fun x g => zI g ∧ zMR ms14 h g ∧ (-2147483648 ≤ x ∧ x ≤ 2147483647) ∧ (x = yAimA (yM h) a b) ∧ (yM g = yAim (yM h) a b))) := by
  refine zwC_of (D := 2) 3 (by decide +kernel) rfl (ls := [(2, 37), (0, a), (0, b)]) rfl ?_
  have R : zMR ms14 h h := zMR.rf _ _
  have u0 : yM h 37 0 = fld h 37 0 := rfl
  have u1 : yM h 37 1 = fld h 37 1 := rfl
  have u2 : yM h 37 2 = fld h 37 2 := rfl
  have u64 : yM h 37 64 = fld h 37 64 := rfl
  have u78 : yM h 37 78 = fld h 37 78 := rfl
  refine zwW_p [(1, 0, 2), (1, 1, 0)] (q := 2) (ls' := [(2, 37), (0, a), (0, b)]) (st' := [(0, a), (2, 37)]) (by decide +kernel) rfl ?_
  refine zwW_cm I (op := 60) (k' := 111) (n := 1) (kd := 13) (m := 97) (nx := 5) (r := 37) (tl := [(0, a)]) (st' := []) (by decide +kernel) rfl (by decide +kernel) rfl (m111 h I a) ?_
  rintro x _ ⟨rfl, ⟨rfl, c1⟩ | ⟨rfl, c1⟩⟩
  · refine zwif_eq (q := 22) (nx := 8) (by decide +kernel) (fun c2 => ?_) (fun c2 => ?_)
    · exfalso; omega
    · refine zwW_p [(1, 2, 0), (7, 0, 0), (0, 4, 1), (0, 60, 1)] (q := 16) (ls' := [(2, 37), (0, a), (0, b)]) (st' := [(1, 60), (1, 4), (1, b)]) (by decide +kernel) rfl ?_
      refine zwW_cs (k' := 101) (n := 3) (nx := 19) (as := [(1, b), (1, 4), (1, 60)]) (st' := []) (by decide +kernel) rfl (m101 h b 4 60) rfl ?_
      rintro x _ ⟨rfl, ⟨rfl, c3⟩ | ⟨rfl, c3⟩⟩
      · refine zwif_ne (q := 24) (nx := 22) (by decide +kernel) (fun c4 => ?_) (fun c4 => ?_)
        · refine zwW_p [(1, 0, 2)] (q := 25) (ls' := [(2, 37), (0, a), (0, b)]) (st' := [(2, 37)]) (by decide +kernel) rfl ?_
          refine zwW_gc I (kd := 13) (bn := 26) (n := 97) (c := 85) (nx := 28) (by decide +kernel) ?_
          refine zwW_p [(1, 1, 0), (1, 2, 0)] (q := 30) (ls' := [(2, 37), (0, a), (0, b)]) (st' := [(0, b), (0, a), (2, 85)]) (by decide +kernel) rfl ?_
          have ib1 : 0 ≤ a ∧ a < ((20 : Nat) : Int) := (by first | omega | exact ⟨by omega, by omega⟩)
          refine zwW_as I (a1 := 85) (a2 := 85) (n := 20) (lo := 0) (hi := 60) (nx := 31) (by decide +kernel) (by first | decide | exact ⟨by decide, by decide⟩) ib1 (by first | omega | exact ⟨by omega, by omega⟩) ?_
          intro h5 eh5 Ih5
          have jbh5 : 0 ≤ a.toNat ∧ a.toNat < 20 := ⟨Nat.zero_le _, zit ib1⟩
          have Zh5 : yM h5 = (zs (yM h) 85 a.toNat b) := by rw [yM_w (a := 85) (n := 20) (i := a.toNat) (kd := 20) rfl (I.s (a1 := 85) (a2 := 85) (by decide +kernel) (by decide) (by decide)) jbh5.2 eh5]
          have Rh5 : zMR ms14 h h5 := R.w (a1 := 85) (a2 := 85) (j1 := 0) (j2 := 20) (by decide +kernel) (by first | decide | exact ⟨by decide, by decide⟩) jbh5 eh5
          refine zwW_p [(0, 1, 0)] (q := 32) (ls' := [(2, 37), (0, a), (0, b)]) (st' := [(0, 1)]) (by decide +kernel) rfl ?_
          refine zwW_ret (nx := 33) (a := 1) (b := 0) (by decide +kernel) rfl (Or.inr (Or.inl ⟨rfl, Or.inr rfl⟩)) ?_
          exact ⟨Ih5, Rh5, by omega, by unfold yAimA; (repeat' (first | rw [if_pos (by omega)] | rw [if_neg (by omega)])); all_goals (first | rfl | omega), by refine Eq.trans Zh5 ?_; unfold yAim; (repeat' (first | rw [if_pos (by omega)] | rw [if_neg (by omega)])); all_goals (repeat' (first | rfl | apply zs_cg | omega))⟩
        · exfalso; omega
      · refine zwif_ne (q := 24) (nx := 22) (by decide +kernel) (fun c6 => ?_) (fun c6 => ?_)
        · exfalso; omega
        · refine zwW_p [(0, 0, 0)] (q := 23) (ls' := [(2, 37), (0, a), (0, b)]) (st' := [(0, 0)]) (by decide +kernel) rfl ?_
          refine zwW_ret (nx := 24) (a := 1) (b := 0) (by decide +kernel) rfl (Or.inr (Or.inl ⟨rfl, Or.inl rfl⟩)) ?_
          exact ⟨I, R, by omega, by unfold yAimA; (repeat' (first | rw [if_pos (by omega)] | rw [if_neg (by omega)])); all_goals (first | rfl | omega), by refine Eq.trans (rfl : yM h = yM h) ?_; unfold yAim; (repeat' (first | rw [if_pos (by omega)] | rw [if_neg (by omega)])); all_goals (repeat' (first | rfl | apply zs_cg | omega))⟩
  · refine zwif_eq (q := 22) (nx := 8) (by decide +kernel) (fun c7 => ?_) (fun c7 => ?_)
    · refine zwW_p [(0, 0, 0)] (q := 23) (ls' := [(2, 37), (0, a), (0, b)]) (st' := [(0, 0)]) (by decide +kernel) rfl ?_
      refine zwW_ret (nx := 24) (a := 1) (b := 0) (by decide +kernel) rfl (Or.inr (Or.inl ⟨rfl, Or.inl rfl⟩)) ?_
      exact ⟨I, R, by omega, by unfold yAimA; (repeat' (first | rw [if_pos (by omega)] | rw [if_neg (by omega)])); all_goals (first | rfl | omega), by refine Eq.trans (rfl : yM h = yM h) ?_; unfold yAim; (repeat' (first | rw [if_pos (by omega)] | rw [if_neg (by omega)])); all_goals (repeat' (first | rfl | apply zs_cg | omega))⟩
    · exfalso; omega
-- WheelLandModel.owing(I)I
theorem m127_z {sc : List Int} (h : Hp) (I : zI h) (a : Int) (p1 : 0 ≤ a) (p2 : a ≤ 19) : zwC sc 1 127 [(2, 37), (0, a)] h (zwRt 0 (fun x g => h = g ∧ (-2147483648 ≤ x ∧ x ≤ 2147483647) ∧ (x = yOwin (yM h) a))) := by
  refine zwC_of (D := 0) 4 (by decide +kernel) rfl (ls := [(2, 37), (0, a), (9, 0), (9, 0)]) rfl ?_
  have u0 : yM h 37 0 = fld h 37 0 := rfl
  have u1 : yM h 37 1 = fld h 37 1 := rfl
  have u2 : yM h 37 2 = fld h 37 2 := rfl
  have u64 : yM h 37 64 = fld h 37 64 := rfl
  have u78 : yM h 37 78 = fld h 37 78 := rfl
  have s93 : yM h 93 a.toNat = w32 (fld h 93 a.toNat) := yM_93 (by omega)
  refine zwW_p [(1, 0, 2)] (q := 1) (ls' := [(2, 37), (0, a), (9, 0), (9, 0)]) (st' := [(2, 37)]) (by decide +kernel) rfl ?_
  refine zwW_gc I (kd := 13) (bn := 34) (n := 97) (c := 93) (nx := 4) (by decide +kernel) ?_
  refine zwW_p [(1, 1, 0)] (q := 5) (ls' := [(2, 37), (0, a), (9, 0), (9, 0)]) (st' := [(0, a), (2, 93)]) (by decide +kernel) rfl ?_
  have ib1 : 0 ≤ a ∧ a < ((20 : Nat) : Int) := (by first | omega | exact ⟨by omega, by omega⟩)
  refine zwW_al I (a1 := 93) (a2 := 93) (kd := 23) (n := 20) (t := 1) (lo := -9223372036854775808) (hi := 9223372036854775807) (nx := 6) (by decide +kernel) (by first | decide | exact ⟨by decide, by decide⟩) ib1 ?_
  intro v1 ev1 lv1 uv1
  refine zwW_p [(1, 0, 2)] (q := 7) (ls' := [(2, 37), (0, a), (9, 0), (9, 0)]) (st' := [(2, 37), (1, v1)]) (by decide +kernel) rfl ?_
  refine zwW_gc I (kd := 13) (bn := 35) (n := 97) (c := 94) (nx := 10) (by decide +kernel) ?_
  refine zwW_p [(1, 1, 0)] (q := 11) (ls' := [(2, 37), (0, a), (9, 0), (9, 0)]) (st' := [(0, a), (2, 94), (1, v1)]) (by decide +kernel) rfl ?_
  refine zwW_al I (a1 := 94) (a2 := 94) (kd := 20) (n := 20) (t := 0) (lo := -2147483648) (hi := 2147483647) (nx := 12) (by decide +kernel) (by first | decide | exact ⟨by decide, by decide⟩) ib1 ?_
  intro v2 ev2 lv2 uv2
  have sv2 : v2 = (yM h) 94 a.toNat := Eq.trans ev2 (Eq.trans (Eq.symm (yM_p (h := h) (a := 94) (n := 20) (i := a.toNat) rfl (zit ib1))) (Eq.trans (congrFun (congrFun (rfl : yM h = yM h) 94) a.toNat) rfl))
  refine zwW_p [(7, 0, 0)] (q := 13) (ls' := [(2, 37), (0, a), (9, 0), (9, 0)]) (st' := [(1, v2), (1, v1)]) (by decide +kernel) rfl ?_
  refine zwW_lsw (nx := 14) (by decide +kernel) ?_
  intro v3 ev3 lv3 uv3
  refine zwW_p [(2, 2, 1), (1, 2, 1)] (q := 16) (ls' := [(2, 37), (0, a), (1, v3), (9, 0)]) (st' := [(1, v3)]) (by decide +kernel) rfl ?_
  refine zwW_l2x (nx := 17) (by decide +kernel) ?_
  intro v4 ev4 lv4 uv4
  refine zwW_ret (nx := 18) (a := 0) (b := 0) (by decide +kernel) rfl (Or.inl rfl) ?_
  exact ⟨rfl, by omega, by unfold yOwin; rw [s93, w32_sub]; simp only [w32, w64] at *; omega⟩
-- WheelLandModel.pay(III)I
theorem m36_z {sc : List Int} (h : Hp) (I : zI h) (a b c : Int) : zwC sc 3 36 [(2, 37), (0, a), (0, b), (0, c)] h (zwRt 0 (fun x g => zI g ∧ zMR ms36 h g ∧ (-2147483648 ≤ x ∧ x ≤ 2147483647) ∧ (x = yPayA (yM h) a b c) ∧ (yM g = yPay (yM h) a b c))) := by
  refine zwC_of (D := 2) 4 (by decide +kernel) rfl (ls := [(2, 37), (0, a), (0, b), (0, c)]) rfl ?_
  have R : zMR ms36 h h := zMR.rf _ _
  have u0 : yM h 37 0 = fld h 37 0 := rfl
  have u1 : yM h 37 1 = fld h 37 1 := rfl
  have u2 : yM h 37 2 = fld h 37 2 := rfl
  have u64 : yM h 37 64 = fld h 37 64 := rfl
  have u78 : yM h 37 78 = fld h 37 78 := rfl
  refine zwW_p [(1, 0, 2), (1, 1, 0)] (q := 2) (ls' := [(2, 37), (0, a), (0, b), (0, c)]) (st' := [(0, a), (2, 37)]) (by decide +kernel) rfl ?_
  refine zwW_cm I (op := 60) (k' := 111) (n := 1) (kd := 13) (m := 97) (nx := 5) (r := 37) (tl := [(0, a)]) (st' := []) (by decide +kernel) rfl (by decide +kernel) rfl (m111 h I a) ?_
  rintro x _ ⟨rfl, ⟨rfl, c1⟩ | ⟨rfl, c1⟩⟩
  · refine zwif_eq (q := 32) (nx := 8) (by decide +kernel) (fun c2 => ?_) (fun c2 => ?_)
    · exfalso; omega
    · refine zwW_p [(1, 0, 2), (1, 2, 0)] (q := 10) (ls' := [(2, 37), (0, a), (0, b), (0, c)]) (st' := [(0, b), (2, 37)]) (by decide +kernel) rfl ?_
      refine zwW_cm I (op := 60) (k' := 116) (n := 1) (kd := 13) (m := 97) (nx := 13) (r := 37) (tl := [(0, b)]) (st' := []) (by decide +kernel) rfl (by decide +kernel) rfl (m116 h I b) ?_
      rintro x _ ⟨rfl, ⟨rfl, c3⟩ | ⟨rfl, c3⟩⟩
      · refine zwif_eq (q := 32) (nx := 16) (by decide +kernel) (fun c4 => ?_) (fun c4 => ?_)
        · exfalso; omega
        · refine zwW_p [(1, 3, 0), (7, 0, 0), (0, 1, 1), (1, 0, 2)] (q := 20) (ls' := [(2, 37), (0, a), (0, b), (0, c)]) (st' := [(2, 37), (1, 1), (1, c)]) (by decide +kernel) rfl ?_
          refine zwW_gc I (kd := 13) (bn := 63) (n := 97) (c := 175) (nx := 23) (by decide +kernel) ?_
          refine zwW_p [(1, 2, 0)] (q := 24) (ls' := [(2, 37), (0, a), (0, b), (0, c)]) (st' := [(0, b), (2, 175), (1, 1), (1, c)]) (by decide +kernel) rfl ?_
          have ib1 : 0 ≤ b ∧ b < ((300 : Nat) : Int) := (by first | omega | exact ⟨by omega, by omega⟩)
          refine zwW_al I (a1 := 175) (a2 := 175) (kd := 20) (n := 300) (t := 0) (lo := -2147483648) (hi := 2147483647) (nx := 25) (by decide +kernel) (by first | decide | exact ⟨by decide, by decide⟩) ib1 ?_
          intro v5 ev5 lv5 uv5
          have sv5 : v5 = (yM h) 175 b.toNat := Eq.trans ev5 (Eq.trans (Eq.symm (yM_p (h := h) (a := 175) (n := 300) (i := b.toNat) rfl (zit ib1))) (Eq.trans (congrFun (congrFun (rfl : yM h = yM h) 175) b.toNat) rfl))
          refine zwW_p [(7, 0, 0)] (q := 26) (ls' := [(2, 37), (0, a), (0, b), (0, c)]) (st' := [(1, v5), (1, 1), (1, c)]) (by decide +kernel) rfl ?_
          refine zwW_cs (k' := 101) (n := 3) (nx := 29) (as := [(1, c), (1, 1), (1, v5)]) (st' := []) (by decide +kernel) rfl (m101 h c 1 v5) rfl ?_
          rintro x _ ⟨rfl, ⟨rfl, c6⟩ | ⟨rfl, c6⟩⟩
          · refine zwif_ne (q := 36) (nx := 32) (by decide +kernel) (fun c7 => ?_) (fun c7 => ?_)
            · refine zwW_p [(1, 0, 2)] (q := 37) (ls' := [(2, 37), (0, a), (0, b), (0, c)]) (st' := [(2, 37)]) (by decide +kernel) rfl ?_
              refine zwW_gc I (kd := 13) (bn := 63) (n := 97) (c := 175) (nx := 40) (by decide +kernel) ?_
              refine zwW_p [(1, 2, 0), (14, 0, 0)] (q := 42) (ls' := [(2, 37), (0, a), (0, b), (0, c)]) (st' := [(0, b), (2, 175), (0, b), (2, 175)]) (by decide +kernel) rfl ?_
              refine zwW_al I (a1 := 175) (a2 := 175) (kd := 20) (n := 300) (t := 0) (lo := -2147483648) (hi := 2147483647) (nx := 43) (by decide +kernel) (by first | decide | exact ⟨by decide, by decide⟩) ib1 ?_
              intro v8 ev8 lv8 uv8
              have sv8 : v8 = (yM h) 175 b.toNat := Eq.trans ev8 (Eq.trans (Eq.symm (yM_p (h := h) (a := 175) (n := 300) (i := b.toNat) rfl (zit ib1))) (Eq.trans (congrFun (congrFun (rfl : yM h = yM h) 175) b.toNat) rfl))
              refine zwW_p [(1, 3, 0)] (q := 44) (ls' := [(2, 37), (0, a), (0, b), (0, c)]) (st' := [(0, c), (0, v8), (0, b), (2, 175)]) (by decide +kernel) rfl ?_
              refine zwW_sbw (nx := 45) (by decide +kernel) ?_
              intro v9 ev9 lv9 uv9
              have Ev9 : v9 = w32 (((yM h) 175 b.toNat) - c) := by rw [ev9, sv8]
              refine zwW_as I (a1 := 175) (a2 := 175) (n := 300) (lo := -2147483648) (hi := 2147483647) (nx := 46) (by decide +kernel) (by first | decide | exact ⟨by decide, by decide⟩) ib1 (by first | omega | exact ⟨by omega, by omega⟩) ?_
              intro h10 eh10 Ih10
              have jbh10 : 0 ≤ b.toNat ∧ b.toNat < 300 := ⟨Nat.zero_le _, zit ib1⟩
              have Zh10 : yM h10 = (zs (yM h) 175 b.toNat (w32 (((yM h) 175 b.toNat) - c))) := by rw [yM_w (a := 175) (n := 300) (i := b.toNat) (kd := 20) rfl (I.s (a1 := 175) (a2 := 175) (by decide +kernel) (by decide) (by decide)) jbh10.2 eh10, Ev9]
              have Rh10 : zMR ms36 h h10 := R.w (a1 := 175) (a2 := 175) (j1 := 0) (j2 := 300) (by decide +kernel) (by first | decide | exact ⟨by decide, by decide⟩) jbh10 eh10
              refine zwW_p [(1, 0, 2)] (q := 47) (ls' := [(2, 37), (0, a), (0, b), (0, c)]) (st' := [(2, 37)]) (by decide +kernel) rfl ?_
              refine zwW_gc Ih10 (kd := 13) (bn := 35) (n := 97) (c := 94) (nx := 50) (by decide +kernel) ?_
              refine zwW_p [(1, 1, 0), (14, 0, 0)] (q := 52) (ls' := [(2, 37), (0, a), (0, b), (0, c)]) (st' := [(0, a), (2, 94), (0, a), (2, 94)]) (by decide +kernel) rfl ?_
              have ib2 : 0 ≤ a ∧ a < ((20 : Nat) : Int) := (by first | omega | exact ⟨by omega, by omega⟩)
              refine zwW_al Ih10 (a1 := 94) (a2 := 94) (kd := 20) (n := 20) (t := 0) (lo := -2147483648) (hi := 2147483647) (nx := 53) (by decide +kernel) (by first | decide | exact ⟨by decide, by decide⟩) ib2 ?_
              intro v11 ev11 lv11 uv11
              have sv11 : v11 = (yM h) 94 a.toNat := Eq.trans ev11 (Eq.trans (Eq.symm (yM_p (h := h10) (a := 94) (n := 20) (i := a.toNat) rfl (zit ib2))) (Eq.trans (congrFun (congrFun Zh10 94) a.toNat) (Eq.trans (zs_na (by decide) : (zs (yM h) 175 b.toNat (w32 (((yM h) 175 b.toNat) - c))) 94 a.toNat = (yM h) 94 a.toNat) rfl)))
              refine zwW_p [(1, 3, 0)] (q := 54) (ls' := [(2, 37), (0, a), (0, b), (0, c)]) (st' := [(0, c), (0, v11), (0, a), (2, 94)]) (by decide +kernel) rfl ?_
              refine zwW_adw (nx := 55) (by decide +kernel) ?_
              intro v12 ev12 lv12 uv12
              have Ev12 : v12 = w32 (((yM h) 94 a.toNat) + c) := by rw [ev12, sv11]
              refine zwW_as Ih10 (a1 := 94) (a2 := 94) (n := 20) (lo := -2147483648) (hi := 2147483647) (nx := 56) (by decide +kernel) (by first | decide | exact ⟨by decide, by decide⟩) ib2 (by first | omega | exact ⟨by omega, by omega⟩) ?_
              intro h13 eh13 Ih13
              have jbh13 : 0 ≤ a.toNat ∧ a.toNat < 20 := ⟨Nat.zero_le _, zit ib2⟩
              have Zh13 : yM h13 = (zs (zs (yM h) 175 b.toNat (w32 (((yM h) 175 b.toNat) - c))) 94 a.toNat (w32 (((yM h) 94 a.toNat) + c))) := by rw [yM_w (a := 94) (n := 20) (i := a.toNat) (kd := 20) rfl (Ih10.s (a1 := 94) (a2 := 94) (by decide +kernel) (by decide) (by decide)) jbh13.2 eh13, Zh10, Ev12]
              have Rh13 : zMR ms36 h h13 := Rh10.w (a1 := 94) (a2 := 94) (j1 := 0) (j2 := 20) (by decide +kernel) (by first | decide | exact ⟨by decide, by decide⟩) jbh13 eh13
              refine zwW_p [(1, 0, 2), (12, 0, 0)] (q := 58) (ls' := [(2, 37), (0, a), (0, b), (0, c)]) (st' := [(2, 37), (2, 37)]) (by decide +kernel) rfl ?_
              refine zwW_gs Ih13 (kd := 13) (bn := 69) (n := 97) (t := 0) (lo := -2147483648) (hi := 2147483647) (nx := 61) (by decide +kernel) ?_
              intro v14 ev14 lv14 uv14
              have sv14 : v14 = (yM h) 37 69 := Eq.trans ev14 (Eq.trans (Eq.symm (yM_s (h := h13) (i := 69) rfl)) (Eq.trans (congrFun (congrFun Zh13 37) 69) (Eq.trans (zs_na (by decide) : (zs (zs (yM h) 175 b.toNat (w32 (((yM h) 175 b.toNat) - c))) 94 a.toNat (w32 (((yM h) 94 a.toNat) + c))) 37 69 = (zs (yM h) 175 b.toNat (w32 (((yM h) 175 b.toNat) - c))) 37 69) (Eq.trans (zs_na (by decide) : (zs (yM h) 175 b.toNat (w32 (((yM h) 175 b.toNat) - c))) 37 69 = (yM h) 37 69) rfl))))
              refine zwW_p [(1, 3, 0)] (q := 62) (ls' := [(2, 37), (0, a), (0, b), (0, c)]) (st' := [(0, c), (0, v14), (2, 37)]) (by decide +kernel) rfl ?_
              refine zwW_adw (nx := 63) (by decide +kernel) ?_
              intro v15 ev15 lv15 uv15
              have Ev15 : v15 = w32 (((yM h) 37 69) + c) := by rw [ev15, sv14]
              refine zwW_ps Ih13 (kd := 13) (bn := 69) (n := 97) (lo := -2147483648) (hi := 2147483647) (nx := 66) (by decide +kernel) (by first | omega | exact ⟨by omega, by omega⟩) ?_
              intro h16 eh16 Ih16
              have Zh16 : yM h16 = (zs (zs (zs (yM h) 175 b.toNat (w32 (((yM h) 175 b.toNat) - c))) 94 a.toNat (w32 (((yM h) 94 a.toNat) + c))) 37 69 (w32 (((yM h) 37 69) + c))) := by rw [yM_ws (i := 69) (kd := 13) (n := 97) rfl (Ih13.s (a1 := 37) (a2 := 37) (by decide +kernel) (by decide) (by decide)) (by decide) eh16, Zh13, Ev15]
              have Rh16 : zMR ms36 h h16 := Rh13.w (a1 := 37) (a2 := 37) (j1 := 69) (j2 := 70) (by decide +kernel) (by first | decide | exact ⟨by decide, by decide⟩) (by first | decide | exact ⟨by decide, by decide⟩) eh16
              refine zwW_p [(1, 0, 2)] (q := 67) (ls' := [(2, 37), (0, a), (0, b), (0, c)]) (st' := [(2, 37)]) (by decide +kernel) rfl ?_
              refine zwW_gc Ih16 (kd := 13) (bn := 58) (n := 97) (c := 170) (nx := 70) (by decide +kernel) ?_
              refine zwW_p [(1, 2, 0)] (q := 71) (ls' := [(2, 37), (0, a), (0, b), (0, c)]) (st' := [(0, b), (2, 170)]) (by decide +kernel) rfl ?_
              refine zwW_al Ih16 (a1 := 170) (a2 := 170) (kd := 20) (n := 300) (t := 0) (lo := 0) (hi := 19) (nx := 72) (by decide +kernel) (by first | decide | exact ⟨by decide, by decide⟩) ib1 ?_
              intro v17 ev17 lv17 uv17
              have sv17 : v17 = (yM h) 170 b.toNat := Eq.trans ev17 (Eq.trans (Eq.symm (yM_p (h := h16) (a := 170) (n := 300) (i := b.toNat) rfl (zit ib1))) (Eq.trans (congrFun (congrFun Zh16 170) b.toNat) (Eq.trans (zs_na (by decide) : (zs (zs (zs (yM h) 175 b.toNat (w32 (((yM h) 175 b.toNat) - c))) 94 a.toNat (w32 (((yM h) 94 a.toNat) + c))) 37 69 (w32 (((yM h) 37 69) + c))) 170 b.toNat = (zs (zs (yM h) 175 b.toNat (w32 (((yM h) 175 b.toNat) - c))) 94 a.toNat (w32 (((yM h) 94 a.toNat) + c))) 170 b.toNat) (Eq.trans (zs_na (by decide) : (zs (zs (yM h) 175 b.toNat (w32 (((yM h) 175 b.toNat) - c))) 94 a.toNat (w32 (((yM h) 94 a.toNat) + c))) 170 b.toNat = (zs (yM h) 175 b.toNat (w32 (((yM h) 175 b.toNat) - c))) 170 b.toNat) (Eq.trans (zs_na (by decide) : (zs (yM h) 175 b.toNat (w32 (((yM h) 175 b.toNat) - c))) 170 b.toNat = (yM h) 170 b.toNat) rfl)))))
              refine zwW_p [(1, 1, 0)] (q := 73) (ls' := [(2, 37), (0, a), (0, b), (0, c)]) (st' := [(0, a), (0, v17)]) (by decide +kernel) rfl ?_
              refine zwic_eq (q := 86) (nx := 76) (by decide +kernel) (fun c18 => ?_) (fun c18 => ?_)
              · refine zwW_p [(1, 0, 2), (1, 1, 0)] (q := 88) (ls' := [(2, 37), (0, a), (0, b), (0, c)]) (st' := [(0, a), (2, 37)]) (by decide +kernel) rfl ?_
                refine zwW_cm Ih16 (op := 60) (k' := 127) (n := 1) (kd := 13) (m := 97) (nx := 91) (r := 37) (tl := [(0, a)]) (st' := []) (by decide +kernel) rfl (by decide +kernel) rfl (m127_z h16 Ih16 a (by omega) (by omega)) ?_
                rintro v19 _ ⟨rfl, f20, f21⟩
                have sv19 : v19 = yOwin (zs (zs (zs (yM h) 175 b.toNat (w32 (((yM h) 175 b.toNat) - c))) 94 a.toNat (w32 (((yM h) 94 a.toNat) + c))) 37 69 (w32 (((yM h) 37 69) + c))) a := by rw [f21, Zh16]
                refine zwW_ret (nx := 92) (a := 0) (b := 0) (by decide +kernel) rfl (Or.inl rfl) ?_
                exact ⟨Ih16, Rh16, by omega, by unfold yPayA; (repeat' (first | rw [if_pos (by omega)] | rw [if_neg (by omega)])); all_goals (first | rfl | omega | (rw [sv19]; unfold yOwin; (repeat rw [zs_na (by decide)]); rw [zs_eq])), by refine Eq.trans Zh16 ?_; unfold yPay; (repeat' (first | rw [if_pos (by omega)] | rw [if_neg (by omega)])); all_goals (first | exact zs_sw (by decide) | (repeat' (first | rfl | apply zs_cg | omega)))⟩
              · refine zwW_p [(1, 0, 2)] (q := 77) (ls' := [(2, 37), (0, a), (0, b), (0, c)]) (st' := [(2, 37)]) (by decide +kernel) rfl ?_
                refine zwW_gc Ih16 (kd := 13) (bn := 37) (n := 97) (c := 96) (nx := 80) (by decide +kernel) ?_
                refine zwW_p [(1, 1, 0), (14, 0, 0)] (q := 82) (ls' := [(2, 37), (0, a), (0, b), (0, c)]) (st' := [(0, a), (2, 96), (0, a), (2, 96)]) (by decide +kernel) rfl ?_
                refine zwW_al Ih16 (a1 := 96) (a2 := 96) (kd := 20) (n := 20) (t := 0) (lo := -2147483648) (hi := 2147483647) (nx := 83) (by decide +kernel) (by first | decide | exact ⟨by decide, by decide⟩) ib2 ?_
                intro v22 ev22 lv22 uv22
                have sv22 : v22 = (yM h) 96 a.toNat := Eq.trans ev22 (Eq.trans (Eq.symm (yM_p (h := h16) (a := 96) (n := 20) (i := a.toNat) rfl (zit ib2))) (Eq.trans (congrFun (congrFun Zh16 96) a.toNat) (Eq.trans (zs_na (by decide) : (zs (zs (zs (yM h) 175 b.toNat (w32 (((yM h) 175 b.toNat) - c))) 94 a.toNat (w32 (((yM h) 94 a.toNat) + c))) 37 69 (w32 (((yM h) 37 69) + c))) 96 a.toNat = (zs (zs (yM h) 175 b.toNat (w32 (((yM h) 175 b.toNat) - c))) 94 a.toNat (w32 (((yM h) 94 a.toNat) + c))) 96 a.toNat) (Eq.trans (zs_na (by decide) : (zs (zs (yM h) 175 b.toNat (w32 (((yM h) 175 b.toNat) - c))) 94 a.toNat (w32 (((yM h) 94 a.toNat) + c))) 96 a.toNat = (zs (yM h) 175 b.toNat (w32 (((yM h) 175 b.toNat) - c))) 96 a.toNat) (Eq.trans (zs_na (by decide) : (zs (yM h) 175 b.toNat (w32 (((yM h) 175 b.toNat) - c))) 96 a.toNat = (yM h) 96 a.toNat) rfl)))))
                refine zwW_p [(1, 3, 0)] (q := 84) (ls' := [(2, 37), (0, a), (0, b), (0, c)]) (st' := [(0, c), (0, v22), (0, a), (2, 96)]) (by decide +kernel) rfl ?_
                refine zwW_adw (nx := 85) (by decide +kernel) ?_
                intro v23 ev23 lv23 uv23
                have Ev23 : v23 = w32 (((yM h) 96 a.toNat) + c) := by rw [ev23, sv22]
                refine zwW_as Ih16 (a1 := 96) (a2 := 96) (n := 20) (lo := -2147483648) (hi := 2147483647) (nx := 86) (by decide +kernel) (by first | decide | exact ⟨by decide, by decide⟩) ib2 (by first | omega | exact ⟨by omega, by omega⟩) ?_
                intro h24 eh24 Ih24
                have jbh24 : 0 ≤ a.toNat ∧ a.toNat < 20 := ⟨Nat.zero_le _, zit ib2⟩
                have Zh24 : yM h24 = (zs (zs (zs (zs (yM h) 175 b.toNat (w32 (((yM h) 175 b.toNat) - c))) 94 a.toNat (w32 (((yM h) 94 a.toNat) + c))) 37 69 (w32 (((yM h) 37 69) + c))) 96 a.toNat (w32 (((yM h) 96 a.toNat) + c))) := by rw [yM_w (a := 96) (n := 20) (i := a.toNat) (kd := 20) rfl (Ih16.s (a1 := 96) (a2 := 96) (by decide +kernel) (by decide) (by decide)) jbh24.2 eh24, Zh16, Ev23]
                have Rh24 : zMR ms36 h h24 := Rh16.w (a1 := 96) (a2 := 96) (j1 := 0) (j2 := 20) (by decide +kernel) (by first | decide | exact ⟨by decide, by decide⟩) jbh24 eh24
                refine zwW_p [(1, 0, 2), (1, 1, 0)] (q := 88) (ls' := [(2, 37), (0, a), (0, b), (0, c)]) (st' := [(0, a), (2, 37)]) (by decide +kernel) rfl ?_
                refine zwW_cm Ih24 (op := 60) (k' := 127) (n := 1) (kd := 13) (m := 97) (nx := 91) (r := 37) (tl := [(0, a)]) (st' := []) (by decide +kernel) rfl (by decide +kernel) rfl (m127_z h24 Ih24 a (by omega) (by omega)) ?_
                rintro v25 _ ⟨rfl, f26, f27⟩
                have sv25 : v25 = yOwin (zs (zs (zs (zs (yM h) 175 b.toNat (w32 (((yM h) 175 b.toNat) - c))) 94 a.toNat (w32 (((yM h) 94 a.toNat) + c))) 37 69 (w32 (((yM h) 37 69) + c))) 96 a.toNat (w32 (((yM h) 96 a.toNat) + c))) a := by rw [f27, Zh24]
                refine zwW_ret (nx := 92) (a := 0) (b := 0) (by decide +kernel) rfl (Or.inl rfl) ?_
                exact ⟨Ih24, Rh24, by omega, by unfold yPayA; (repeat' (first | rw [if_pos (by omega)] | rw [if_neg (by omega)])); all_goals (first | rfl | omega | (rw [sv25]; unfold yOwin; (repeat rw [zs_na (by decide)]); rw [zs_eq])), by refine Eq.trans Zh24 ?_; unfold yPay; (repeat' (first | rw [if_pos (by omega)] | rw [if_neg (by omega)])); all_goals (first | exact zs_sw (by decide) | (repeat' (first | rfl | apply zs_cg | omega)))⟩
            · exfalso; omega
          · refine zwif_ne (q := 36) (nx := 32) (by decide +kernel) (fun c28 => ?_) (fun c28 => ?_)
            · exfalso; omega
            · refine zwW_p [(0, -2147483648, 0)] (q := 35) (ls' := [(2, 37), (0, a), (0, b), (0, c)]) (st' := [(0, -2147483648)]) (by decide +kernel) rfl ?_
              refine zwW_ret (nx := 36) (a := 0) (b := 0) (by decide +kernel) rfl (Or.inl rfl) ?_
              exact ⟨I, R, by omega, by unfold yPayA; (repeat' (first | rw [if_pos (by omega)] | rw [if_neg (by omega)])); all_goals (first | rfl | omega | (rw [s-2147483648]; unfold yOwin; (repeat rw [zs_na (by decide)]); rw [zs_eq])), by refine Eq.trans (rfl : yM h = yM h) ?_; unfold yPay; (repeat' (first | rw [if_pos (by omega)] | rw [if_neg (by omega)])); all_goals (first | exact zs_sw (by decide) | (repeat' (first | rfl | apply zs_cg | omega)))⟩
      · refine zwif_eq (q := 32) (nx := 16) (by decide +kernel) (fun c29 => ?_) (fun c29 => ?_)
        · refine zwW_p [(0, -2147483648, 0)] (q := 35) (ls' := [(2, 37), (0, a), (0, b), (0, c)]) (st' := [(0, -2147483648)]) (by decide +kernel) rfl ?_
          refine zwW_ret (nx := 36) (a := 0) (b := 0) (by decide +kernel) rfl (Or.inl rfl) ?_
          exact ⟨I, R, by omega, by unfold yPayA; (repeat' (first | rw [if_pos (by omega)] | rw [if_neg (by omega)])); all_goals (first | rfl | omega | (rw [s-2147483648]; unfold yOwin; (repeat rw [zs_na (by decide)]); rw [zs_eq])), by refine Eq.trans (rfl : yM h = yM h) ?_; unfold yPay; (repeat' (first | rw [if_pos (by omega)] | rw [if_neg (by omega)])); all_goals (first | exact zs_sw (by decide) | (repeat' (first | rfl | apply zs_cg | omega)))⟩
        · exfalso; omega
  · refine zwif_eq (q := 32) (nx := 8) (by decide +kernel) (fun c30 => ?_) (fun c30 => ?_)
    · refine zwW_p [(0, -2147483648, 0)] (q := 35) (ls' := [(2, 37), (0, a), (0, b), (0, c)]) (st' := [(0, -2147483648)]) (by decide +kernel) rfl ?_
      refine zwW_ret (nx := 36) (a := 0) (b := 0) (by decide +kernel) rfl (Or.inl rfl) ?_
      exact ⟨I, R, by omega, by unfold yPayA; (repeat' (first | rw [if_pos (by omega)] | rw [if_neg (by omega)])); all_goals (first | rfl | omega | (rw [s-2147483648]; unfold yOwin; (repeat rw [zs_na (by decide)]); rw [zs_eq])), by refine Eq.trans (rfl : yM h = yM h) ?_; unfold yPay; (repeat' (first | rw [if_pos (by omega)] | rw [if_neg (by omega)])); all_goals (first | exact zs_sw (by decide) | (repeat' (first | rfl | apply zs_cg | omega)))⟩
    · exfalso; omega
-- WheelLandModel.due(II)I
theorem m38_z {sc : List Int} (h : Hp) (I : zI h) (a b : Int) : zwC sc 3 38 [(2, 37), (0, a), (0, b)] h (zwRt 0 (fun x g => h = g ∧ (-2147483648 ≤ x ∧ x ≤ 2147483647) ∧ (x = yDueA (yM h) a b))) := by
  refine zwC_of (D := 2) 3 (by decide +kernel) rfl (ls := [(2, 37), (0, a), (0, b)]) rfl ?_
  have u0 : yM h 37 0 = fld h 37 0 := rfl
  have u1 : yM h 37 1 = fld h 37 1 := rfl
  have u2 : yM h 37 2 = fld h 37 2 := rfl
  have u64 : yM h 37 64 = fld h 37 64 := rfl
  have u78 : yM h 37 78 = fld h 37 78 := rfl
  refine zwW_p [(1, 0, 2), (1, 1, 0)] (q := 2) (ls' := [(2, 37), (0, a), (0, b)]) (st' := [(0, a), (2, 37)]) (by decide +kernel) rfl ?_
  refine zwW_cm I (op := 60) (k' := 111) (n := 1) (kd := 13) (m := 97) (nx := 5) (r := 37) (tl := [(0, a)]) (st' := []) (by decide +kernel) rfl (by decide +kernel) rfl (m111 h I a) ?_
  rintro x _ ⟨rfl, ⟨rfl, c1⟩ | ⟨rfl, c1⟩⟩
  · refine zwif_ne (q := 12) (nx := 8) (by decide +kernel) (fun c2 => ?_) (fun c2 => ?_)
    · refine zwW_p [(1, 2, 0)] (q := 13) (ls' := [(2, 37), (0, a), (0, b)]) (st' := [(0, b)]) (by decide +kernel) rfl ?_
      refine zwW_sw (d := 92) (os := [0, 48, 1, 54, 2, 61, 3, 68, 4, 85]) (by decide +kernel) ?_
      refine ⟨fun c3 => ?_, fun c3 => ?_⟩
      · show zwW _ _ _ 48 _ _ _ _
        refine zwW_p [(1, 0, 2), (1, 1, 0)] (q := 50) (ls' := [(2, 37), (0, a), (0, b)]) (st' := [(0, a), (2, 37)]) (by decide +kernel) rfl ?_
        refine zwW_cm I (op := 60) (k' := 127) (n := 1) (kd := 13) (m := 97) (nx := 53) (r := 37) (tl := [(0, a)]) (st' := []) (by decide +kernel) rfl (by decide +kernel) rfl (m127_z h I a (by omega) (by omega)) ?_
        rintro v4 _ ⟨rfl, f5, f6⟩
        have sv4 : v4 = yOwin (yM h) a := by rw [f6]
        refine zwW_ret (nx := 54) (a := 0) (b := 0) (by decide +kernel) rfl (Or.inl rfl) ?_
        exact ⟨rfl, by omega, by unfold yDueA; (repeat' (first | rw [if_pos (by omega)] | rw [if_neg (by omega)])); all_goals (first | rfl | omega | (unfold yOwin at *; omega))⟩
      refine ⟨fun c7 => ?_, fun c7 => ?_⟩
      · show zwW _ _ _ 54 _ _ _ _
        refine zwW_p [(1, 0, 2)] (q := 55) (ls' := [(2, 37), (0, a), (0, b)]) (st' := [(2, 37)]) (by decide +kernel) rfl ?_
        refine zwW_gc I (kd := 13) (bn := 35) (n := 97) (c := 94) (nx := 58) (by decide +kernel) ?_
        refine zwW_p [(1, 1, 0)] (q := 59) (ls' := [(2, 37), (0, a), (0, b)]) (st' := [(0, a), (2, 94)]) (by decide +kernel) rfl ?_
        have ib1 : 0 ≤ a ∧ a < ((20 : Nat) : Int) := (by first | omega | exact ⟨by omega, by omega⟩)
        refine zwW_al I (a1 := 94) (a2 := 94) (kd := 20) (n := 20) (t := 0) (lo := -2147483648) (hi := 2147483647) (nx := 60) (by decide +kernel) (by first | decide | exact ⟨by decide, by decide⟩) ib1 ?_
        intro v8 ev8 lv8 uv8
        have sv8 : v8 = (yM h) 94 a.toNat := Eq.trans ev8 (Eq.trans (Eq.symm (yM_p (h := h) (a := 94) (n := 20) (i := a.toNat) rfl (zit ib1))) (Eq.trans (congrFun (congrFun (rfl : yM h = yM h) 94) a.toNat) rfl))
        refine zwW_ret (nx := 61) (a := 0) (b := 0) (by decide +kernel) rfl (Or.inl rfl) ?_
        exact ⟨rfl, by omega, by unfold yDueA; (repeat' (first | rw [if_pos (by omega)] | rw [if_neg (by omega)])); all_goals (first | rfl | omega | (unfold yOwin at *; omega))⟩
      refine ⟨fun c9 => ?_, fun c9 => ?_⟩
      · show zwW _ _ _ 61 _ _ _ _
        refine zwW_p [(1, 0, 2)] (q := 62) (ls' := [(2, 37), (0, a), (0, b)]) (st' := [(2, 37)]) (by decide +kernel) rfl ?_
        refine zwW_gc I (kd := 13) (bn := 36) (n := 97) (c := 95) (nx := 65) (by decide +kernel) ?_
        refine zwW_p [(1, 1, 0)] (q := 66) (ls' := [(2, 37), (0, a), (0, b)]) (st' := [(0, a), (2, 95)]) (by decide +kernel) rfl ?_
        have ib2 : 0 ≤ a ∧ a < ((20 : Nat) : Int) := (by first | omega | exact ⟨by omega, by omega⟩)
        refine zwW_al I (a1 := 95) (a2 := 95) (kd := 20) (n := 20) (t := 0) (lo := -2147483648) (hi := 2147483647) (nx := 67) (by decide +kernel) (by first | decide | exact ⟨by decide, by decide⟩) ib2 ?_
        intro v10 ev10 lv10 uv10
        have sv10 : v10 = (yM h) 95 a.toNat := Eq.trans ev10 (Eq.trans (Eq.symm (yM_p (h := h) (a := 95) (n := 20) (i := a.toNat) rfl (zit ib2))) (Eq.trans (congrFun (congrFun (rfl : yM h = yM h) 95) a.toNat) rfl))
        refine zwW_ret (nx := 68) (a := 0) (b := 0) (by decide +kernel) rfl (Or.inl rfl) ?_
        exact ⟨rfl, by omega, by unfold yDueA; (repeat' (first | rw [if_pos (by omega)] | rw [if_neg (by omega)])); all_goals (first | rfl | omega | (unfold yOwin at *; omega))⟩
      refine ⟨fun c11 => ?_, fun c11 => ?_⟩
      · show zwW _ _ _ 68 _ _ _ _
        refine zwW_p [(1, 0, 2)] (q := 69) (ls' := [(2, 37), (0, a), (0, b)]) (st' := [(2, 37)]) (by decide +kernel) rfl ?_
        refine zwW_gc I (kd := 13) (bn := 35) (n := 97) (c := 94) (nx := 72) (by decide +kernel) ?_
        refine zwW_p [(1, 1, 0)] (q := 73) (ls' := [(2, 37), (0, a), (0, b)]) (st' := [(0, a), (2, 94)]) (by decide +kernel) rfl ?_
        have ib3 : 0 ≤ a ∧ a < ((20 : Nat) : Int) := (by first | omega | exact ⟨by omega, by omega⟩)
        refine zwW_al I (a1 := 94) (a2 := 94) (kd := 20) (n := 20) (t := 0) (lo := -2147483648) (hi := 2147483647) (nx := 74) (by decide +kernel) (by first | decide | exact ⟨by decide, by decide⟩) ib3 ?_
        intro v12 ev12 lv12 uv12
        have sv12 : v12 = (yM h) 94 a.toNat := Eq.trans ev12 (Eq.trans (Eq.symm (yM_p (h := h) (a := 94) (n := 20) (i := a.toNat) rfl (zit ib3))) (Eq.trans (congrFun (congrFun (rfl : yM h = yM h) 94) a.toNat) rfl))
        refine zwW_p [(1, 0, 2)] (q := 75) (ls' := [(2, 37), (0, a), (0, b)]) (st' := [(2, 37), (0, v12)]) (by decide +kernel) rfl ?_
        refine zwW_gc I (kd := 13) (bn := 36) (n := 97) (c := 95) (nx := 78) (by decide +kernel) ?_
        refine zwW_p [(1, 1, 0)] (q := 79) (ls' := [(2, 37), (0, a), (0, b)]) (st' := [(0, a), (2, 95), (0, v12)]) (by decide +kernel) rfl ?_
        refine zwW_al I (a1 := 95) (a2 := 95) (kd := 20) (n := 20) (t := 0) (lo := -2147483648) (hi := 2147483647) (nx := 80) (by decide +kernel) (by first | decide | exact ⟨by decide, by decide⟩) ib3 ?_
        intro v13 ev13 lv13 uv13
        have sv13 : v13 = (yM h) 95 a.toNat := Eq.trans ev13 (Eq.trans (Eq.symm (yM_p (h := h) (a := 95) (n := 20) (i := a.toNat) rfl (zit ib3))) (Eq.trans (congrFun (congrFun (rfl : yM h = yM h) 95) a.toNat) rfl))
        refine zwW_sbw (nx := 81) (by decide +kernel) ?_
        intro v14 ev14 lv14 uv14
        have Ev14 : v14 = w32 (((yM h) 94 a.toNat) - ((yM h) 95 a.toNat)) := by rw [ev14, sv12, sv13]
        refine zwW_cs (k' := 129) (n := 1) (nx := 84) (as := [(0, v14)]) (st' := []) (by decide +kernel) rfl (m129 h v14 (by omega)) rfl ?_
        rintro v15 _ ⟨rfl, f16, f17, f18⟩
        refine zwW_ret (nx := 85) (a := 0) (b := 0) (by decide +kernel) rfl (Or.inl rfl) ?_
        exact ⟨rfl, by omega, by unfold yDueA; (repeat' (first | rw [if_pos (by omega)] | rw [if_neg (by omega)])); all_goals (first | rfl | omega | (unfold yOwin at *; omega))⟩
      refine ⟨fun c19 => ?_, fun c19 => ?_⟩
      · show zwW _ _ _ 85 _ _ _ _
        refine zwW_p [(1, 0, 2)] (q := 86) (ls' := [(2, 37), (0, a), (0, b)]) (st' := [(2, 37)]) (by decide +kernel) rfl ?_
        refine zwW_gc I (kd := 13) (bn := 37) (n := 97) (c := 96) (nx := 89) (by decide +kernel) ?_
        refine zwW_p [(1, 1, 0)] (q := 90) (ls' := [(2, 37), (0, a), (0, b)]) (st' := [(0, a), (2, 96)]) (by decide +kernel) rfl ?_
        have ib4 : 0 ≤ a ∧ a < ((20 : Nat) : Int) := (by first | omega | exact ⟨by omega, by omega⟩)
        refine zwW_al I (a1 := 96) (a2 := 96) (kd := 20) (n := 20) (t := 0) (lo := -2147483648) (hi := 2147483647) (nx := 91) (by decide +kernel) (by first | decide | exact ⟨by decide, by decide⟩) ib4 ?_
        intro v20 ev20 lv20 uv20
        have sv20 : v20 = (yM h) 96 a.toNat := Eq.trans ev20 (Eq.trans (Eq.symm (yM_p (h := h) (a := 96) (n := 20) (i := a.toNat) rfl (zit ib4))) (Eq.trans (congrFun (congrFun (rfl : yM h = yM h) 96) a.toNat) rfl))
        refine zwW_ret (nx := 92) (a := 0) (b := 0) (by decide +kernel) rfl (Or.inl rfl) ?_
        exact ⟨rfl, by omega, by unfold yDueA; (repeat' (first | rw [if_pos (by omega)] | rw [if_neg (by omega)])); all_goals (first | rfl | omega | (unfold yOwin at *; omega))⟩
      show zwW _ _ _ 92 _ _ _ _
      refine zwW_p [(0, -2147483648, 0)] (q := 95) (ls' := [(2, 37), (0, a), (0, b)]) (st' := [(0, -2147483648)]) (by decide +kernel) rfl ?_
      refine zwW_ret (nx := 96) (a := 0) (b := 0) (by decide +kernel) rfl (Or.inl rfl) ?_
      exact ⟨rfl, by omega, by unfold yDueA; (repeat' (first | rw [if_pos (by omega)] | rw [if_neg (by omega)])); all_goals (first | rfl | omega | (unfold yOwin at *; omega))⟩
    · exfalso; omega
  · refine zwif_ne (q := 12) (nx := 8) (by decide +kernel) (fun c21 => ?_) (fun c21 => ?_)
    · exfalso; omega
    · refine zwW_p [(0, -2147483648, 0)] (q := 11) (ls' := [(2, 37), (0, a), (0, b)]) (st' := [(0, -2147483648)]) (by decide +kernel) rfl ?_
      refine zwW_ret (nx := 12) (a := 0) (b := 0) (by decide +kernel) rfl (Or.inl rfl) ?_
      exact ⟨rfl, by omega, by unfold yDueA; (repeat' (first | rw [if_pos (by omega)] | rw [if_neg (by omega)])); all_goals (first | rfl | omega | (unfold yOwin at *; omega))⟩
-- WheelLandModel.force(II)I
theorem m76_z {sc : List Int} (h : Hp) (I : zI h) (a : Int) : zwC sc 2 76 [(2, 37), (0, a)] h (zwRt 0 (fun x g => h = g ∧ (-2147483648 ≤ x ∧ x ≤ 2147483647) ∧ (x = yHunA (yM h) a))) := by
  refine zwC_of (D := 1) 4 (by decide +kernel) rfl (ls := [(2, 37), (0, a), (9, 0), (9, 0)]) rfl ?_
  have u2 : yM h 37 2 = fld h 37 2 := rfl
  have B0 := I.b (a1 := 37) (a2 := 37) (j1 := 2) (j2 := 3) (lo := 0) (hi := 20) (by decide +kernel) (r := 37) (j := 2) (by decide) (by decide) (by decide) (by decide)
  refine zwW_p [(1, 1, 0), (7, 0, 0), (0, 1, 1), (0, 99, 1)] (q := 6) (ls' := [(2, 37), (0, a), (9, 0), (9, 0)]) (st' := [(1, 99), (1, 1), (1, a)]) (by decide +kernel) rfl ?_
  refine zwW_cs (k' := 101) (n := 3) (nx := 9) (as := [(1, a), (1, 1), (1, 99)]) (st' := []) (by decide +kernel) rfl (m101 h a 1 99) rfl ?_
  rintro x _ ⟨rfl, ⟨rfl, c1⟩ | ⟨rfl, c1⟩⟩
  · refine zwif_ne (q := 14) (nx := 12) (by decide +kernel) (fun c2 => ?_) (fun c2 => ?_)
    · refine zwW_p [(0, 0, 0), (2, 2, 0), (0, 0, 0), (2, 3, 0)] (q := 18) (ls' := [(2, 37), (0, a), (0, 0), (0, 0)]) (st' := []) (by decide +kernel) rfl ?_
      have L3 : ∀ (n0 : Nat) (nL3 qL3 : Int), n0 = ((100 - qL3)).toNat → (0 ≤ qL3 ∧ qL3 ≤ fld h 37 2) → (-2147483648 ≤ nL3 ∧ nL3 ≤ 2147483647) → (nL3 = (yHg (yM h) a (qL3).toNat)) → zwW sc (1) 76 18 [(2, 37), (0, a), (0, nL3), (0, qL3)] [] h (zwRt 0 (fun x g => h = g ∧ (-2147483648 ≤ x ∧ x ≤ 2147483647) ∧ (x = yHunA (yM h) a))) := by
        intro n0
        induction n0 using Nat.strongRecOn with
        | ind n0 IHL3 =>
          intro nL3 qL3 hnL3 iL3_0 iL3_1 iL3_2
          refine zwW_p [(1, 3, 0), (1, 0, 2)] (q := 20) (ls' := [(2, 37), (0, a), (0, nL3), (0, qL3)]) (st' := [(2, 37), (0, qL3)]) (by decide +kernel) rfl ?_
          refine zwW_gs I (kd := 13) (bn := 2) (n := 97) (t := 0) (lo := 0) (hi := 20) (nx := 23) (by decide +kernel) ?_
          intro v4 ev4 lv4 uv4
          have sv4 : v4 = (yM h) 37 2 := Eq.trans ev4 (Eq.trans (Eq.symm (yM_s (h := h) (i := 2) rfl)) (Eq.trans (congrFun (congrFun (rfl : yM h = yM h) 37) 2) rfl))
          refine zwic_ge (q := 59) (nx := 26) (by decide +kernel) (fun c5 => ?_) (fun c5 => ?_)
          · refine zwW_p [(1, 2, 0)] (q := 60) (ls' := [(2, 37), (0, a), (0, nL3), (0, qL3)]) (st' := [(0, nL3)]) (by decide +kernel) rfl ?_
            refine zwW_ret (nx := 61) (a := 0) (b := 0) (by decide +kernel) rfl (Or.inl rfl) ?_
            exact ⟨rfl, by omega, by unfold yHunA; (repeat' (first | rw [if_pos (by omega)] | rw [if_neg (by omega)])); all_goals (first | rfl | omega | (rw [show (yM h 37 2).toNat = (qL3).toNat by omega]; exact iL3_2))⟩
          · refine zwW_p [(1, 2, 0), (1, 0, 2)] (q := 28) (ls' := [(2, 37), (0, a), (0, nL3), (0, qL3)]) (st' := [(2, 37), (0, nL3)]) (by decide +kernel) rfl ?_
            refine zwW_gc I (kd := 13) (bn := 25) (n := 97) (c := 84) (nx := 31) (by decide +kernel) ?_
            refine zwW_p [(1, 3, 0)] (q := 32) (ls' := [(2, 37), (0, a), (0, nL3), (0, qL3)]) (st' := [(0, qL3), (2, 84), (0, nL3)]) (by decide +kernel) rfl ?_
            have ib1 : 0 ≤ qL3 ∧ qL3 < ((20 : Nat) : Int) := (by first | omega | exact ⟨by omega, by omega⟩)
            refine zwW_al I (a1 := 84) (a2 := 84) (kd := 20) (n := 20) (t := 0) (lo := -2147483648) (hi := 2147483647) (nx := 33) (by decide +kernel) (by first | decide | exact ⟨by decide, by decide⟩) ib1 ?_
            intro v6 ev6 lv6 uv6
            have sv6 : v6 = (yM h) 84 qL3.toNat := Eq.trans ev6 (Eq.trans (Eq.symm (yM_p (h := h) (a := 84) (n := 20) (i := qL3.toNat) rfl (zit ib1))) (Eq.trans (congrFun (congrFun (rfl : yM h = yM h) 84) qL3.toNat) rfl))
            refine zwW_p [(1, 0, 2)] (q := 34) (ls' := [(2, 37), (0, a), (0, nL3), (0, qL3)]) (st' := [(2, 37), (0, v6), (0, nL3)]) (by decide +kernel) rfl ?_
            refine zwW_gc I (kd := 13) (bn := 24) (n := 97) (c := 83) (nx := 37) (by decide +kernel) ?_
            refine zwW_p [(1, 3, 0)] (q := 38) (ls' := [(2, 37), (0, a), (0, nL3), (0, qL3)]) (st' := [(0, qL3), (2, 83), (0, v6), (0, nL3)]) (by decide +kernel) rfl ?_
            refine zwW_al I (a1 := 83) (a2 := 83) (kd := 20) (n := 20) (t := 0) (lo := 0) (hi := 9) (nx := 39) (by decide +kernel) (by first | decide | exact ⟨by decide, by decide⟩) ib1 ?_
            intro v7 ev7 lv7 uv7
            have sv7 : v7 = (yM h) 83 qL3.toNat := Eq.trans ev7 (Eq.trans (Eq.symm (yM_p (h := h) (a := 83) (n := 20) (i := qL3.toNat) rfl (zit ib1))) (Eq.trans (congrFun (congrFun (rfl : yM h = yM h) 83) qL3.toNat) rfl))
            refine zwW_p [(1, 1, 0)] (q := 40) (ls' := [(2, 37), (0, a), (0, nL3), (0, qL3)]) (st' := [(0, a), (0, v7), (0, v6), (0, nL3)]) (by decide +kernel) rfl ?_
            refine zwW_mulp (A := 9) (B := 99) (nx := 41) (by decide +kernel) (by first | omega | exact ⟨by omega, by omega⟩) (by first | omega | exact ⟨by omega, by omega⟩) (by decide) ?_
            intro v8 ev8 lv8 uv8
            have Ev8 : v8 = ((yM h) 83 qL3.toNat) * a := by rw [ev8, sv7]
            refine zwic_ge (q := 50) (nx := 44) (by decide +kernel) (fun c9 => ?_) (fun c9 => ?_)
            · refine zwW_p [(0, 0, 0)] (q := 51) (ls' := [(2, 37), (0, a), (0, nL3), (0, qL3)]) (st' := [(0, 0), (0, nL3)]) (by decide +kernel) rfl ?_
              refine zwW_ib (a := 6) (nx := 52) (by decide +kernel) rfl ?_
              refine zwW_p [(2, 2, 0)] (q := 53) (ls' := [(2, 37), (0, a), (0, (i_or nL3 0)), (0, qL3)]) (st' := []) (by decide +kernel) rfl ?_
              refine zwW_inc (i := 3) (c := 1) (x := qL3) (nx := 56) (by decide +kernel) rfl (by first | omega | exact ⟨by omega, by omega⟩) (ls' := [(2, 37), (0, a), (0, (i_or nL3 0)), (0, (qL3 + 1))]) rfl ?_
              refine zwW_p [(24, 18, 0)] (q := 18) (ls' := [(2, 37), (0, a), (0, (i_or nL3 0)), (0, (qL3 + 1))]) (st' := []) (by decide +kernel) rfl ?_
              exact IHL3 ((100 - (qL3 + 1))).toNat (by omega) (i_or nL3 0) (qL3 + 1) rfl (by omega) (by first | omega | exact i_or_in) (by rw [show (qL3 + 1).toNat = (qL3).toNat + 1 by omega]; unfold yHg; first | (rw [if_pos (by omega), ← iL3_2, show (((qL3).toNat : Nat) : Int) = qL3 by omega]) | (rw [if_neg (by omega), ← iL3_2, i_or_0 ⟨by omega, by omega⟩]))
            · refine zwW_p [(0, 1, 0), (1, 3, 0)] (q := 46) (ls' := [(2, 37), (0, a), (0, nL3), (0, qL3)]) (st' := [(0, qL3), (0, 1), (0, nL3)]) (by decide +kernel) rfl ?_
              refine zwW_ib (a := 8) (nx := 47) (by decide +kernel) rfl ?_
              refine zwW_p [(24, 51, 0)] (q := 51) (ls' := [(2, 37), (0, a), (0, nL3), (0, qL3)]) (st' := [(0, (i_shl 1 qL3)), (0, nL3)]) (by decide +kernel) rfl ?_
              refine zwW_ib (a := 6) (nx := 52) (by decide +kernel) rfl ?_
              refine zwW_p [(2, 2, 0)] (q := 53) (ls' := [(2, 37), (0, a), (0, (i_or nL3 (i_shl 1 qL3))), (0, qL3)]) (st' := []) (by decide +kernel) rfl ?_
              refine zwW_inc (i := 3) (c := 1) (x := qL3) (nx := 56) (by decide +kernel) rfl (by first | omega | exact ⟨by omega, by omega⟩) (ls' := [(2, 37), (0, a), (0, (i_or nL3 (i_shl 1 qL3))), (0, (qL3 + 1))]) rfl ?_
              refine zwW_p [(24, 18, 0)] (q := 18) (ls' := [(2, 37), (0, a), (0, (i_or nL3 (i_shl 1 qL3))), (0, (qL3 + 1))]) (st' := []) (by decide +kernel) rfl ?_
              exact IHL3 ((100 - (qL3 + 1))).toNat (by omega) (i_or nL3 (i_shl 1 qL3)) (qL3 + 1) rfl (by omega) (by first | omega | exact i_or_in) (by rw [show (qL3 + 1).toNat = (qL3).toNat + 1 by omega]; unfold yHg; first | (rw [if_pos (by omega), ← iL3_2, show (((qL3).toNat : Nat) : Int) = qL3 by omega]) | (rw [if_neg (by omega), ← iL3_2, i_or_0 ⟨by omega, by omega⟩]))
      exact L3 _ 0 0 rfl (by omega) (by omega) (rfl)
    · exfalso; omega
  · refine zwif_ne (q := 14) (nx := 12) (by decide +kernel) (fun c10 => ?_) (fun c10 => ?_)
    · exfalso; omega
    · refine zwW_p [(0, -1, 0)] (q := 13) (ls' := [(2, 37), (0, a), (9, 0), (9, 0)]) (st' := [(0, -1)]) (by decide +kernel) rfl ?_
      refine zwW_ret (nx := 14) (a := 0) (b := 0) (by decide +kernel) rfl (Or.inl rfl) ?_
      exact ⟨rfl, by omega, by unfold yHunA; (repeat' (first | rw [if_neg (by omega)] | rw [if_pos (by omega)])); all_goals (first | rfl | omega | (rw [show (yM h 37 2).toNat = (a).toNat by omega]; exact rfl))⟩
end
section
/-! contracts of the class -/
-- WheelLand$Village.mostFalse()I
theorem x158_z {sc : List Int} (h : Hp) (C : CI h) (r : Int) (G_r : gV h r) (J : yR h) (k : Nat) (P_r : r = zv h 2 k ∧ (k : Int) < fld h 2 2) : zwC sc 1 158 [(2, r)] h (zwRt 0 (fun x g => h = g ∧ (-2147483648 ≤ x ∧ x ≤ 2147483647) ∧ (x = yFls (yC h) k 1))) := by
  refine zwC_of (D := 0) 1 (by decide +kernel) rfl (ls := [(2, r)]) rfl ?_
  have lw_r := G_r.1
  have u0 : yC h 37 0 = fld h 1 0 := rfl
  have u1 : yC h 37 1 = fld h 2 2 := rfl
  have u2 : yC h 37 2 = fld h 3 2 := rfl
  have u64 : yC h 37 64 = fld h 4 2 := rfl
  have u78 : yC h 37 78 = fld h 5 2 := rfl
  refine zwW_p [(1, 0, 2)] (q := 1) (ls' := [(2, r)]) (st' := [(2, r)]) (by decide +kernel) rfl ?_
  refine zwX_gi C (kd := 11) (bn := 11) (n := 17) (nx := 4) (by decide +kernel) G_r.2.1 G_r.1 rfl ?_
  intro v1 ev1 lv1 uv1
  have sv1 : v1 = (yC h) 74 k := Eq.trans ev1 (Eq.trans (congrArg (fun q => fld h q 11) P_r.1) (Eq.trans (Eq.symm (yC_f (h := h) (a := 74) (A := 2) (j := 11) (i := k) rfl P_r.2)) (Eq.trans (congrFun (congrFun (rfl : yC h = yC h) 74) k) rfl)))
  refine zwW_p [(1, 0, 2)] (q := 5) (ls' := [(2, r)]) (st' := [(2, r), (0, v1)]) (by decide +kernel) rfl ?_
  refine zwX_gi C (kd := 11) (bn := 13) (n := 17) (nx := 8) (by decide +kernel) G_r.2.1 G_r.1 rfl ?_
  intro v2 ev2 lv2 uv2
  have sv2 : v2 = (yC h) 76 k := Eq.trans ev2 (Eq.trans (congrArg (fun q => fld h q 13) P_r.1) (Eq.trans (Eq.symm (yC_f (h := h) (a := 76) (A := 2) (j := 13) (i := k) rfl P_r.2)) (Eq.trans (congrFun (congrFun (rfl : yC h = yC h) 76) k) rfl)))
  refine zwW_sbw (nx := 9) (by decide +kernel) ?_
  intro v3 ev3 lv3 uv3
  have Ev3 : v3 = w32 (((yC h) 74 k) - ((yC h) 76 k)) := by rw [ev3, sv1, sv2]
  refine zwW_p [(0, 0, 0)] (q := 10) (ls' := [(2, r)]) (st' := [(0, 0), (0, v3)]) (by decide +kernel) rfl ?_
  refine zwW_max (nx := 13) (by decide +kernel) rfl ?_
  intro v4 ev4
  have Ev4 : v4 = max (w32 (((yC h) 74 k) - ((yC h) 76 k))) 0 := by rw [ev4, Ev3]
  refine zwW_ret (nx := 14) (a := 0) (b := 0) (by decide +kernel) rfl (Or.inl rfl) ?_
  exact ⟨rfl, by omega, by unfold yFls; (repeat' (first | rw [if_pos (by omega)] | rw [if_neg (by omega)])); all_goals (first | rfl | omega)⟩
-- WheelLand$Village.surelyFalse()I
theorem x159_z {sc : List Int} (h : Hp) (C : CI h) (r : Int) (G_r : gV h r) (J : yR h) (k : Nat) (P_r : r = zv h 2 k ∧ (k : Int) < fld h 2 2) : zwC sc 1 159 [(2, r)] h (zwRt 0 (fun x g => h = g ∧ (-2147483648 ≤ x ∧ x ≤ 2147483647) ∧ (x = yFls (yC h) k 0))) := by
  refine zwC_of (D := 0) 1 (by decide +kernel) rfl (ls := [(2, r)]) rfl ?_
  have lw_r := G_r.1
  have u0 : yC h 37 0 = fld h 1 0 := rfl
  have u1 : yC h 37 1 = fld h 2 2 := rfl
  have u2 : yC h 37 2 = fld h 3 2 := rfl
  have u64 : yC h 37 64 = fld h 4 2 := rfl
  have u78 : yC h 37 78 = fld h 5 2 := rfl
  refine zwW_p [(1, 0, 2)] (q := 1) (ls' := [(2, r)]) (st' := [(2, r)]) (by decide +kernel) rfl ?_
  refine zwX_gi C (kd := 11) (bn := 11) (n := 17) (nx := 4) (by decide +kernel) G_r.2.1 G_r.1 rfl ?_
  intro v1 ev1 lv1 uv1
  have sv1 : v1 = (yC h) 74 k := Eq.trans ev1 (Eq.trans (congrArg (fun q => fld h q 11) P_r.1) (Eq.trans (Eq.symm (yC_f (h := h) (a := 74) (A := 2) (j := 11) (i := k) rfl P_r.2)) (Eq.trans (congrFun (congrFun (rfl : yC h = yC h) 74) k) rfl)))
  refine zwW_p [(1, 0, 2)] (q := 5) (ls' := [(2, r)]) (st' := [(2, r), (0, v1)]) (by decide +kernel) rfl ?_
  refine zwX_gi C (kd := 11) (bn := 12) (n := 17) (nx := 8) (by decide +kernel) G_r.2.1 G_r.1 rfl ?_
  intro v2 ev2 lv2 uv2
  have sv2 : v2 = (yC h) 75 k := Eq.trans ev2 (Eq.trans (congrArg (fun q => fld h q 12) P_r.1) (Eq.trans (Eq.symm (yC_f (h := h) (a := 75) (A := 2) (j := 12) (i := k) rfl P_r.2)) (Eq.trans (congrFun (congrFun (rfl : yC h = yC h) 75) k) rfl)))
  refine zwW_sbw (nx := 9) (by decide +kernel) ?_
  intro v3 ev3 lv3 uv3
  have Ev3 : v3 = w32 (((yC h) 74 k) - ((yC h) 75 k)) := by rw [ev3, sv1, sv2]
  refine zwW_p [(0, 0, 0)] (q := 10) (ls' := [(2, r)]) (st' := [(0, 0), (0, v3)]) (by decide +kernel) rfl ?_
  refine zwW_max (nx := 13) (by decide +kernel) rfl ?_
  intro v4 ev4
  have Ev4 : v4 = max (w32 (((yC h) 74 k) - ((yC h) 75 k))) 0 := by rw [ev4, Ev3]
  refine zwW_ret (nx := 14) (a := 0) (b := 0) (by decide +kernel) rfl (Or.inl rfl) ?_
  exact ⟨rfl, by omega, by unfold yFls; (repeat' (first | rw [if_pos (by omega)] | rw [if_neg (by omega)])); all_goals (first | rfl | omega)⟩
def msx15_z : Zms := [(1004, 1004, 6, 7)]
-- WheelLand.coins(II)I
theorem x15_z {sc : List Int} (h : Hp) (C : CI h) (a b : Int) (q_a : -2147483648 ≤ a ∧ a ≤ 2147483647) (q_b : -2147483648 ≤ b ∧ b ≤ 2147483647) (J : yR h) : zwC sc 6 15 [(2, 1), (0, a), (0, b)] h (zwRt 0 (fun x g => CI g ∧ zXR msx15_z (0) (0) h g ∧ (-2147483648 ≤ x ∧ x ≤ 2147483647) ∧ (x = yCoinA (yC h) a b) ∧ (yC g = yCoin (yC h) a b) ∧ (yR g))) := by
  refine zwC_of (D := 5) 4 (by decide +kernel) rfl (ls := [(2, 1), (0, a), (0, b), (9, 0)]) rfl ?_
  have X : zXR msx15_z 0 0 h h := zXR.rf _ _
  have u0 : yC h 37 0 = fld h 1 0 := rfl
  have u1 : yC h 37 1 = fld h 2 2 := rfl
  have u2 : yC h 37 2 = fld h 3 2 := rfl
  have u64 : yC h 37 64 = fld h 4 2 := rfl
  have u78 : yC h 37 78 = fld h 5 2 := rfl
  refine zwW_p [(1, 0, 2), (1, 1, 0)] (q := 2) (ls' := [(2, 1), (0, a), (0, b), (9, 0)]) (st' := [(0, a), (2, 1)]) (by decide +kernel) rfl ?_
  refine zwW_cm C.1 (op := 60) (k' := 109) (n := 1) (kd := 12) (m := 13) (nx := 5) (r := 1) (tl := [(0, a)]) (st' := []) (by decide +kernel) rfl (by decide +kernel) rfl (x109 h C a (by omega)) ?_
  rintro v2 _ ⟨rfl, ⟨rfl, c1⟩ | ⟨Gv2, c1⟩⟩
  · refine zwW_p [(2, 3, 2), (1, 3, 2)] (q := 7) (ls' := [(2, 1), (0, a), (0, b), (2, 0)]) (st' := [(2, 0)]) (by decide +kernel) rfl ?_
    refine zwnu_eq (q := 23) (nx := 10) (by decide +kernel) (by decide) (fun c3 => ?_) (fun c3 => ?_)
    · refine zwW_p [(0, -2147483648, 0)] (q := 25) (ls' := [(2, 1), (0, a), (0, b), (2, 0)]) (st' := [(0, -2147483648)]) (by decide +kernel) rfl ?_
      refine zwW_ret (nx := 26) (a := 0) (b := 0) (by decide +kernel) rfl (Or.inl rfl) ?_
      exact ⟨C, X.le (by decide) (by decide), by omega, by unfold yCoinA; (repeat' (first | rw [if_pos (by omega)] | rw [if_neg (by omega)])); all_goals (first | rfl | omega), by refine Eq.trans (rfl : yC h = yC h) ?_; unfold yCoin; (repeat' (first | rw [if_pos (by omega)] | rw [if_neg (by omega)])); all_goals (repeat' (first | rfl | apply zs_cg | omega)), by exact J⟩
    · exfalso; omega
  · have lv2 := Gv2.1
    have ev2 := c1.2.2
    have pv2 : v2 = zv h 3 a.toNat ∧ ((a.toNat : Nat) : Int) < fld h 3 2 := ⟨ev2, by omega⟩
    refine zwW_p [(2, 3, 2), (1, 3, 2)] (q := 7) (ls' := [(2, 1), (0, a), (0, b), (2, v2)]) (st' := [(2, v2)]) (by decide +kernel) rfl ?_
    refine zwnu_eq (q := 23) (nx := 10) (by decide +kernel) (by omega) (fun c4 => ?_) (fun c4 => ?_)
    · exfalso; omega
    · refine zwW_p [(1, 2, 0), (0, -9999, 0), (0, 9999, 0)] (q := 17) (ls' := [(2, 1), (0, a), (0, b), (2, v2)]) (st' := [(0, 9999), (0, -9999), (0, b)]) (by decide +kernel) rfl ?_
      refine zwW_cs (k' := 98) (n := 3) (nx := 20) (as := [(0, b), (0, -9999), (0, 9999)]) (st' := []) (by decide +kernel) rfl (x98 h C b (-9999) 9999 (by omega) (by omega) (by omega)) rfl ?_
      rintro x _ ⟨rfl, ⟨rfl, c5⟩ | ⟨rfl, c5⟩⟩
      · refine zwif_eq (q := 26) (nx := 23) (by decide +kernel) (fun c6 => ?_) (fun c6 => ?_)
        · exfalso; omega
        · refine zwW_p [(0, -2147483648, 0)] (q := 25) (ls' := [(2, 1), (0, a), (0, b), (2, v2)]) (st' := [(0, -2147483648)]) (by decide +kernel) rfl ?_
          refine zwW_ret (nx := 26) (a := 0) (b := 0) (by decide +kernel) rfl (Or.inl rfl) ?_
          exact ⟨C, X.le (by decide) (by decide), by omega, by unfold yCoinA; (repeat' (first | rw [if_pos (by omega)] | rw [if_neg (by omega)])); all_goals (first | rfl | omega), by refine Eq.trans (rfl : yC h = yC h) ?_; unfold yCoin; (repeat' (first | rw [if_pos (by omega)] | rw [if_neg (by omega)])); all_goals (repeat' (first | rfl | apply zs_cg | omega)), by exact J⟩
      · refine zwif_eq (q := 26) (nx := 23) (by decide +kernel) (fun c7 => ?_) (fun c7 => ?_)
        · refine zwW_p [(1, 3, 2), (12, 0, 0)] (q := 28) (ls' := [(2, 1), (0, a), (0, b), (2, v2)]) (st' := [(2, v2), (2, v2)]) (by decide +kernel) rfl ?_
          refine zwX_gi C (kd := 4) (bn := 6) (n := 19) (nx := 31) (by decide +kernel) Gv2.2.1 Gv2.1 rfl ?_
          intro v8 ev8 lv8 uv8
          have sv8 : v8 = (yC h) 84 a.toNat := Eq.trans ev8 (Eq.trans (congrArg (fun q => fld h q 6) pv2.1) (Eq.trans (Eq.symm (yC_f (h := h) (a := 84) (A := 3) (j := 6) (i := a.toNat) rfl pv2.2)) (Eq.trans (congrFun (congrFun (rfl : yC h = yC h) 84) a.toNat) rfl)))
          refine zwW_p [(1, 2, 0)] (q := 32) (ls' := [(2, 1), (0, a), (0, b), (2, v2)]) (st' := [(0, b), (0, v8), (2, v2)]) (by decide +kernel) rfl ?_
          refine zwW_adw (nx := 33) (by decide +kernel) ?_
          intro v9 ev9 lv9 uv9
          have Ev9 : v9 = w32 (((yC h) 84 a.toNat) + b) := by rw [ev9, sv8]
          refine zwX_pi C (kd := 4) (bn := 6) (n := 19) (nx := 36) (by decide +kernel) Gv2.2.1 Gv2.1 (by first | omega | exact ⟨by omega, by omega⟩) ?_
          rintro h10 eh10 Ch10 Qh10
          have Zh10 : yC h10 = (zs (yC h) 84 a.toNat (w32 (((yC h) 84 a.toNat) + b))) := by rw [yC_w (a := 84) (A := 3) (j := 6) (k := a.toNat) C J rfl pv2 eh10, Ev9]
          have Xh10 : zXR msx15_z (0) (0) h h10 := X.tr (c2 := 0) (s2 := 0) Qh10 (by decide +kernel) (by decide) (by decide)
          have Gh10_0 : gH h10 v2 := Gv2.x Qh10
          have Jh10 : yR h10 := J.fr C Qh10 (by decide +kernel)
          have pv2_h10 : v2 = zv h10 3 a.toNat ∧ ((a.toNat : Nat) : Int) < fld h10 3 2 := zpv C Qh10 (A := 3) (by decide) (by decide +kernel) pv2
          refine zwW_p [(1, 3, 2)] (q := 37) (ls' := [(2, 1), (0, a), (0, b), (2, v2)]) (st' := [(2, v2)]) (by decide +kernel) rfl ?_
          refine zwX_gi Ch10 (kd := 4) (bn := 6) (n := 19) (nx := 40) (by decide +kernel) Gh10_0.2.1 Gh10_0.1 rfl ?_
          intro v11 ev11 lv11 uv11
          have wv11 : v11 = v9 := by rw [ev11, eh10]; exact fld_wr_eq Gv2.2.1 (by decide)
          have sv11 : v11 = (w32 (((yC h) 84 a.toNat) + b)) := Eq.trans ev11 (Eq.trans (congrArg (fun q => fld h10 q 6) pv2_h10.1) (Eq.trans (Eq.symm (yC_f (h := h10) (a := 84) (A := 3) (j := 6) (i := a.toNat) rfl pv2_h10.2)) (Eq.trans (congrFun (congrFun Zh10 84) a.toNat) (zs_eq : (zs (yC h) 84 a.toNat (w32 (((yC h) 84 a.toNat) + b))) 84 a.toNat = (w32 (((yC h) 84 a.toNat) + b))))))
          refine zwW_ret (nx := 41) (a := 0) (b := 0) (by decide +kernel) rfl (Or.inl rfl) ?_
          exact ⟨Ch10, Xh10.le (by decide) (by decide), by omega, by unfold yCoinA; (repeat' (first | rw [if_pos (by omega)] | rw [if_neg (by omega)])); all_goals (first | rfl | omega), by refine Eq.trans Zh10 ?_; unfold yCoin; (repeat' (first | rw [if_pos (by omega)] | rw [if_neg (by omega)])); all_goals (repeat' (first | rfl | apply zs_cg | omega)), by exact Jh10⟩
        · exfalso; omega
def msx17_z : Zms := [(1011, 1011, 3, 4)]
-- WheelLand.cotton(II)I
theorem x17_z {sc : List Int} (h : Hp) (C : CI h) (a b : Int) (q_a : -2147483648 ≤ a ∧ a ≤ 2147483647) (q_b : -2147483648 ≤ b ∧ b ≤ 2147483647) (J : yR h) : zwC sc 6 17 [(2, 1), (0, a), (0, b)] h (zwRt 0 (fun x g => CI g ∧ zXR msx17_z (0) (0) h g ∧ (-2147483648 ≤ x ∧ x ≤ 2147483647) ∧ (x = yCottA (yC h) a b) ∧ (yC g = yCott (yC h) a b) ∧ (yR g))) := by
  refine zwC_of (D := 5) 4 (by decide +kernel) rfl (ls := [(2, 1), (0, a), (0, b), (9, 0)]) rfl ?_
  have X : zXR msx17_z 0 0 h h := zXR.rf _ _
  have u0 : yC h 37 0 = fld h 1 0 := rfl
  have u1 : yC h 37 1 = fld h 2 2 := rfl
  have u2 : yC h 37 2 = fld h 3 2 := rfl
  have u64 : yC h 37 64 = fld h 4 2 := rfl
  have u78 : yC h 37 78 = fld h 5 2 := rfl
  refine zwW_p [(1, 0, 2), (1, 1, 0)] (q := 2) (ls' := [(2, 1), (0, a), (0, b), (9, 0)]) (st' := [(0, a), (2, 1)]) (by decide +kernel) rfl ?_
  refine zwW_cm C.1 (op := 60) (k' := 102) (n := 1) (kd := 12) (m := 13) (nx := 5) (r := 1) (tl := [(0, a)]) (st' := []) (by decide +kernel) rfl (by decide +kernel) rfl (x102 h C a (by omega)) ?_
  rintro v2 _ ⟨rfl, ⟨rfl, c1⟩ | ⟨Gv2, c1⟩⟩
  · refine zwW_p [(2, 3, 2), (1, 3, 2)] (q := 7) (ls' := [(2, 1), (0, a), (0, b), (2, 0)]) (st' := [(2, 0)]) (by decide +kernel) rfl ?_
    refine zwnu_eq (q := 33) (nx := 10) (by decide +kernel) (by decide) (fun c3 => ?_) (fun c3 => ?_)
    · refine zwW_p [(0, -1, 0)] (q := 34) (ls' := [(2, 1), (0, a), (0, b), (2, 0)]) (st' := [(0, -1)]) (by decide +kernel) rfl ?_
      refine zwW_ret (nx := 35) (a := 0) (b := 0) (by decide +kernel) rfl (Or.inl rfl) ?_
      exact ⟨C, X.le (by decide) (by decide), by omega, by unfold yCottA; (repeat' (first | rw [if_neg (by omega)] | rw [if_pos (by omega)])); all_goals (first | rfl | omega), by refine Eq.trans (rfl : yC h = yC h) ?_; unfold yCott; (repeat' (first | rw [if_neg (by omega)] | rw [if_pos (by omega)])); all_goals (repeat' (first | rfl | apply zs_cg | omega)), by exact J⟩
    · exfalso; omega
  · have lv2 := Gv2.1
    have ev2 := c1.2.2
    have pv2 : v2 = zv h 2 a.toNat ∧ ((a.toNat : Nat) : Int) < fld h 2 2 := ⟨ev2, by omega⟩
    refine zwW_p [(2, 3, 2), (1, 3, 2)] (q := 7) (ls' := [(2, 1), (0, a), (0, b), (2, v2)]) (st' := [(2, v2)]) (by decide +kernel) rfl ?_
    refine zwnu_eq (q := 33) (nx := 10) (by decide +kernel) (by omega) (fun c4 => ?_) (fun c4 => ?_)
    · exfalso; omega
    · refine zwW_p [(1, 2, 0), (0, 1, 0), (0, 999, 0)] (q := 15) (ls' := [(2, 1), (0, a), (0, b), (2, v2)]) (st' := [(0, 999), (0, 1), (0, b)]) (by decide +kernel) rfl ?_
      refine zwW_cs (k' := 98) (n := 3) (nx := 18) (as := [(0, b), (0, 1), (0, 999)]) (st' := []) (by decide +kernel) rfl (x98 h C b 1 999 (by omega) (by omega) (by omega)) rfl ?_
      rintro x _ ⟨rfl, ⟨rfl, c5⟩ | ⟨rfl, c5⟩⟩
      · refine zwif_ne (q := 33) (nx := 21) (by decide +kernel) (fun c6 => ?_) (fun c6 => ?_)
        · refine zwW_p [(0, -1, 0)] (q := 34) (ls' := [(2, 1), (0, a), (0, b), (2, v2)]) (st' := [(0, -1)]) (by decide +kernel) rfl ?_
          refine zwW_ret (nx := 35) (a := 0) (b := 0) (by decide +kernel) rfl (Or.inl rfl) ?_
          exact ⟨C, X.le (by decide) (by decide), by omega, by unfold yCottA; (repeat' (first | rw [if_neg (by omega)] | rw [if_pos (by omega)])); all_goals (first | rfl | omega), by refine Eq.trans (rfl : yC h = yC h) ?_; unfold yCott; (repeat' (first | rw [if_neg (by omega)] | rw [if_pos (by omega)])); all_goals (repeat' (first | rfl | apply zs_cg | omega)), by exact J⟩
        · exfalso; omega
      · refine zwif_ne (q := 33) (nx := 21) (by decide +kernel) (fun c7 => ?_) (fun c7 => ?_)
        · exfalso; omega
        · refine zwW_p [(1, 3, 2)] (q := 22) (ls' := [(2, 1), (0, a), (0, b), (2, v2)]) (st' := [(2, v2)]) (by decide +kernel) rfl ?_
          refine zwX_gi C (kd := 11) (bn := 3) (n := 17) (nx := 25) (by decide +kernel) Gv2.2.1 Gv2.1 rfl ?_
          intro v8 ev8 lv8 uv8
          have sv8 : v8 = (yC h) 66 a.toNat := Eq.trans ev8 (Eq.trans (congrArg (fun q => fld h q 3) pv2.1) (Eq.trans (Eq.symm (yC_f (h := h) (a := 66) (A := 2) (j := 3) (i := a.toNat) rfl pv2.2)) (Eq.trans (congrFun (congrFun (rfl : yC h = yC h) 66) a.toNat) rfl)))
          refine zwW_p [(1, 2, 0)] (q := 26) (ls' := [(2, 1), (0, a), (0, b), (2, v2)]) (st' := [(0, b), (0, v8)]) (by decide +kernel) rfl ?_
          refine zwW_adw (nx := 27) (by decide +kernel) ?_
          intro v9 ev9 lv9 uv9
          have Ev9 : v9 = w32 (((yC h) 66 a.toNat) + b) := by rw [ev9, sv8]
          refine zwW_p [(0, 9999, 0)] (q := 30) (ls' := [(2, 1), (0, a), (0, b), (2, v2)]) (st' := [(0, 9999), (0, v9)]) (by decide +kernel) rfl ?_
          refine zwic_le (q := 35) (nx := 33) (by decide +kernel) (fun c10 => ?_) (fun c10 => ?_)
          · refine zwW_p [(1, 3, 2), (12, 0, 0)] (q := 37) (ls' := [(2, 1), (0, a), (0, b), (2, v2)]) (st' := [(2, v2), (2, v2)]) (by decide +kernel) rfl ?_
            refine zwX_gi C (kd := 11) (bn := 3) (n := 17) (nx := 40) (by decide +kernel) Gv2.2.1 Gv2.1 rfl ?_
            intro v11 ev11 lv11 uv11
            have sv11 : v11 = (yC h) 66 a.toNat := Eq.trans ev11 (Eq.trans (congrArg (fun q => fld h q 3) pv2.1) (Eq.trans (Eq.symm (yC_f (h := h) (a := 66) (A := 2) (j := 3) (i := a.toNat) rfl pv2.2)) (Eq.trans (congrFun (congrFun (rfl : yC h = yC h) 66) a.toNat) rfl)))
            refine zwW_p [(1, 2, 0)] (q := 41) (ls' := [(2, 1), (0, a), (0, b), (2, v2)]) (st' := [(0, b), (0, v11), (2, v2)]) (by decide +kernel) rfl ?_
            refine zwW_adw (nx := 42) (by decide +kernel) ?_
            intro v12 ev12 lv12 uv12
            have Ev12 : v12 = w32 (((yC h) 66 a.toNat) + b) := by rw [ev12, sv11]
            refine zwX_pi C (kd := 11) (bn := 3) (n := 17) (nx := 45) (by decide +kernel) Gv2.2.1 Gv2.1 (by first | omega | exact ⟨by omega, by omega⟩) ?_
            rintro h13 eh13 Ch13 Qh13
            have Zh13 : yC h13 = (zs (yC h) 66 a.toNat (w32 (((yC h) 66 a.toNat) + b))) := by rw [yC_w (a := 66) (A := 2) (j := 3) (k := a.toNat) C J rfl pv2 eh13, Ev12]
            have Xh13 : zXR msx17_z (0) (0) h h13 := X.tr (c2 := 0) (s2 := 0) Qh13 (by decide +kernel) (by decide) (by decide)
            have Gh13_0 : gV h13 v2 := Gv2.x Qh13
            have Jh13 : yR h13 := J.fr C Qh13 (by decide +kernel)
            have pv2_h13 : v2 = zv h13 2 a.toNat ∧ ((a.toNat : Nat) : Int) < fld h13 2 2 := zpv C Qh13 (A := 2) (by decide) (by decide +kernel) pv2
            refine zwW_p [(1, 3, 2)] (q := 46) (ls' := [(2, 1), (0, a), (0, b), (2, v2)]) (st' := [(2, v2)]) (by decide +kernel) rfl ?_
            refine zwX_gi Ch13 (kd := 11) (bn := 3) (n := 17) (nx := 49) (by decide +kernel) Gh13_0.2.1 Gh13_0.1 rfl ?_
            intro v14 ev14 lv14 uv14
            have wv14 : v14 = v12 := by rw [ev14, eh13]; exact fld_wr_eq Gv2.2.1 (by decide)
            have sv14 : v14 = (w32 (((yC h) 66 a.toNat) + b)) := Eq.trans ev14 (Eq.trans (congrArg (fun q => fld h13 q 3) pv2_h13.1) (Eq.trans (Eq.symm (yC_f (h := h13) (a := 66) (A := 2) (j := 3) (i := a.toNat) rfl pv2_h13.2)) (Eq.trans (congrFun (congrFun Zh13 66) a.toNat) (zs_eq : (zs (yC h) 66 a.toNat (w32 (((yC h) 66 a.toNat) + b))) 66 a.toNat = (w32 (((yC h) 66 a.toNat) + b))))))
            refine zwW_ret (nx := 50) (a := 0) (b := 0) (by decide +kernel) rfl (Or.inl rfl) ?_
            exact ⟨Ch13, Xh13.le (by decide) (by decide), by omega, by unfold yCottA; (repeat' (first | rw [if_pos (by omega)] | rw [if_neg (by omega)])); all_goals (first | rfl | omega), by refine Eq.trans Zh13 ?_; unfold yCott; (repeat' (first | rw [if_pos (by omega)] | rw [if_neg (by omega)])); all_goals (repeat' (first | rfl | apply zs_cg | omega)), by exact Jh13⟩
          · refine zwW_p [(0, -1, 0)] (q := 34) (ls' := [(2, 1), (0, a), (0, b), (2, v2)]) (st' := [(0, -1)]) (by decide +kernel) rfl ?_
            refine zwW_ret (nx := 35) (a := 0) (b := 0) (by decide +kernel) rfl (Or.inl rfl) ?_
            exact ⟨C, X.le (by decide) (by decide), by omega, by unfold yCottA; (repeat' (first | rw [if_neg (by omega)] | rw [if_pos (by omega)])); all_goals (first | rfl | omega), by refine Eq.trans (rfl : yC h = yC h) ?_; unfold yCott; (repeat' (first | rw [if_neg (by omega)] | rw [if_pos (by omega)])); all_goals (repeat' (first | rfl | apply zs_cg | omega)), by exact J⟩
def msx53_z : Zms := [(1011, 1011, 7, 8)]
-- WheelLand.mill(II)I
theorem x53_z {sc : List Int} (h : Hp) (C : CI h) (a b : Int) (q_a : -2147483648 ≤ a ∧ a ≤ 2147483647) (q_b : -2147483648 ≤ b ∧ b ≤ 2147483647) (J : yR h) : zwC sc 6 53 [(2, 1), (0, a), (0, b)] h (zwRt 0 (fun x g => CI g ∧ zXR msx53_z (0) (0) h g ∧ (-2147483648 ≤ x ∧ x ≤ 2147483647) ∧ (x = yMillA (yC h) a b) ∧ (yC g = yMill (yC h) a b) ∧ (yR g))) := by
  refine zwC_of (D := 5) 4 (by decide +kernel) rfl (ls := [(2, 1), (0, a), (0, b), (9, 0)]) rfl ?_
  have X : zXR msx53_z 0 0 h h := zXR.rf _ _
  have u0 : yC h 37 0 = fld h 1 0 := rfl
  have u1 : yC h 37 1 = fld h 2 2 := rfl
  have u2 : yC h 37 2 = fld h 3 2 := rfl
  have u64 : yC h 37 64 = fld h 4 2 := rfl
  have u78 : yC h 37 78 = fld h 5 2 := rfl
  refine zwW_p [(1, 0, 2), (1, 1, 0)] (q := 2) (ls' := [(2, 1), (0, a), (0, b), (9, 0)]) (st' := [(0, a), (2, 1)]) (by decide +kernel) rfl ?_
  refine zwW_cm C.1 (op := 60) (k' := 102) (n := 1) (kd := 12) (m := 13) (nx := 5) (r := 1) (tl := [(0, a)]) (st' := []) (by decide +kernel) rfl (by decide +kernel) rfl (x102 h C a (by omega)) ?_
  rintro v2 _ ⟨rfl, ⟨rfl, c1⟩ | ⟨Gv2, c1⟩⟩
  · refine zwW_p [(2, 3, 2), (1, 3, 2)] (q := 7) (ls' := [(2, 1), (0, a), (0, b), (2, 0)]) (st' := [(2, 0)]) (by decide +kernel) rfl ?_
    refine zwnu_eq (q := 33) (nx := 10) (by decide +kernel) (by decide) (fun c3 => ?_) (fun c3 => ?_)
    · refine zwW_p [(0, -1, 0)] (q := 34) (ls' := [(2, 1), (0, a), (0, b), (2, 0)]) (st' := [(0, -1)]) (by decide +kernel) rfl ?_
      refine zwW_ret (nx := 35) (a := 0) (b := 0) (by decide +kernel) rfl (Or.inl rfl) ?_
      exact ⟨C, X.le (by decide) (by decide), by omega, by unfold yMillA; (repeat' (first | rw [if_neg (by omega)] | rw [if_pos (by omega)])); all_goals (first | rfl | omega), by refine Eq.trans (rfl : yC h = yC h) ?_; unfold yMill; (repeat' (first | rw [if_neg (by omega)] | rw [if_pos (by omega)])); all_goals (repeat' (first | rfl | apply zs_cg | omega)), by exact J⟩
    · exfalso; omega
  · have lv2 := Gv2.1
    have ev2 := c1.2.2
    have pv2 : v2 = zv h 2 a.toNat ∧ ((a.toNat : Nat) : Int) < fld h 2 2 := ⟨ev2, by omega⟩
    refine zwW_p [(2, 3, 2), (1, 3, 2)] (q := 7) (ls' := [(2, 1), (0, a), (0, b), (2, v2)]) (st' := [(2, v2)]) (by decide +kernel) rfl ?_
    refine zwnu_eq (q := 33) (nx := 10) (by decide +kernel) (by omega) (fun c4 => ?_) (fun c4 => ?_)
    · exfalso; omega
    · refine zwW_p [(1, 2, 0), (0, 1, 0), (0, 999, 0)] (q := 15) (ls' := [(2, 1), (0, a), (0, b), (2, v2)]) (st' := [(0, 999), (0, 1), (0, b)]) (by decide +kernel) rfl ?_
      refine zwW_cs (k' := 98) (n := 3) (nx := 18) (as := [(0, b), (0, 1), (0, 999)]) (st' := []) (by decide +kernel) rfl (x98 h C b 1 999 (by omega) (by omega) (by omega)) rfl ?_
      rintro x _ ⟨rfl, ⟨rfl, c5⟩ | ⟨rfl, c5⟩⟩
      · refine zwif_ne (q := 33) (nx := 21) (by decide +kernel) (fun c6 => ?_) (fun c6 => ?_)
        · refine zwW_p [(0, -1, 0)] (q := 34) (ls' := [(2, 1), (0, a), (0, b), (2, v2)]) (st' := [(0, -1)]) (by decide +kernel) rfl ?_
          refine zwW_ret (nx := 35) (a := 0) (b := 0) (by decide +kernel) rfl (Or.inl rfl) ?_
          exact ⟨C, X.le (by decide) (by decide), by omega, by unfold yMillA; (repeat' (first | rw [if_neg (by omega)] | rw [if_pos (by omega)])); all_goals (first | rfl | omega), by refine Eq.trans (rfl : yC h = yC h) ?_; unfold yMill; (repeat' (first | rw [if_neg (by omega)] | rw [if_pos (by omega)])); all_goals (repeat' (first | rfl | apply zs_cg | omega)), by exact J⟩
        · exfalso; omega
      · refine zwif_ne (q := 33) (nx := 21) (by decide +kernel) (fun c7 => ?_) (fun c7 => ?_)
        · exfalso; omega
        · refine zwW_p [(1, 3, 2)] (q := 22) (ls' := [(2, 1), (0, a), (0, b), (2, v2)]) (st' := [(2, v2)]) (by decide +kernel) rfl ?_
          refine zwX_gi C (kd := 11) (bn := 7) (n := 17) (nx := 25) (by decide +kernel) Gv2.2.1 Gv2.1 rfl ?_
          intro v8 ev8 lv8 uv8
          have sv8 : v8 = (yC h) 69 a.toNat := Eq.trans ev8 (Eq.trans (congrArg (fun q => fld h q 7) pv2.1) (Eq.trans (Eq.symm (yC_f (h := h) (a := 69) (A := 2) (j := 7) (i := a.toNat) rfl pv2.2)) (Eq.trans (congrFun (congrFun (rfl : yC h = yC h) 69) a.toNat) rfl)))
          refine zwW_p [(1, 2, 0)] (q := 26) (ls' := [(2, 1), (0, a), (0, b), (2, v2)]) (st' := [(0, b), (0, v8)]) (by decide +kernel) rfl ?_
          refine zwW_adw (nx := 27) (by decide +kernel) ?_
          intro v9 ev9 lv9 uv9
          have Ev9 : v9 = w32 (((yC h) 69 a.toNat) + b) := by rw [ev9, sv8]
          refine zwW_p [(0, 9999, 0)] (q := 30) (ls' := [(2, 1), (0, a), (0, b), (2, v2)]) (st' := [(0, 9999), (0, v9)]) (by decide +kernel) rfl ?_
          refine zwic_le (q := 35) (nx := 33) (by decide +kernel) (fun c10 => ?_) (fun c10 => ?_)
          · refine zwW_p [(1, 3, 2), (12, 0, 0)] (q := 37) (ls' := [(2, 1), (0, a), (0, b), (2, v2)]) (st' := [(2, v2), (2, v2)]) (by decide +kernel) rfl ?_
            refine zwX_gi C (kd := 11) (bn := 7) (n := 17) (nx := 40) (by decide +kernel) Gv2.2.1 Gv2.1 rfl ?_
            intro v11 ev11 lv11 uv11
            have sv11 : v11 = (yC h) 69 a.toNat := Eq.trans ev11 (Eq.trans (congrArg (fun q => fld h q 7) pv2.1) (Eq.trans (Eq.symm (yC_f (h := h) (a := 69) (A := 2) (j := 7) (i := a.toNat) rfl pv2.2)) (Eq.trans (congrFun (congrFun (rfl : yC h = yC h) 69) a.toNat) rfl)))
            refine zwW_p [(1, 2, 0)] (q := 41) (ls' := [(2, 1), (0, a), (0, b), (2, v2)]) (st' := [(0, b), (0, v11), (2, v2)]) (by decide +kernel) rfl ?_
            refine zwW_adw (nx := 42) (by decide +kernel) ?_
            intro v12 ev12 lv12 uv12
            have Ev12 : v12 = w32 (((yC h) 69 a.toNat) + b) := by rw [ev12, sv11]
            refine zwX_pi C (kd := 11) (bn := 7) (n := 17) (nx := 45) (by decide +kernel) Gv2.2.1 Gv2.1 (by first | omega | exact ⟨by omega, by omega⟩) ?_
            rintro h13 eh13 Ch13 Qh13
            have Zh13 : yC h13 = (zs (yC h) 69 a.toNat (w32 (((yC h) 69 a.toNat) + b))) := by rw [yC_w (a := 69) (A := 2) (j := 7) (k := a.toNat) C J rfl pv2 eh13, Ev12]
            have Xh13 : zXR msx53_z (0) (0) h h13 := X.tr (c2 := 0) (s2 := 0) Qh13 (by decide +kernel) (by decide) (by decide)
            have Gh13_0 : gV h13 v2 := Gv2.x Qh13
            have Jh13 : yR h13 := J.fr C Qh13 (by decide +kernel)
            have pv2_h13 : v2 = zv h13 2 a.toNat ∧ ((a.toNat : Nat) : Int) < fld h13 2 2 := zpv C Qh13 (A := 2) (by decide) (by decide +kernel) pv2
            refine zwW_p [(1, 3, 2)] (q := 46) (ls' := [(2, 1), (0, a), (0, b), (2, v2)]) (st' := [(2, v2)]) (by decide +kernel) rfl ?_
            refine zwX_gi Ch13 (kd := 11) (bn := 7) (n := 17) (nx := 49) (by decide +kernel) Gh13_0.2.1 Gh13_0.1 rfl ?_
            intro v14 ev14 lv14 uv14
            have wv14 : v14 = v12 := by rw [ev14, eh13]; exact fld_wr_eq Gv2.2.1 (by decide)
            have sv14 : v14 = (w32 (((yC h) 69 a.toNat) + b)) := Eq.trans ev14 (Eq.trans (congrArg (fun q => fld h13 q 7) pv2_h13.1) (Eq.trans (Eq.symm (yC_f (h := h13) (a := 69) (A := 2) (j := 7) (i := a.toNat) rfl pv2_h13.2)) (Eq.trans (congrFun (congrFun Zh13 69) a.toNat) (zs_eq : (zs (yC h) 69 a.toNat (w32 (((yC h) 69 a.toNat) + b))) 69 a.toNat = (w32 (((yC h) 69 a.toNat) + b))))))
            refine zwW_ret (nx := 50) (a := 0) (b := 0) (by decide +kernel) rfl (Or.inl rfl) ?_
            exact ⟨Ch13, Xh13.le (by decide) (by decide), by omega, by unfold yMillA; (repeat' (first | rw [if_pos (by omega)] | rw [if_neg (by omega)])); all_goals (first | rfl | omega), by refine Eq.trans Zh13 ?_; unfold yMill; (repeat' (first | rw [if_pos (by omega)] | rw [if_neg (by omega)])); all_goals (repeat' (first | rfl | apply zs_cg | omega)), by exact Jh13⟩
          · refine zwW_p [(0, -1, 0)] (q := 34) (ls' := [(2, 1), (0, a), (0, b), (2, v2)]) (st' := [(0, -1)]) (by decide +kernel) rfl ?_
            refine zwW_ret (nx := 35) (a := 0) (b := 0) (by decide +kernel) rfl (Or.inl rfl) ?_
            exact ⟨C, X.le (by decide) (by decide), by omega, by unfold yMillA; (repeat' (first | rw [if_neg (by omega)] | rw [if_pos (by omega)])); all_goals (first | rfl | omega), by refine Eq.trans (rfl : yC h = yC h) ?_; unfold yMill; (repeat' (first | rw [if_neg (by omega)] | rw [if_pos (by omega)])); all_goals (repeat' (first | rfl | apply zs_cg | omega)), by exact J⟩
def msx55_z : Zms := [(1011, 1011, 8, 9), (1011, 1011, 9, 10)]
-- WheelLand.price(II)Z
theorem x55_z {sc : List Int} (h : Hp) (C : CI h) (a b : Int) (q_a : -2147483648 ≤ a ∧ a ≤ 2147483647) (q_b : -2147483648 ≤ b ∧ b ≤ 2147483647) (J : yR h) : zwC sc 6 55 [(2, 1), (0, a), (0, b)] h (zwRt 0 (fun x g => CI g ∧ zXR msx55_z (0) (0) h g ∧ (0 ≤ x ∧ x ≤ 1) ∧ (x = yPricA (yC h) a b) ∧ (yC g = yPric (yC h) a b) ∧ (yR g))) := by
  refine zwC_of (D := 5) 4 (by decide +kernel) rfl (ls := [(2, 1), (0, a), (0, b), (9, 0)]) rfl ?_
  have X : zXR msx55_z 0 0 h h := zXR.rf _ _
  have u0 : yC h 37 0 = fld h 1 0 := rfl
  have u1 : yC h 37 1 = fld h 2 2 := rfl
  have u2 : yC h 37 2 = fld h 3 2 := rfl
  have u64 : yC h 37 64 = fld h 4 2 := rfl
  have u78 : yC h 37 78 = fld h 5 2 := rfl
  have T1 := zt100 (b := b) (by first | omega | exact ⟨by omega, by omega⟩)
  refine zwW_p [(1, 0, 2), (1, 1, 0)] (q := 2) (ls' := [(2, 1), (0, a), (0, b), (9, 0)]) (st' := [(0, a), (2, 1)]) (by decide +kernel) rfl ?_
  refine zwW_cm C.1 (op := 60) (k' := 102) (n := 1) (kd := 12) (m := 13) (nx := 5) (r := 1) (tl := [(0, a)]) (st' := []) (by decide +kernel) rfl (by decide +kernel) rfl (x102 h C a (by omega)) ?_
  rintro v2 _ ⟨rfl, ⟨rfl, c1⟩ | ⟨Gv2, c1⟩⟩
  · refine zwW_p [(2, 3, 2), (1, 3, 2)] (q := 7) (ls' := [(2, 1), (0, a), (0, b), (2, 0)]) (st' := [(2, 0)]) (by decide +kernel) rfl ?_
    refine zwnu_eq (q := 36) (nx := 10) (by decide +kernel) (by decide) (fun c3 => ?_) (fun c3 => ?_)
    · refine zwW_p [(0, 0, 0)] (q := 37) (ls' := [(2, 1), (0, a), (0, b), (2, 0)]) (st' := [(0, 0)]) (by decide +kernel) rfl ?_
      refine zwW_ret (nx := 38) (a := 1) (b := 0) (by decide +kernel) rfl (Or.inr (Or.inl ⟨rfl, Or.inl rfl⟩)) ?_
      exact ⟨C, X.le (by decide) (by decide), by omega, by unfold yPricA; (repeat' (first | rw [if_pos (by omega)] | rw [if_neg (by omega)])); all_goals (first | rfl | omega), by refine Eq.trans (rfl : yC h = yC h) ?_; unfold yPric; (repeat' (first | rw [if_pos (by omega)] | rw [if_neg (by omega)])); all_goals (repeat' (first | rfl | apply zs_cg | omega)), by exact J⟩
    · exfalso; omega
  · have lv2 := Gv2.1
    have ev2 := c1.2.2
    have pv2 : v2 = zv h 2 a.toNat ∧ ((a.toNat : Nat) : Int) < fld h 2 2 := ⟨ev2, by omega⟩
    refine zwW_p [(2, 3, 2), (1, 3, 2)] (q := 7) (ls' := [(2, 1), (0, a), (0, b), (2, v2)]) (st' := [(2, v2)]) (by decide +kernel) rfl ?_
    refine zwnu_eq (q := 36) (nx := 10) (by decide +kernel) (by omega) (fun c4 => ?_) (fun c4 => ?_)
    · exfalso; omega
    · refine zwW_p [(1, 2, 0), (0, 100, 0)] (q := 13) (ls' := [(2, 1), (0, a), (0, b), (2, v2)]) (st' := [(0, 100), (0, b)]) (by decide +kernel) rfl ?_
      refine zwW_tdw (nx := 14) (by decide +kernel) (by omega) ?_
      intro v5 ev5 lv5 uv5
      refine zwW_p [(0, 1, 0), (0, 99, 0)] (q := 17) (ls' := [(2, 1), (0, a), (0, b), (2, v2)]) (st' := [(0, 99), (0, 1), (0, v5)]) (by decide +kernel) rfl ?_
      refine zwW_cs (k' := 98) (n := 3) (nx := 20) (as := [(0, v5), (0, 1), (0, 99)]) (st' := []) (by decide +kernel) rfl (x98 h C v5 1 99 (by omega) (by omega) (by omega)) rfl ?_
      rintro x _ ⟨rfl, ⟨rfl, c6⟩ | ⟨rfl, c6⟩⟩
      · refine zwif_ne (q := 36) (nx := 23) (by decide +kernel) (fun c7 => ?_) (fun c7 => ?_)
        · refine zwW_p [(0, 0, 0)] (q := 37) (ls' := [(2, 1), (0, a), (0, b), (2, v2)]) (st' := [(0, 0)]) (by decide +kernel) rfl ?_
          refine zwW_ret (nx := 38) (a := 1) (b := 0) (by decide +kernel) rfl (Or.inr (Or.inl ⟨rfl, Or.inl rfl⟩)) ?_
          exact ⟨C, X.le (by decide) (by decide), by omega, by unfold yPricA; (repeat' (first | rw [if_pos (by omega)] | rw [if_neg (by omega)])); all_goals (first | rfl | omega), by refine Eq.trans (rfl : yC h = yC h) ?_; unfold yPric; (repeat' (first | rw [if_pos (by omega)] | rw [if_neg (by omega)])); all_goals (repeat' (first | rfl | apply zs_cg | omega)), by exact J⟩
        · exfalso; omega
      · refine zwif_ne (q := 36) (nx := 23) (by decide +kernel) (fun c8 => ?_) (fun c8 => ?_)
        · exfalso; omega
        · refine zwW_p [(1, 2, 0), (0, 100, 0)] (q := 26) (ls' := [(2, 1), (0, a), (0, b), (2, v2)]) (st' := [(0, 100), (0, b)]) (by decide +kernel) rfl ?_
          refine zwW_tmw (nx := 27) (by decide +kernel) (by first | omega | exact ⟨by omega, by omega⟩) (by omega) ?_
          intro v9 ev9 lv9 uv9
          refine zwW_p [(0, 1, 0), (0, 99, 0)] (q := 30) (ls' := [(2, 1), (0, a), (0, b), (2, v2)]) (st' := [(0, 99), (0, 1), (0, v9)]) (by decide +kernel) rfl ?_
          refine zwW_cs (k' := 98) (n := 3) (nx := 33) (as := [(0, v9), (0, 1), (0, 99)]) (st' := []) (by decide +kernel) rfl (x98 h C v9 1 99 (by omega) (by omega) (by omega)) rfl ?_
          rintro x _ ⟨rfl, ⟨rfl, c10⟩ | ⟨rfl, c10⟩⟩
          · refine zwif_eq (q := 38) (nx := 36) (by decide +kernel) (fun c11 => ?_) (fun c11 => ?_)
            · exfalso; omega
            · refine zwW_p [(0, 0, 0)] (q := 37) (ls' := [(2, 1), (0, a), (0, b), (2, v2)]) (st' := [(0, 0)]) (by decide +kernel) rfl ?_
              refine zwW_ret (nx := 38) (a := 1) (b := 0) (by decide +kernel) rfl (Or.inr (Or.inl ⟨rfl, Or.inl rfl⟩)) ?_
              exact ⟨C, X.le (by decide) (by decide), by omega, by unfold yPricA; (repeat' (first | rw [if_pos (by omega)] | rw [if_neg (by omega)])); all_goals (first | rfl | omega), by refine Eq.trans (rfl : yC h = yC h) ?_; unfold yPric; (repeat' (first | rw [if_pos (by omega)] | rw [if_neg (by omega)])); all_goals (repeat' (first | rfl | apply zs_cg | omega)), by exact J⟩
          · refine zwif_eq (q := 38) (nx := 36) (by decide +kernel) (fun c12 => ?_) (fun c12 => ?_)
            · refine zwW_p [(1, 3, 2), (1, 2, 0), (0, 100, 0)] (q := 42) (ls' := [(2, 1), (0, a), (0, b), (2, v2)]) (st' := [(0, 100), (0, b), (2, v2)]) (by decide +kernel) rfl ?_
              refine zwW_tdw (nx := 43) (by decide +kernel) (by omega) ?_
              intro v13 ev13 lv13 uv13
              refine zwX_pi C (kd := 11) (bn := 8) (n := 17) (nx := 46) (by decide +kernel) Gv2.2.1 Gv2.1 (by first | omega | exact ⟨by omega, by omega⟩) ?_
              rintro h14 eh14 Ch14 Qh14
              have Zh14 : yC h14 = (zs (yC h) 70 a.toNat v13) := by rw [yC_w (a := 70) (A := 2) (j := 8) (k := a.toNat) C J rfl pv2 eh14]
              have Xh14 : zXR msx55_z (0) (0) h h14 := X.tr (c2 := 0) (s2 := 0) Qh14 (by decide +kernel) (by decide) (by decide)
              have Gh14_0 : gV h14 v2 := Gv2.x Qh14
              have Jh14 : yR h14 := J.fr C Qh14 (by decide +kernel)
              have pv2_h14 : v2 = zv h14 2 a.toNat ∧ ((a.toNat : Nat) : Int) < fld h14 2 2 := zpv C Qh14 (A := 2) (by decide) (by decide +kernel) pv2
              refine zwW_p [(1, 3, 2), (1, 2, 0), (0, 100, 0)] (q := 50) (ls' := [(2, 1), (0, a), (0, b), (2, v2)]) (st' := [(0, 100), (0, b), (2, v2)]) (by decide +kernel) rfl ?_
              refine zwW_tmw (nx := 51) (by decide +kernel) (by first | omega | exact ⟨by omega, by omega⟩) (by omega) ?_
              intro v15 ev15 lv15 uv15
              refine zwX_pi Ch14 (kd := 11) (bn := 9) (n := 17) (nx := 54) (by decide +kernel) Gh14_0.2.1 Gh14_0.1 (by first | omega | exact ⟨by omega, by omega⟩) ?_
              rintro h16 eh16 Ch16 Qh16
              have Zh16 : yC h16 = (zs (zs (yC h) 70 a.toNat v13) 71 a.toNat v15) := by rw [yC_w (a := 71) (A := 2) (j := 9) (k := a.toNat) Ch14 Jh14 rfl pv2_h14 eh16, Zh14]
              have Xh16 : zXR msx55_z (0) (0) h h16 := Xh14.tr (c2 := 0) (s2 := 0) Qh16 (by decide +kernel) (by decide) (by decide)
              have Gh16_0 : gV h16 v2 := Gh14_0.x Qh16
              have Jh16 : yR h16 := Jh14.fr Ch14 Qh16 (by decide +kernel)
              have pv2_h16 : v2 = zv h16 2 a.toNat ∧ ((a.toNat : Nat) : Int) < fld h16 2 2 := zpv Ch14 Qh16 (A := 2) (by decide) (by decide +kernel) pv2_h14
              refine zwW_p [(0, 1, 0)] (q := 55) (ls' := [(2, 1), (0, a), (0, b), (2, v2)]) (st' := [(0, 1)]) (by decide +kernel) rfl ?_
              refine zwW_ret (nx := 56) (a := 1) (b := 0) (by decide +kernel) rfl (Or.inr (Or.inl ⟨rfl, Or.inr rfl⟩)) ?_
              exact ⟨Ch16, Xh16.le (by decide) (by decide), by omega, by unfold yPricA; (repeat' (first | rw [if_pos (by omega)] | rw [if_neg (by omega)])); all_goals (first | rfl | omega), by refine Eq.trans Zh16 ?_; unfold yPric; (repeat' (first | rw [if_pos (by omega)] | rw [if_neg (by omega)])); all_goals (repeat' (first | rfl | apply zs_cg | omega)), by exact Jh16⟩
            · exfalso; omega
def msx57_z : Zms := [(1011, 1011, 4, 5)]
-- WheelLand.talk(II)I
theorem x57_z {sc : List Int} (h : Hp) (C : CI h) (a b : Int) (q_a : -2147483648 ≤ a ∧ a ≤ 2147483647) (q_b : -2147483648 ≤ b ∧ b ≤ 2147483647) (J : yR h) : zwC sc 6 57 [(2, 1), (0, a), (0, b)] h (zwRt 0 (fun x g => CI g ∧ zXR msx57_z (0) (0) h g ∧ (-2147483648 ≤ x ∧ x ≤ 2147483647) ∧ (x = yTalkA (yC h) a b) ∧ (yC g = yTalk (yC h) a b) ∧ (yR g))) := by
  refine zwC_of (D := 5) 4 (by decide +kernel) rfl (ls := [(2, 1), (0, a), (0, b), (9, 0)]) rfl ?_
  have X : zXR msx57_z 0 0 h h := zXR.rf _ _
  have u0 : yC h 37 0 = fld h 1 0 := rfl
  have u1 : yC h 37 1 = fld h 2 2 := rfl
  have u2 : yC h 37 2 = fld h 3 2 := rfl
  have u64 : yC h 37 64 = fld h 4 2 := rfl
  have u78 : yC h 37 78 = fld h 5 2 := rfl
  refine zwW_p [(1, 0, 2), (1, 1, 0)] (q := 2) (ls' := [(2, 1), (0, a), (0, b), (9, 0)]) (st' := [(0, a), (2, 1)]) (by decide +kernel) rfl ?_
  refine zwW_cm C.1 (op := 60) (k' := 102) (n := 1) (kd := 12) (m := 13) (nx := 5) (r := 1) (tl := [(0, a)]) (st' := []) (by decide +kernel) rfl (by decide +kernel) rfl (x102 h C a (by omega)) ?_
  rintro v2 _ ⟨rfl, ⟨rfl, c1⟩ | ⟨Gv2, c1⟩⟩
  · refine zwW_p [(2, 3, 2), (1, 3, 2)] (q := 7) (ls' := [(2, 1), (0, a), (0, b), (2, 0)]) (st' := [(2, 0)]) (by decide +kernel) rfl ?_
    refine zwnu_eq (q := 20) (nx := 10) (by decide +kernel) (by decide) (fun c3 => ?_) (fun c3 => ?_)
    · refine zwW_p [(0, -1, 0)] (q := 21) (ls' := [(2, 1), (0, a), (0, b), (2, 0)]) (st' := [(0, -1)]) (by decide +kernel) rfl ?_
      refine zwW_ret (nx := 22) (a := 0) (b := 0) (by decide +kernel) rfl (Or.inl rfl) ?_
      exact ⟨C, X.le (by decide) (by decide), by omega, by unfold yTalkA; (repeat' (first | rw [if_neg (by omega)] | rw [if_pos (by omega)])); all_goals (first | rfl | omega), by refine Eq.trans (rfl : yC h = yC h) ?_; unfold yTalk; (repeat' (first | rw [if_neg (by omega)] | rw [if_pos (by omega)])); all_goals (repeat' (first | rfl | apply zs_cg | omega)), by exact J⟩
    · exfalso; omega
  · have lv2 := Gv2.1
    have ev2 := c1.2.2
    have pv2 : v2 = zv h 2 a.toNat ∧ ((a.toNat : Nat) : Int) < fld h 2 2 := ⟨ev2, by omega⟩
    refine zwW_p [(2, 3, 2), (1, 3, 2)] (q := 7) (ls' := [(2, 1), (0, a), (0, b), (2, v2)]) (st' := [(2, v2)]) (by decide +kernel) rfl ?_
    refine zwnu_eq (q := 20) (nx := 10) (by decide +kernel) (by omega) (fun c4 => ?_) (fun c4 => ?_)
    · exfalso; omega
    · refine zwW_p [(1, 2, 0), (0, 0, 0), (0, 20, 0)] (q := 14) (ls' := [(2, 1), (0, a), (0, b), (2, v2)]) (st' := [(0, 20), (0, 0), (0, b)]) (by decide +kernel) rfl ?_
      refine zwW_cs (k' := 98) (n := 3) (nx := 17) (as := [(0, b), (0, 0), (0, 20)]) (st' := []) (by decide +kernel) rfl (x98 h C b 0 20 (by omega) (by omega) (by omega)) rfl ?_
      rintro x _ ⟨rfl, ⟨rfl, c5⟩ | ⟨rfl, c5⟩⟩
      · refine zwif_eq (q := 22) (nx := 20) (by decide +kernel) (fun c6 => ?_) (fun c6 => ?_)
        · exfalso; omega
        · refine zwW_p [(0, -1, 0)] (q := 21) (ls' := [(2, 1), (0, a), (0, b), (2, v2)]) (st' := [(0, -1)]) (by decide +kernel) rfl ?_
          refine zwW_ret (nx := 22) (a := 0) (b := 0) (by decide +kernel) rfl (Or.inl rfl) ?_
          exact ⟨C, X.le (by decide) (by decide), by omega, by unfold yTalkA; (repeat' (first | rw [if_neg (by omega)] | rw [if_pos (by omega)])); all_goals (first | rfl | omega), by refine Eq.trans (rfl : yC h = yC h) ?_; unfold yTalk; (repeat' (first | rw [if_neg (by omega)] | rw [if_pos (by omega)])); all_goals (repeat' (first | rfl | apply zs_cg | omega)), by exact J⟩
      · refine zwif_eq (q := 22) (nx := 20) (by decide +kernel) (fun c7 => ?_) (fun c7 => ?_)
        · refine zwW_p [(1, 3, 2), (1, 2, 0)] (q := 24) (ls' := [(2, 1), (0, a), (0, b), (2, v2)]) (st' := [(0, b), (2, v2)]) (by decide +kernel) rfl ?_
          refine zwX_pi C (kd := 11) (bn := 4) (n := 17) (nx := 27) (by decide +kernel) Gv2.2.1 Gv2.1 (by first | omega | exact ⟨by omega, by omega⟩) ?_
          rintro h8 eh8 Ch8 Qh8
          have Zh8 : yC h8 = (zs (yC h) 72 a.toNat b) := by rw [yC_w (a := 72) (A := 2) (j := 4) (k := a.toNat) C J rfl pv2 eh8]
          have Xh8 : zXR msx57_z (0) (0) h h8 := X.tr (c2 := 0) (s2 := 0) Qh8 (by decide +kernel) (by decide) (by decide)
          have Gh8_0 : gV h8 v2 := Gv2.x Qh8
          have Jh8 : yR h8 := J.fr C Qh8 (by decide +kernel)
          have pv2_h8 : v2 = zv h8 2 a.toNat ∧ ((a.toNat : Nat) : Int) < fld h8 2 2 := zpv C Qh8 (A := 2) (by decide) (by decide +kernel) pv2
          refine zwW_p [(1, 2, 0)] (q := 28) (ls' := [(2, 1), (0, a), (0, b), (2, v2)]) (st' := [(0, b)]) (by decide +kernel) rfl ?_
          refine zwW_ret (nx := 29) (a := 0) (b := 0) (by decide +kernel) rfl (Or.inl rfl) ?_
          exact ⟨Ch8, Xh8.le (by decide) (by decide), by omega, by unfold yTalkA; (repeat' (first | rw [if_pos (by omega)] | rw [if_neg (by omega)])); all_goals (first | rfl | omega), by refine Eq.trans Zh8 ?_; unfold yTalk; (repeat' (first | rw [if_pos (by omega)] | rw [if_neg (by omega)])); all_goals (repeat' (first | rfl | apply zs_cg | omega)), by exact Jh8⟩
        · exfalso; omega
def msx13_z : Zms := [(1004, 1004, 7, 8)]
-- WheelLand.aim(II)Z
theorem x13_z {sc : List Int} (h : Hp) (C : CI h) (a b : Int) (q_a : -2147483648 ≤ a ∧ a ≤ 2147483647) (q_b : -2147483648 ≤ b ∧ b ≤ 2147483647) (J : yR h) : zwC sc 6 13 [(2, 1), (0, a), (0, b)] h (zwRt 0 (fun x g => CI g ∧ zXR msx13_z (0) (0) h g ∧ (0 ≤ x ∧ x ≤ 1) ∧ (x = yAimA (yC h) a b) ∧ (yC g = yAim (yC h) a b) ∧ (yR g))) := by
  refine zwC_of (D := 5) 4 (by decide +kernel) rfl (ls := [(2, 1), (0, a), (0, b), (9, 0)]) rfl ?_
  have X : zXR msx13_z 0 0 h h := zXR.rf _ _
  have u0 : yC h 37 0 = fld h 1 0 := rfl
  have u1 : yC h 37 1 = fld h 2 2 := rfl
  have u2 : yC h 37 2 = fld h 3 2 := rfl
  have u64 : yC h 37 64 = fld h 4 2 := rfl
  have u78 : yC h 37 78 = fld h 5 2 := rfl
  refine zwW_p [(1, 0, 2), (1, 1, 0)] (q := 2) (ls' := [(2, 1), (0, a), (0, b), (9, 0)]) (st' := [(0, a), (2, 1)]) (by decide +kernel) rfl ?_
  refine zwW_cm C.1 (op := 60) (k' := 109) (n := 1) (kd := 12) (m := 13) (nx := 5) (r := 1) (tl := [(0, a)]) (st' := []) (by decide +kernel) rfl (by decide +kernel) rfl (x109 h C a (by omega)) ?_
  rintro v2 _ ⟨rfl, ⟨rfl, c1⟩ | ⟨Gv2, c1⟩⟩
  · refine zwW_p [(2, 3, 2), (1, 3, 2)] (q := 7) (ls' := [(2, 1), (0, a), (0, b), (2, 0)]) (st' := [(2, 0)]) (by decide +kernel) rfl ?_
    refine zwnu_eq (q := 20) (nx := 10) (by decide +kernel) (by decide) (fun c3 => ?_) (fun c3 => ?_)
    · refine zwW_p [(0, 0, 0)] (q := 21) (ls' := [(2, 1), (0, a), (0, b), (2, 0)]) (st' := [(0, 0)]) (by decide +kernel) rfl ?_
      refine zwW_ret (nx := 22) (a := 1) (b := 0) (by decide +kernel) rfl (Or.inr (Or.inl ⟨rfl, Or.inl rfl⟩)) ?_
      exact ⟨C, X.le (by decide) (by decide), by omega, by unfold yAimA; (repeat' (first | rw [if_pos (by omega)] | rw [if_neg (by omega)])); all_goals (first | rfl | omega), by refine Eq.trans (rfl : yC h = yC h) ?_; unfold yAim; (repeat' (first | rw [if_pos (by omega)] | rw [if_neg (by omega)])); all_goals (repeat' (first | rfl | apply zs_cg | omega)), by exact J⟩
    · exfalso; omega
  · have lv2 := Gv2.1
    have ev2 := c1.2.2
    have pv2 : v2 = zv h 3 a.toNat ∧ ((a.toNat : Nat) : Int) < fld h 3 2 := ⟨ev2, by omega⟩
    refine zwW_p [(2, 3, 2), (1, 3, 2)] (q := 7) (ls' := [(2, 1), (0, a), (0, b), (2, v2)]) (st' := [(2, v2)]) (by decide +kernel) rfl ?_
    refine zwnu_eq (q := 20) (nx := 10) (by decide +kernel) (by omega) (fun c4 => ?_) (fun c4 => ?_)
    · exfalso; omega
    · refine zwW_p [(1, 2, 0), (0, 4, 0), (0, 60, 0)] (q := 14) (ls' := [(2, 1), (0, a), (0, b), (2, v2)]) (st' := [(0, 60), (0, 4), (0, b)]) (by decide +kernel) rfl ?_
      refine zwW_cs (k' := 98) (n := 3) (nx := 17) (as := [(0, b), (0, 4), (0, 60)]) (st' := []) (by decide +kernel) rfl (x98 h C b 4 60 (by omega) (by omega) (by omega)) rfl ?_
      rintro x _ ⟨rfl, ⟨rfl, c5⟩ | ⟨rfl, c5⟩⟩
      · refine zwif_eq (q := 22) (nx := 20) (by decide +kernel) (fun c6 => ?_) (fun c6 => ?_)
        · exfalso; omega
        · refine zwW_p [(0, 0, 0)] (q := 21) (ls' := [(2, 1), (0, a), (0, b), (2, v2)]) (st' := [(0, 0)]) (by decide +kernel) rfl ?_
          refine zwW_ret (nx := 22) (a := 1) (b := 0) (by decide +kernel) rfl (Or.inr (Or.inl ⟨rfl, Or.inl rfl⟩)) ?_
          exact ⟨C, X.le (by decide) (by decide), by omega, by unfold yAimA; (repeat' (first | rw [if_pos (by omega)] | rw [if_neg (by omega)])); all_goals (first | rfl | omega), by refine Eq.trans (rfl : yC h = yC h) ?_; unfold yAim; (repeat' (first | rw [if_pos (by omega)] | rw [if_neg (by omega)])); all_goals (repeat' (first | rfl | apply zs_cg | omega)), by exact J⟩
      · refine zwif_eq (q := 22) (nx := 20) (by decide +kernel) (fun c7 => ?_) (fun c7 => ?_)
        · refine zwW_p [(1, 3, 2), (1, 2, 0)] (q := 24) (ls' := [(2, 1), (0, a), (0, b), (2, v2)]) (st' := [(0, b), (2, v2)]) (by decide +kernel) rfl ?_
          refine zwX_pi C (kd := 4) (bn := 7) (n := 19) (nx := 27) (by decide +kernel) Gv2.2.1 Gv2.1 (by first | omega | exact ⟨by omega, by omega⟩) ?_
          rintro h8 eh8 Ch8 Qh8
          have Zh8 : yC h8 = (zs (yC h) 85 a.toNat b) := by rw [yC_w (a := 85) (A := 3) (j := 7) (k := a.toNat) C J rfl pv2 eh8]
          have Xh8 : zXR msx13_z (0) (0) h h8 := X.tr (c2 := 0) (s2 := 0) Qh8 (by decide +kernel) (by decide) (by decide)
          have Gh8_0 : gH h8 v2 := Gv2.x Qh8
          have Jh8 : yR h8 := J.fr C Qh8 (by decide +kernel)
          have pv2_h8 : v2 = zv h8 3 a.toNat ∧ ((a.toNat : Nat) : Int) < fld h8 3 2 := zpv C Qh8 (A := 3) (by decide) (by decide +kernel) pv2
          refine zwW_p [(0, 1, 0)] (q := 28) (ls' := [(2, 1), (0, a), (0, b), (2, v2)]) (st' := [(0, 1)]) (by decide +kernel) rfl ?_
          refine zwW_ret (nx := 29) (a := 1) (b := 0) (by decide +kernel) rfl (Or.inr (Or.inl ⟨rfl, Or.inr rfl⟩)) ?_
          exact ⟨Ch8, Xh8.le (by decide) (by decide), by omega, by unfold yAimA; (repeat' (first | rw [if_pos (by omega)] | rw [if_neg (by omega)])); all_goals (first | rfl | omega), by refine Eq.trans Zh8 ?_; unfold yAim; (repeat' (first | rw [if_pos (by omega)] | rw [if_neg (by omega)])); all_goals (repeat' (first | rfl | apply zs_cg | omega)), by exact Jh8⟩
        · exfalso; omega
-- WheelLand.lot(II)I
theorem x21_z {sc : List Int} (h : Hp) (C : CI h) (a b : Int) (q_a : -2147483648 ≤ a ∧ a ≤ 2147483647) (q_b : -2147483648 ≤ b ∧ b ≤ 2147483647) (J : yR h) : zwC sc 6 21 [(2, 1), (0, a), (0, b)] h (zwRt 0 (fun x g => h = g ∧ (-2147483648 ≤ x ∧ x ≤ 2147483647) ∧ (x = yLotA (yC h) a b))) := by
  refine zwC_of (D := 5) 4 (by decide +kernel) rfl (ls := [(2, 1), (0, a), (0, b), (9, 0)]) rfl ?_
  have u0 : yC h 37 0 = fld h 1 0 := rfl
  have u1 : yC h 37 1 = fld h 2 2 := rfl
  have u2 : yC h 37 2 = fld h 3 2 := rfl
  have u64 : yC h 37 64 = fld h 4 2 := rfl
  have u78 : yC h 37 78 = fld h 5 2 := rfl
  refine zwW_p [(1, 0, 2), (1, 1, 0)] (q := 2) (ls' := [(2, 1), (0, a), (0, b), (9, 0)]) (st' := [(0, a), (2, 1)]) (by decide +kernel) rfl ?_
  refine zwW_cm C.1 (op := 60) (k' := 115) (n := 1) (kd := 12) (m := 13) (nx := 5) (r := 1) (tl := [(0, a)]) (st' := []) (by decide +kernel) rfl (by decide +kernel) rfl (x115 h C a (by omega)) ?_
  rintro v2 _ ⟨rfl, ⟨rfl, c1⟩ | ⟨Gv2, c1⟩⟩
  · refine zwW_p [(2, 3, 2), (1, 3, 2)] (q := 7) (ls' := [(2, 1), (0, a), (0, b), (2, 0)]) (st' := [(2, 0)]) (by decide +kernel) rfl ?_
    refine zwnu_ne (q := 12) (nx := 10) (by decide +kernel) (by decide) (fun c3 => ?_) (fun c3 => ?_)
    · exfalso; omega
    · refine zwW_p [(0, -1, 0)] (q := 11) (ls' := [(2, 1), (0, a), (0, b), (2, 0)]) (st' := [(0, -1)]) (by decide +kernel) rfl ?_
      refine zwW_ret (nx := 12) (a := 0) (b := 0) (by decide +kernel) rfl (Or.inl rfl) ?_
      exact ⟨rfl, by omega, by unfold yLotA; (repeat' (first | rw [if_neg (by omega)] | rw [if_pos (by omega)])); all_goals (first | rfl | omega)⟩
  · have lv2 := Gv2.1
    have ev2 := c1.2.2
    have pv2 : v2 = zv h 4 a.toNat ∧ ((a.toNat : Nat) : Int) < fld h 4 2 := ⟨ev2, by omega⟩
    refine zwW_p [(2, 3, 2), (1, 3, 2)] (q := 7) (ls' := [(2, 1), (0, a), (0, b), (2, v2)]) (st' := [(2, v2)]) (by decide +kernel) rfl ?_
    refine zwnu_ne (q := 12) (nx := 10) (by decide +kernel) (by omega) (fun c4 => ?_) (fun c4 => ?_)
    · refine zwW_p [(1, 2, 0)] (q := 13) (ls' := [(2, 1), (0, a), (0, b), (2, v2)]) (st' := [(0, b)]) (by decide +kernel) rfl ?_
      refine zwW_sw (d := 85) (os := [0, 52, 1, 60, 2, 65, 3, 70, 4, 75, 5, 80]) (by decide +kernel) ?_
      refine ⟨fun c5 => ?_, fun c5 => ?_⟩
      · show zwW _ _ _ 52 _ _ _ _
        refine zwW_p [(1, 3, 2)] (q := 53) (ls' := [(2, 1), (0, a), (0, b), (2, v2)]) (st' := [(2, v2)]) (by decide +kernel) rfl ?_
        refine zwW_get (kd := 6) (bn := 1) (t := 2) (n := 7) (nx := 56) (by decide +kernel) Gv2.2.1 rfl ?_
        obtain ⟨v6, ev6⟩ : ∃ z, z = fld h v2 1 := ⟨_, rfl⟩
        rw [← ev6]
        have Gv6 : gH h v6 := by rw [ev6]; exact Gv2.2.2
        have lv6 := Gv6.1
        have qv6 : yC h 170 a.toNat = (yC h) 170 a.toNat := Eq.trans (congrFun (congrFun (rfl : yC h = yC h) 170) a.toNat) rfl
        have wv6 := J.r (a := 170) (A := 4) (j := 1) (B := 3) (i := a.toNat) rfl pv2.2
        rw [qv6] at wv6
        have pv6 : v6 = zv h 3 (((yC h) 170 a.toNat).toNat) ∧ ((((yC h) 170 a.toNat).toNat : Nat) : Int) < fld h 3 2 := ⟨by rw [ev6, pv2.1]; exact wv6.2.2, wv6.2.1⟩
        refine zwX_gi C (kd := 4) (bn := 0) (n := 19) (nx := 59) (by decide +kernel) Gv6.2.1 Gv6.1 rfl ?_
        intro v7 ev7 lv7 uv7
        have sv7 : v7 = ((((yC h) 170 a.toNat).toNat : Nat) : Int) := Eq.trans ev7 (Eq.trans (congrArg (fun q => fld h q 0) pv6.1) (J.1 3 (by decide) _ pv6.2))
        refine zwW_ret (nx := 60) (a := 0) (b := 0) (by decide +kernel) rfl (Or.inl rfl) ?_
        exact ⟨rfl, by omega, by unfold yLotA; (repeat' (first | rw [if_pos (by omega)] | rw [if_neg (by omega)])); all_goals (first | rfl | omega)⟩
      refine ⟨fun c8 => ?_, fun c8 => ?_⟩
      · show zwW _ _ _ 60 _ _ _ _
        refine zwW_p [(1, 3, 2)] (q := 61) (ls' := [(2, 1), (0, a), (0, b), (2, v2)]) (st' := [(2, v2)]) (by decide +kernel) rfl ?_
        refine zwX_gi C (kd := 6) (bn := 2) (n := 7) (nx := 64) (by decide +kernel) Gv2.2.1 Gv2.1 rfl ?_
        intro v9 ev9 lv9 uv9
        have sv9 : v9 = (yC h) 171 a.toNat := Eq.trans ev9 (Eq.trans (congrArg (fun q => fld h q 2) pv2.1) (Eq.trans (Eq.symm (yC_f (h := h) (a := 171) (A := 4) (j := 2) (i := a.toNat) rfl pv2.2)) (Eq.trans (congrFun (congrFun (rfl : yC h = yC h) 171) a.toNat) rfl)))
        refine zwW_ret (nx := 65) (a := 0) (b := 0) (by decide +kernel) rfl (Or.inl rfl) ?_
        exact ⟨rfl, by omega, by unfold yLotA; (repeat' (first | rw [if_pos (by omega)] | rw [if_neg (by omega)])); all_goals (first | rfl | omega)⟩
      refine ⟨fun c10 => ?_, fun c10 => ?_⟩
      · show zwW _ _ _ 65 _ _ _ _
        refine zwW_p [(1, 3, 2)] (q := 66) (ls' := [(2, 1), (0, a), (0, b), (2, v2)]) (st' := [(2, v2)]) (by decide +kernel) rfl ?_
        refine zwX_gi C (kd := 6) (bn := 3) (n := 7) (nx := 69) (by decide +kernel) Gv2.2.1 Gv2.1 rfl ?_
        intro v11 ev11 lv11 uv11
        have sv11 : v11 = (yC h) 172 a.toNat := Eq.trans ev11 (Eq.trans (congrArg (fun q => fld h q 3) pv2.1) (Eq.trans (Eq.symm (yC_f (h := h) (a := 172) (A := 4) (j := 3) (i := a.toNat) rfl pv2.2)) (Eq.trans (congrFun (congrFun (rfl : yC h = yC h) 172) a.toNat) rfl)))
        refine zwW_ret (nx := 70) (a := 0) (b := 0) (by decide +kernel) rfl (Or.inl rfl) ?_
        exact ⟨rfl, by omega, by unfold yLotA; (repeat' (first | rw [if_pos (by omega)] | rw [if_neg (by omega)])); all_goals (first | rfl | omega)⟩
      refine ⟨fun c12 => ?_, fun c12 => ?_⟩
      · show zwW _ _ _ 70 _ _ _ _
        refine zwW_p [(1, 3, 2)] (q := 71) (ls' := [(2, 1), (0, a), (0, b), (2, v2)]) (st' := [(2, v2)]) (by decide +kernel) rfl ?_
        refine zwX_gi C (kd := 6) (bn := 4) (n := 7) (nx := 74) (by decide +kernel) Gv2.2.1 Gv2.1 rfl ?_
        intro v13 ev13 lv13 uv13
        have sv13 : v13 = (yC h) 173 a.toNat := Eq.trans ev13 (Eq.trans (congrArg (fun q => fld h q 4) pv2.1) (Eq.trans (Eq.symm (yC_f (h := h) (a := 173) (A := 4) (j := 4) (i := a.toNat) rfl pv2.2)) (Eq.trans (congrFun (congrFun (rfl : yC h = yC h) 173) a.toNat) rfl)))
        refine zwW_ret (nx := 75) (a := 0) (b := 0) (by decide +kernel) rfl (Or.inl rfl) ?_
        exact ⟨rfl, by omega, by unfold yLotA; (repeat' (first | rw [if_pos (by omega)] | rw [if_neg (by omega)])); all_goals (first | rfl | omega)⟩
      refine ⟨fun c14 => ?_, fun c14 => ?_⟩
      · show zwW _ _ _ 75 _ _ _ _
        refine zwW_p [(1, 3, 2)] (q := 76) (ls' := [(2, 1), (0, a), (0, b), (2, v2)]) (st' := [(2, v2)]) (by decide +kernel) rfl ?_
        refine zwX_gi C (kd := 6) (bn := 5) (n := 7) (nx := 79) (by decide +kernel) Gv2.2.1 Gv2.1 rfl ?_
        intro v15 ev15 lv15 uv15
        have sv15 : v15 = (yC h) 174 a.toNat := Eq.trans ev15 (Eq.trans (congrArg (fun q => fld h q 5) pv2.1) (Eq.trans (Eq.symm (yC_f (h := h) (a := 174) (A := 4) (j := 5) (i := a.toNat) rfl pv2.2)) (Eq.trans (congrFun (congrFun (rfl : yC h = yC h) 174) a.toNat) rfl)))
        refine zwW_ret (nx := 80) (a := 0) (b := 0) (by decide +kernel) rfl (Or.inl rfl) ?_
        exact ⟨rfl, by omega, by unfold yLotA; (repeat' (first | rw [if_pos (by omega)] | rw [if_neg (by omega)])); all_goals (first | rfl | omega)⟩
      refine ⟨fun c16 => ?_, fun c16 => ?_⟩
      · show zwW _ _ _ 80 _ _ _ _
        refine zwW_p [(1, 3, 2)] (q := 81) (ls' := [(2, 1), (0, a), (0, b), (2, v2)]) (st' := [(2, v2)]) (by decide +kernel) rfl ?_
        refine zwX_gi C (kd := 6) (bn := 6) (n := 7) (nx := 84) (by decide +kernel) Gv2.2.1 Gv2.1 rfl ?_
        intro v17 ev17 lv17 uv17
        have sv17 : v17 = (yC h) 175 a.toNat := Eq.trans ev17 (Eq.trans (congrArg (fun q => fld h q 6) pv2.1) (Eq.trans (Eq.symm (yC_f (h := h) (a := 175) (A := 4) (j := 6) (i := a.toNat) rfl pv2.2)) (Eq.trans (congrFun (congrFun (rfl : yC h = yC h) 175) a.toNat) rfl)))
        refine zwW_ret (nx := 85) (a := 0) (b := 0) (by decide +kernel) rfl (Or.inl rfl) ?_
        exact ⟨rfl, by omega, by unfold yLotA; (repeat' (first | rw [if_pos (by omega)] | rw [if_neg (by omega)])); all_goals (first | rfl | omega)⟩
      show zwW _ _ _ 85 _ _ _ _
      refine zwW_p [(0, -1, 0)] (q := 86) (ls' := [(2, 1), (0, a), (0, b), (2, v2)]) (st' := [(0, -1)]) (by decide +kernel) rfl ?_
      refine zwW_ret (nx := 87) (a := 0) (b := 0) (by decide +kernel) rfl (Or.inl rfl) ?_
      exact ⟨rfl, by omega, by unfold yLotA; (repeat' (first | rw [if_neg (by omega)] | rw [if_pos (by omega)])); all_goals (first | rfl | omega)⟩
    · exfalso; omega
-- WheelLand.due(II)I
theorem x37_z {sc : List Int} (h : Hp) (C : CI h) (a b : Int) (q_a : -2147483648 ≤ a ∧ a ≤ 2147483647) (q_b : -2147483648 ≤ b ∧ b ≤ 2147483647) (J : yR h) : zwC sc 6 37 [(2, 1), (0, a), (0, b)] h (zwRt 0 (fun x g => h = g ∧ (-2147483648 ≤ x ∧ x ≤ 2147483647) ∧ (x = yDueA (yC h) a b))) := by
  refine zwC_of (D := 5) 4 (by decide +kernel) rfl (ls := [(2, 1), (0, a), (0, b), (9, 0)]) rfl ?_
  have u0 : yC h 37 0 = fld h 1 0 := rfl
  have u1 : yC h 37 1 = fld h 2 2 := rfl
  have u2 : yC h 37 2 = fld h 3 2 := rfl
  have u64 : yC h 37 64 = fld h 4 2 := rfl
  have u78 : yC h 37 78 = fld h 5 2 := rfl
  refine zwW_p [(1, 0, 2), (1, 1, 0)] (q := 2) (ls' := [(2, 1), (0, a), (0, b), (9, 0)]) (st' := [(0, a), (2, 1)]) (by decide +kernel) rfl ?_
  refine zwW_cm C.1 (op := 60) (k' := 109) (n := 1) (kd := 12) (m := 13) (nx := 5) (r := 1) (tl := [(0, a)]) (st' := []) (by decide +kernel) rfl (by decide +kernel) rfl (x109 h C a (by omega)) ?_
  rintro v2 _ ⟨rfl, ⟨rfl, c1⟩ | ⟨Gv2, c1⟩⟩
  · refine zwW_p [(2, 3, 2), (1, 3, 2)] (q := 7) (ls' := [(2, 1), (0, a), (0, b), (2, 0)]) (st' := [(2, 0)]) (by decide +kernel) rfl ?_
    refine zwnu_ne (q := 13) (nx := 10) (by decide +kernel) (by decide) (fun c3 => ?_) (fun c3 => ?_)
    · exfalso; omega
    · refine zwW_p [(0, -2147483648, 0)] (q := 12) (ls' := [(2, 1), (0, a), (0, b), (2, 0)]) (st' := [(0, -2147483648)]) (by decide +kernel) rfl ?_
      refine zwW_ret (nx := 13) (a := 0) (b := 0) (by decide +kernel) rfl (Or.inl rfl) ?_
      exact ⟨rfl, by omega, by unfold yDueA; (repeat' (first | rw [if_pos (by omega)] | rw [if_neg (by omega)])); all_goals (first | rfl | omega)⟩
  · have lv2 := Gv2.1
    have ev2 := c1.2.2
    have pv2 : v2 = zv h 3 a.toNat ∧ ((a.toNat : Nat) : Int) < fld h 3 2 := ⟨ev2, by omega⟩
    refine zwW_p [(2, 3, 2), (1, 3, 2)] (q := 7) (ls' := [(2, 1), (0, a), (0, b), (2, v2)]) (st' := [(2, v2)]) (by decide +kernel) rfl ?_
    refine zwnu_ne (q := 13) (nx := 10) (by decide +kernel) (by omega) (fun c4 => ?_) (fun c4 => ?_)
    · refine zwW_p [(1, 2, 0)] (q := 14) (ls' := [(2, 1), (0, a), (0, b), (2, v2)]) (st' := [(0, b)]) (by decide +kernel) rfl ?_
      refine zwW_sw (d := 87) (os := [0, 48, 1, 58, 2, 63, 3, 68, 4, 82]) (by decide +kernel) ?_
      refine ⟨fun c5 => ?_, fun c5 => ?_⟩
      · show zwW _ _ _ 48 _ _ _ _
        refine zwW_p [(1, 3, 2)] (q := 49) (ls' := [(2, 1), (0, a), (0, b), (2, v2)]) (st' := [(2, v2)]) (by decide +kernel) rfl ?_
        refine zwX_gi C (kd := 4) (bn := 15) (n := 19) (nx := 52) (by decide +kernel) Gv2.2.1 Gv2.1 rfl ?_
        intro v6 ev6 lv6 uv6
        have sv6 : v6 = (yC h) 93 a.toNat := Eq.trans ev6 (Eq.trans (congrArg (fun q => fld h q 15) pv2.1) (Eq.trans (Eq.symm (yC_f (h := h) (a := 93) (A := 3) (j := 15) (i := a.toNat) rfl pv2.2)) (Eq.trans (congrFun (congrFun (rfl : yC h = yC h) 93) a.toNat) rfl)))
        refine zwW_p [(1, 3, 2)] (q := 53) (ls' := [(2, 1), (0, a), (0, b), (2, v2)]) (st' := [(2, v2), (0, v6)]) (by decide +kernel) rfl ?_
        refine zwX_gi C (kd := 4) (bn := 16) (n := 19) (nx := 56) (by decide +kernel) Gv2.2.1 Gv2.1 rfl ?_
        intro v7 ev7 lv7 uv7
        have sv7 : v7 = (yC h) 94 a.toNat := Eq.trans ev7 (Eq.trans (congrArg (fun q => fld h q 16) pv2.1) (Eq.trans (Eq.symm (yC_f (h := h) (a := 94) (A := 3) (j := 16) (i := a.toNat) rfl pv2.2)) (Eq.trans (congrFun (congrFun (rfl : yC h = yC h) 94) a.toNat) rfl)))
        refine zwW_sbw (nx := 57) (by decide +kernel) ?_
        intro v8 ev8 lv8 uv8
        have Ev8 : v8 = w32 (((yC h) 93 a.toNat) - ((yC h) 94 a.toNat)) := by rw [ev8, sv6, sv7]
        refine zwW_ret (nx := 58) (a := 0) (b := 0) (by decide +kernel) rfl (Or.inl rfl) ?_
        exact ⟨rfl, by omega, by unfold yDueA; (repeat' (first | rw [if_pos (by omega)] | rw [if_neg (by omega)])); all_goals (first | rfl | omega)⟩
      refine ⟨fun c9 => ?_, fun c9 => ?_⟩
      · show zwW _ _ _ 58 _ _ _ _
        refine zwW_p [(1, 3, 2)] (q := 59) (ls' := [(2, 1), (0, a), (0, b), (2, v2)]) (st' := [(2, v2)]) (by decide +kernel) rfl ?_
        refine zwX_gi C (kd := 4) (bn := 16) (n := 19) (nx := 62) (by decide +kernel) Gv2.2.1 Gv2.1 rfl ?_
        intro v10 ev10 lv10 uv10
        have sv10 : v10 = (yC h) 94 a.toNat := Eq.trans ev10 (Eq.trans (congrArg (fun q => fld h q 16) pv2.1) (Eq.trans (Eq.symm (yC_f (h := h) (a := 94) (A := 3) (j := 16) (i := a.toNat) rfl pv2.2)) (Eq.trans (congrFun (congrFun (rfl : yC h = yC h) 94) a.toNat) rfl)))
        refine zwW_ret (nx := 63) (a := 0) (b := 0) (by decide +kernel) rfl (Or.inl rfl) ?_
        exact ⟨rfl, by omega, by unfold yDueA; (repeat' (first | rw [if_pos (by omega)] | rw [if_neg (by omega)])); all_goals (first | rfl | omega)⟩
      refine ⟨fun c11 => ?_, fun c11 => ?_⟩
      · show zwW _ _ _ 63 _ _ _ _
        refine zwW_p [(1, 3, 2)] (q := 64) (ls' := [(2, 1), (0, a), (0, b), (2, v2)]) (st' := [(2, v2)]) (by decide +kernel) rfl ?_
        refine zwX_gi C (kd := 4) (bn := 18) (n := 19) (nx := 67) (by decide +kernel) Gv2.2.1 Gv2.1 rfl ?_
        intro v12 ev12 lv12 uv12
        have sv12 : v12 = (yC h) 95 a.toNat := Eq.trans ev12 (Eq.trans (congrArg (fun q => fld h q 18) pv2.1) (Eq.trans (Eq.symm (yC_f (h := h) (a := 95) (A := 3) (j := 18) (i := a.toNat) rfl pv2.2)) (Eq.trans (congrFun (congrFun (rfl : yC h = yC h) 95) a.toNat) rfl)))
        refine zwW_ret (nx := 68) (a := 0) (b := 0) (by decide +kernel) rfl (Or.inl rfl) ?_
        exact ⟨rfl, by omega, by unfold yDueA; (repeat' (first | rw [if_pos (by omega)] | rw [if_neg (by omega)])); all_goals (first | rfl | omega)⟩
      refine ⟨fun c13 => ?_, fun c13 => ?_⟩
      · show zwW _ _ _ 68 _ _ _ _
        refine zwW_p [(1, 3, 2)] (q := 69) (ls' := [(2, 1), (0, a), (0, b), (2, v2)]) (st' := [(2, v2)]) (by decide +kernel) rfl ?_
        refine zwX_gi C (kd := 4) (bn := 16) (n := 19) (nx := 72) (by decide +kernel) Gv2.2.1 Gv2.1 rfl ?_
        intro v14 ev14 lv14 uv14
        have sv14 : v14 = (yC h) 94 a.toNat := Eq.trans ev14 (Eq.trans (congrArg (fun q => fld h q 16) pv2.1) (Eq.trans (Eq.symm (yC_f (h := h) (a := 94) (A := 3) (j := 16) (i := a.toNat) rfl pv2.2)) (Eq.trans (congrFun (congrFun (rfl : yC h = yC h) 94) a.toNat) rfl)))
        refine zwW_p [(1, 3, 2)] (q := 73) (ls' := [(2, 1), (0, a), (0, b), (2, v2)]) (st' := [(2, v2), (0, v14)]) (by decide +kernel) rfl ?_
        refine zwX_gi C (kd := 4) (bn := 18) (n := 19) (nx := 76) (by decide +kernel) Gv2.2.1 Gv2.1 rfl ?_
        intro v15 ev15 lv15 uv15
        have sv15 : v15 = (yC h) 95 a.toNat := Eq.trans ev15 (Eq.trans (congrArg (fun q => fld h q 18) pv2.1) (Eq.trans (Eq.symm (yC_f (h := h) (a := 95) (A := 3) (j := 18) (i := a.toNat) rfl pv2.2)) (Eq.trans (congrFun (congrFun (rfl : yC h = yC h) 95) a.toNat) rfl)))
        refine zwW_sbw (nx := 77) (by decide +kernel) ?_
        intro v16 ev16 lv16 uv16
        have Ev16 : v16 = w32 (((yC h) 94 a.toNat) - ((yC h) 95 a.toNat)) := by rw [ev16, sv14, sv15]
        refine zwW_p [(0, 0, 0)] (q := 78) (ls' := [(2, 1), (0, a), (0, b), (2, v2)]) (st' := [(0, 0), (0, v16)]) (by decide +kernel) rfl ?_
        refine zwW_max (nx := 81) (by decide +kernel) rfl ?_
        intro v17 ev17
        have Ev17 : v17 = max (w32 (((yC h) 94 a.toNat) - ((yC h) 95 a.toNat))) 0 := by rw [ev17, Ev16]
        refine zwW_ret (nx := 82) (a := 0) (b := 0) (by decide +kernel) rfl (Or.inl rfl) ?_
        exact ⟨rfl, by omega, by unfold yDueA; (repeat' (first | rw [if_pos (by omega)] | rw [if_neg (by omega)])); all_goals (first | rfl | omega)⟩
      refine ⟨fun c18 => ?_, fun c18 => ?_⟩
      · show zwW _ _ _ 82 _ _ _ _
        refine zwW_p [(1, 3, 2)] (q := 83) (ls' := [(2, 1), (0, a), (0, b), (2, v2)]) (st' := [(2, v2)]) (by decide +kernel) rfl ?_
        refine zwX_gi C (kd := 4) (bn := 17) (n := 19) (nx := 86) (by decide +kernel) Gv2.2.1 Gv2.1 rfl ?_
        intro v19 ev19 lv19 uv19
        have sv19 : v19 = (yC h) 96 a.toNat := Eq.trans ev19 (Eq.trans (congrArg (fun q => fld h q 17) pv2.1) (Eq.trans (Eq.symm (yC_f (h := h) (a := 96) (A := 3) (j := 17) (i := a.toNat) rfl pv2.2)) (Eq.trans (congrFun (congrFun (rfl : yC h = yC h) 96) a.toNat) rfl)))
        refine zwW_ret (nx := 87) (a := 0) (b := 0) (by decide +kernel) rfl (Or.inl rfl) ?_
        exact ⟨rfl, by omega, by unfold yDueA; (repeat' (first | rw [if_pos (by omega)] | rw [if_neg (by omega)])); all_goals (first | rfl | omega)⟩
      show zwW _ _ _ 87 _ _ _ _
      refine zwW_p [(0, -2147483648, 0)] (q := 89) (ls' := [(2, 1), (0, a), (0, b), (2, v2)]) (st' := [(0, -2147483648)]) (by decide +kernel) rfl ?_
      refine zwW_ret (nx := 90) (a := 0) (b := 0) (by decide +kernel) rfl (Or.inl rfl) ?_
      exact ⟨rfl, by omega, by unfold yDueA; (repeat' (first | rw [if_pos (by omega)] | rw [if_neg (by omega)])); all_goals (first | rfl | omega)⟩
    · exfalso; omega
-- WheelLand.cloth(II)I
theorem x43_z {sc : List Int} (h : Hp) (C : CI h) (a b : Int) (q_a : -2147483648 ≤ a ∧ a ≤ 2147483647) (q_b : -2147483648 ≤ b ∧ b ≤ 2147483647) (J : yR h) (hS : ∀ i : Nat, 0 ≤ yC h 185 i ∧ yC h 185 i ≤ 1) : zwC sc 6 43 [(2, 1), (0, a), (0, b)] h (zwRt 0 (fun x g => h = g ∧ (-2147483648 ≤ x ∧ x ≤ 2147483647) ∧ (x = yClotA (yC h) a b))) := by
  refine zwC_of (D := 5) 4 (by decide +kernel) rfl (ls := [(2, 1), (0, a), (0, b), (9, 0)]) rfl ?_
  have u0 : yC h 37 0 = fld h 1 0 := rfl
  have u1 : yC h 37 1 = fld h 2 2 := rfl
  have u2 : yC h 37 2 = fld h 3 2 := rfl
  have u64 : yC h 37 64 = fld h 4 2 := rfl
  have u78 : yC h 37 78 = fld h 5 2 := rfl
  have b185 := hS a.toNat
  refine zwW_p [(1, 0, 2), (1, 1, 0)] (q := 2) (ls' := [(2, 1), (0, a), (0, b), (9, 0)]) (st' := [(0, a), (2, 1)]) (by decide +kernel) rfl ?_
  refine zwW_cm C.1 (op := 60) (k' := 138) (n := 1) (kd := 12) (m := 13) (nx := 5) (r := 1) (tl := [(0, a)]) (st' := []) (by decide +kernel) rfl (by decide +kernel) rfl (x138 h C a (by omega)) ?_
  rintro v2 _ ⟨rfl, ⟨rfl, c1⟩ | ⟨Gv2, c1⟩⟩
  · refine zwW_p [(2, 3, 2), (1, 3, 2)] (q := 7) (ls' := [(2, 1), (0, a), (0, b), (2, 0)]) (st' := [(2, 0)]) (by decide +kernel) rfl ?_
    refine zwnu_ne (q := 12) (nx := 10) (by decide +kernel) (by decide) (fun c3 => ?_) (fun c3 => ?_)
    · exfalso; omega
    · refine zwW_p [(0, -1, 0)] (q := 11) (ls' := [(2, 1), (0, a), (0, b), (2, 0)]) (st' := [(0, -1)]) (by decide +kernel) rfl ?_
      refine zwW_ret (nx := 12) (a := 0) (b := 0) (by decide +kernel) rfl (Or.inl rfl) ?_
      exact ⟨rfl, by omega, by unfold yClotA; (repeat' (first | rw [if_neg (by omega)] | rw [if_pos (by omega)])); all_goals (first | rfl | omega)⟩
  · have lv2 := Gv2.1
    have ev2 := c1.2.2
    have pv2 : v2 = zv h 5 a.toNat ∧ ((a.toNat : Nat) : Int) < fld h 5 2 := ⟨ev2, by omega⟩
    refine zwW_p [(2, 3, 2), (1, 3, 2)] (q := 7) (ls' := [(2, 1), (0, a), (0, b), (2, v2)]) (st' := [(2, v2)]) (by decide +kernel) rfl ?_
    refine zwnu_ne (q := 12) (nx := 10) (by decide +kernel) (by omega) (fun c4 => ?_) (fun c4 => ?_)
    · refine zwW_p [(1, 2, 0)] (q := 13) (ls' := [(2, 1), (0, a), (0, b), (2, v2)]) (st' := [(0, b)]) (by decide +kernel) rfl ?_
      refine zwW_sw (d := 123) (os := [0, 60, 1, 68, 2, 76, 3, 81, 4, 86, 5, 99, 6, 110, 7, 118]) (by decide +kernel) ?_
      refine ⟨fun c5 => ?_, fun c5 => ?_⟩
      · show zwW _ _ _ 60 _ _ _ _
        refine zwW_p [(1, 3, 2)] (q := 61) (ls' := [(2, 1), (0, a), (0, b), (2, v2)]) (st' := [(2, v2)]) (by decide +kernel) rfl ?_
        refine zwW_get (kd := 1) (bn := 0) (t := 2) (n := 6) (nx := 64) (by decide +kernel) Gv2.2.1 rfl ?_
        obtain ⟨v6, ev6⟩ : ∃ z, z = fld h v2 0 := ⟨_, rfl⟩
        rw [← ev6]
        have Gv6 : gL h v6 := by rw [ev6]; exact Gv2.2.2.1
        have lv6 := Gv6.1
        have qv6 : yC h 180 a.toNat = (yC h) 180 a.toNat := Eq.trans (congrFun (congrFun (rfl : yC h = yC h) 180) a.toNat) rfl
        have wv6 := J.r (a := 180) (A := 5) (j := 0) (B := 4) (i := a.toNat) rfl pv2.2
        rw [qv6] at wv6
        have pv6 : v6 = zv h 4 (((yC h) 180 a.toNat).toNat) ∧ ((((yC h) 180 a.toNat).toNat : Nat) : Int) < fld h 4 2 := ⟨by rw [ev6, pv2.1]; exact wv6.2.2, wv6.2.1⟩
        refine zwX_gi C (kd := 6) (bn := 0) (n := 7) (nx := 67) (by decide +kernel) Gv6.2.1 Gv6.1 rfl ?_
        intro v7 ev7 lv7 uv7
        have sv7 : v7 = ((((yC h) 180 a.toNat).toNat : Nat) : Int) := Eq.trans ev7 (Eq.trans (congrArg (fun q => fld h q 0) pv6.1) (J.1 4 (by decide) _ pv6.2))
        refine zwW_ret (nx := 68) (a := 0) (b := 0) (by decide +kernel) rfl (Or.inl rfl) ?_
        exact ⟨rfl, by omega, by unfold yClotA; (repeat' (first | rw [if_pos (by omega)] | rw [if_neg (by omega)])); all_goals (first | rfl | omega)⟩
      refine ⟨fun c8 => ?_, fun c8 => ?_⟩
      · show zwW _ _ _ 68 _ _ _ _
        refine zwW_p [(1, 3, 2)] (q := 69) (ls' := [(2, 1), (0, a), (0, b), (2, v2)]) (st' := [(2, v2)]) (by decide +kernel) rfl ?_
        refine zwW_get (kd := 1) (bn := 1) (t := 2) (n := 6) (nx := 72) (by decide +kernel) Gv2.2.1 rfl ?_
        obtain ⟨v9, ev9⟩ : ∃ z, z = fld h v2 1 := ⟨_, rfl⟩
        rw [← ev9]
        have Gv9 : gH h v9 := by rw [ev9]; exact Gv2.2.2.2
        have lv9 := Gv9.1
        have qv9 : yC h 181 a.toNat = (yC h) 181 a.toNat := Eq.trans (congrFun (congrFun (rfl : yC h = yC h) 181) a.toNat) rfl
        have wv9 := J.r (a := 181) (A := 5) (j := 1) (B := 3) (i := a.toNat) rfl pv2.2
        rw [qv9] at wv9
        have pv9 : v9 = zv h 3 (((yC h) 181 a.toNat).toNat) ∧ ((((yC h) 181 a.toNat).toNat : Nat) : Int) < fld h 3 2 := ⟨by rw [ev9, pv2.1]; exact wv9.2.2, wv9.2.1⟩
        refine zwX_gi C (kd := 4) (bn := 0) (n := 19) (nx := 75) (by decide +kernel) Gv9.2.1 Gv9.1 rfl ?_
        intro v10 ev10 lv10 uv10
        have sv10 : v10 = ((((yC h) 181 a.toNat).toNat : Nat) : Int) := Eq.trans ev10 (Eq.trans (congrArg (fun q => fld h q 0) pv9.1) (J.1 3 (by decide) _ pv9.2))
        refine zwW_ret (nx := 76) (a := 0) (b := 0) (by decide +kernel) rfl (Or.inl rfl) ?_
        exact ⟨rfl, by omega, by unfold yClotA; (repeat' (first | rw [if_pos (by omega)] | rw [if_neg (by omega)])); all_goals (first | rfl | omega)⟩
      refine ⟨fun c11 => ?_, fun c11 => ?_⟩
      · show zwW _ _ _ 76 _ _ _ _
        refine zwW_p [(1, 3, 2)] (q := 77) (ls' := [(2, 1), (0, a), (0, b), (2, v2)]) (st' := [(2, v2)]) (by decide +kernel) rfl ?_
        refine zwX_gi C (kd := 1) (bn := 2) (n := 6) (nx := 80) (by decide +kernel) Gv2.2.1 Gv2.1 rfl ?_
        intro v12 ev12 lv12 uv12
        have sv12 : v12 = (yC h) 182 a.toNat := Eq.trans ev12 (Eq.trans (congrArg (fun q => fld h q 2) pv2.1) (Eq.trans (Eq.symm (yC_f (h := h) (a := 182) (A := 5) (j := 2) (i := a.toNat) rfl pv2.2)) (Eq.trans (congrFun (congrFun (rfl : yC h = yC h) 182) a.toNat) rfl)))
        refine zwW_ret (nx := 81) (a := 0) (b := 0) (by decide +kernel) rfl (Or.inl rfl) ?_
        exact ⟨rfl, by omega, by unfold yClotA; (repeat' (first | rw [if_pos (by omega)] | rw [if_neg (by omega)])); all_goals (first | rfl | omega)⟩
      refine ⟨fun c13 => ?_, fun c13 => ?_⟩
      · show zwW _ _ _ 81 _ _ _ _
        refine zwW_p [(1, 3, 2)] (q := 82) (ls' := [(2, 1), (0, a), (0, b), (2, v2)]) (st' := [(2, v2)]) (by decide +kernel) rfl ?_
        refine zwX_gi C (kd := 1) (bn := 3) (n := 6) (nx := 85) (by decide +kernel) Gv2.2.1 Gv2.1 rfl ?_
        intro v14 ev14 lv14 uv14
        have sv14 : v14 = (yC h) 183 a.toNat := Eq.trans ev14 (Eq.trans (congrArg (fun q => fld h q 3) pv2.1) (Eq.trans (Eq.symm (yC_f (h := h) (a := 183) (A := 5) (j := 3) (i := a.toNat) rfl pv2.2)) (Eq.trans (congrFun (congrFun (rfl : yC h = yC h) 183) a.toNat) rfl)))
        refine zwW_ret (nx := 86) (a := 0) (b := 0) (by decide +kernel) rfl (Or.inl rfl) ?_
        exact ⟨rfl, by omega, by unfold yClotA; (repeat' (first | rw [if_pos (by omega)] | rw [if_neg (by omega)])); all_goals (first | rfl | omega)⟩
      refine ⟨fun c15 => ?_, fun c15 => ?_⟩
      · show zwW _ _ _ 86 _ _ _ _
        refine zwW_p [(1, 3, 2)] (q := 87) (ls' := [(2, 1), (0, a), (0, b), (2, v2)]) (st' := [(2, v2)]) (by decide +kernel) rfl ?_
        refine zwW_get (kd := 1) (bn := 4) (t := 0) (n := 6) (nx := 90) (by decide +kernel) Gv2.2.1 rfl ?_
        obtain ⟨v16, ev16⟩ : ∃ z, z = fld h v2 4 := ⟨_, rfl⟩
        rw [← ev16]
        have sv16 : v16 = (yC h) 185 a.toNat := Eq.trans ev16 (Eq.trans (congrArg (fun q => fld h q 4) pv2.1) (Eq.trans (Eq.symm (yC_f (h := h) (a := 185) (A := 5) (j := 4) (i := a.toNat) rfl pv2.2)) (Eq.trans (congrFun (congrFun (rfl : yC h = yC h) 185) a.toNat) rfl)))
        refine zwif_eq (q := 97) (nx := 93) (by decide +kernel) (fun c17 => ?_) (fun c17 => ?_)
        · refine zwW_p [(0, 0, 0)] (q := 98) (ls' := [(2, 1), (0, a), (0, b), (2, v2)]) (st' := [(0, 0)]) (by decide +kernel) rfl ?_
          refine zwW_ret (nx := 99) (a := 0) (b := 0) (by decide +kernel) rfl (Or.inl rfl) ?_
          exact ⟨rfl, by omega, by unfold yClotA; (repeat' (first | rw [if_pos (by omega)] | rw [if_neg (by omega)])); all_goals (first | rfl | omega)⟩
        · refine zwW_p [(0, 1, 0), (24, 98, 0)] (q := 98) (ls' := [(2, 1), (0, a), (0, b), (2, v2)]) (st' := [(0, 1)]) (by decide +kernel) rfl ?_
          refine zwW_ret (nx := 99) (a := 0) (b := 0) (by decide +kernel) rfl (Or.inl rfl) ?_
          exact ⟨rfl, by omega, by unfold yClotA; (repeat' (first | rw [if_pos (by omega)] | rw [if_neg (by omega)])); all_goals (first | rfl | omega)⟩
      refine ⟨fun c18 => ?_, fun c18 => ?_⟩
      · show zwW _ _ _ 99 _ _ _ _
        refine zwW_p [(1, 3, 2)] (q := 100) (ls' := [(2, 1), (0, a), (0, b), (2, v2)]) (st' := [(2, v2)]) (by decide +kernel) rfl ?_
        refine zwW_get (kd := 1) (bn := 0) (t := 2) (n := 6) (nx := 103) (by decide +kernel) Gv2.2.1 rfl ?_
        obtain ⟨v19, ev19⟩ : ∃ z, z = fld h v2 0 := ⟨_, rfl⟩
        rw [← ev19]
        have Gv19 : gL h v19 := by rw [ev19]; exact Gv2.2.2.1
        have lv19 := Gv19.1
        have qv19 : yC h 180 a.toNat = (yC h) 180 a.toNat := Eq.trans (congrFun (congrFun (rfl : yC h = yC h) 180) a.toNat) rfl
        have wv19 := J.r (a := 180) (A := 5) (j := 0) (B := 4) (i := a.toNat) rfl pv2.2
        rw [qv19] at wv19
        have pv19 : v19 = zv h 4 (((yC h) 180 a.toNat).toNat) ∧ ((((yC h) 180 a.toNat).toNat : Nat) : Int) < fld h 4 2 := ⟨by rw [ev19, pv2.1]; exact wv19.2.2, wv19.2.1⟩
        refine zwW_get (kd := 6) (bn := 1) (t := 2) (n := 7) (nx := 106) (by decide +kernel) Gv19.2.1 rfl ?_
        obtain ⟨v20, ev20⟩ : ∃ z, z = fld h v19 1 := ⟨_, rfl⟩
        rw [← ev20]
        have Gv20 : gH h v20 := by rw [ev20]; exact Gv19.2.2
        have lv20 := Gv20.1
        have qv20 : yC h 170 (((yC h) 180 a.toNat).toNat) = (yC h) 170 (((yC h) 180 a.toNat).toNat) := Eq.trans (congrFun (congrFun (rfl : yC h = yC h) 170) (((yC h) 180 a.toNat).toNat)) rfl
        have wv20 := J.r (a := 170) (A := 4) (j := 1) (B := 3) (i := ((yC h) 180 a.toNat).toNat) rfl pv19.2
        rw [qv20] at wv20
        have pv20 : v20 = zv h 3 (((yC h) 170 (((yC h) 180 a.toNat).toNat)).toNat) ∧ ((((yC h) 170 (((yC h) 180 a.toNat).toNat)).toNat : Nat) : Int) < fld h 3 2 := ⟨by rw [ev20, pv19.1]; exact wv20.2.2, wv20.2.1⟩
        refine zwX_gi C (kd := 4) (bn := 0) (n := 19) (nx := 109) (by decide +kernel) Gv20.2.1 Gv20.1 rfl ?_
        intro v21 ev21 lv21 uv21
        have sv21 : v21 = ((((yC h) 170 (((yC h) 180 a.toNat).toNat)).toNat : Nat) : Int) := Eq.trans ev21 (Eq.trans (congrArg (fun q => fld h q 0) pv20.1) (J.1 3 (by decide) _ pv20.2))
        refine zwW_ret (nx := 110) (a := 0) (b := 0) (by decide +kernel) rfl (Or.inl rfl) ?_
        exact ⟨rfl, by omega, by unfold yClotA; (repeat' (first | rw [if_pos (by omega)] | rw [if_neg (by omega)])); all_goals (first | rfl | omega)⟩
      refine ⟨fun c22 => ?_, fun c22 => ?_⟩
      · show zwW _ _ _ 110 _ _ _ _
        refine zwW_p [(1, 3, 2)] (q := 111) (ls' := [(2, 1), (0, a), (0, b), (2, v2)]) (st' := [(2, v2)]) (by decide +kernel) rfl ?_
        refine zwW_get (kd := 1) (bn := 0) (t := 2) (n := 6) (nx := 114) (by decide +kernel) Gv2.2.1 rfl ?_
        obtain ⟨v23, ev23⟩ : ∃ z, z = fld h v2 0 := ⟨_, rfl⟩
        rw [← ev23]
        have Gv23 : gL h v23 := by rw [ev23]; exact Gv2.2.2.1
        have lv23 := Gv23.1
        have qv23 : yC h 180 a.toNat = (yC h) 180 a.toNat := Eq.trans (congrFun (congrFun (rfl : yC h = yC h) 180) a.toNat) rfl
        have wv23 := J.r (a := 180) (A := 5) (j := 0) (B := 4) (i := a.toNat) rfl pv2.2
        rw [qv23] at wv23
        have pv23 : v23 = zv h 4 (((yC h) 180 a.toNat).toNat) ∧ ((((yC h) 180 a.toNat).toNat : Nat) : Int) < fld h 4 2 := ⟨by rw [ev23, pv2.1]; exact wv23.2.2, wv23.2.1⟩
        refine zwX_gi C (kd := 6) (bn := 2) (n := 7) (nx := 117) (by decide +kernel) Gv23.2.1 Gv23.1 rfl ?_
        intro v24 ev24 lv24 uv24
        have sv24 : v24 = (yC h) 171 (((yC h) 180 a.toNat).toNat) := Eq.trans ev24 (Eq.trans (congrArg (fun q => fld h q 2) pv23.1) (Eq.trans (Eq.symm (yC_f (h := h) (a := 171) (A := 4) (j := 2) (i := ((yC h) 180 a.toNat).toNat) rfl pv23.2)) (Eq.trans (congrFun (congrFun (rfl : yC h = yC h) 171) (((yC h) 180 a.toNat).toNat)) rfl)))
        refine zwW_ret (nx := 118) (a := 0) (b := 0) (by decide +kernel) rfl (Or.inl rfl) ?_
        exact ⟨rfl, by omega, by unfold yClotA; (repeat' (first | rw [if_pos (by omega)] | rw [if_neg (by omega)])); all_goals (first | rfl | omega)⟩
      refine ⟨fun c25 => ?_, fun c25 => ?_⟩
      · show zwW _ _ _ 118 _ _ _ _
        refine zwW_p [(1, 3, 2)] (q := 119) (ls' := [(2, 1), (0, a), (0, b), (2, v2)]) (st' := [(2, v2)]) (by decide +kernel) rfl ?_
        refine zwX_gi C (kd := 1) (bn := 5) (n := 6) (nx := 122) (by decide +kernel) Gv2.2.1 Gv2.1 rfl ?_
        intro v26 ev26 lv26 uv26
        have sv26 : v26 = (yC h) 184 a.toNat := Eq.trans ev26 (Eq.trans (congrArg (fun q => fld h q 5) pv2.1) (Eq.trans (Eq.symm (yC_f (h := h) (a := 184) (A := 5) (j := 5) (i := a.toNat) rfl pv2.2)) (Eq.trans (congrFun (congrFun (rfl : yC h = yC h) 184) a.toNat) rfl)))
        refine zwW_ret (nx := 123) (a := 0) (b := 0) (by decide +kernel) rfl (Or.inl rfl) ?_
        exact ⟨rfl, by omega, by unfold yClotA; (repeat' (first | rw [if_pos (by omega)] | rw [if_neg (by omega)])); all_goals (first | rfl | omega)⟩
      show zwW _ _ _ 123 _ _ _ _
      refine zwW_p [(0, -1, 0)] (q := 124) (ls' := [(2, 1), (0, a), (0, b), (2, v2)]) (st' := [(0, -1)]) (by decide +kernel) rfl ?_
      refine zwW_ret (nx := 125) (a := 0) (b := 0) (by decide +kernel) rfl (Or.inl rfl) ?_
      exact ⟨rfl, by omega, by unfold yClotA; (repeat' (first | rw [if_neg (by omega)] | rw [if_pos (by omega)])); all_goals (first | rfl | omega)⟩
    · exfalso; omega
-- WheelLand.is(II)I
theorem x83_z {sc : List Int} (h : Hp) (C : CI h) (a b : Int) (q_a : -2147483648 ≤ a ∧ a ≤ 2147483647) (q_b : -2147483648 ≤ b ∧ b ≤ 2147483647) (J : yR h) : zwC sc 6 83 [(2, 1), (0, a), (0, b)] h (zwRt 0 (fun x g => h = g ∧ (-2147483648 ≤ x ∧ x ≤ 2147483647) ∧ (x = yIsA (yC h) a b))) := by
  refine zwC_of (D := 5) 4 (by decide +kernel) rfl (ls := [(2, 1), (0, a), (0, b), (9, 0)]) rfl ?_
  have u0 : yC h 37 0 = fld h 1 0 := rfl
  have u1 : yC h 37 1 = fld h 2 2 := rfl
  have u2 : yC h 37 2 = fld h 3 2 := rfl
  have u64 : yC h 37 64 = fld h 4 2 := rfl
  have u78 : yC h 37 78 = fld h 5 2 := rfl
  refine zwW_p [(1, 0, 2), (1, 1, 0)] (q := 2) (ls' := [(2, 1), (0, a), (0, b), (9, 0)]) (st' := [(0, a), (2, 1)]) (by decide +kernel) rfl ?_
  refine zwW_cm C.1 (op := 60) (k' := 102) (n := 1) (kd := 12) (m := 13) (nx := 5) (r := 1) (tl := [(0, a)]) (st' := []) (by decide +kernel) rfl (by decide +kernel) rfl (x102 h C a (by omega)) ?_
  rintro v2 _ ⟨rfl, ⟨rfl, c1⟩ | ⟨Gv2, c1⟩⟩
  · refine zwW_p [(2, 3, 2), (1, 3, 2)] (q := 7) (ls' := [(2, 1), (0, a), (0, b), (2, 0)]) (st' := [(2, 0)]) (by decide +kernel) rfl ?_
    refine zwnu_ne (q := 12) (nx := 10) (by decide +kernel) (by decide) (fun c3 => ?_) (fun c3 => ?_)
    · exfalso; omega
    · refine zwW_p [(0, -1, 0)] (q := 11) (ls' := [(2, 1), (0, a), (0, b), (2, 0)]) (st' := [(0, -1)]) (by decide +kernel) rfl ?_
      refine zwW_ret (nx := 12) (a := 0) (b := 0) (by decide +kernel) rfl (Or.inl rfl) ?_
      exact ⟨rfl, by omega, by unfold yIsA; (repeat' (first | rw [if_neg (by omega)] | rw [if_pos (by omega)])); all_goals (first | rfl | omega)⟩
  · have lv2 := Gv2.1
    have ev2 := c1.2.2
    have pv2 : v2 = zv h 2 a.toNat ∧ ((a.toNat : Nat) : Int) < fld h 2 2 := ⟨ev2, by omega⟩
    refine zwW_p [(2, 3, 2), (1, 3, 2)] (q := 7) (ls' := [(2, 1), (0, a), (0, b), (2, v2)]) (st' := [(2, v2)]) (by decide +kernel) rfl ?_
    refine zwnu_ne (q := 12) (nx := 10) (by decide +kernel) (by omega) (fun c4 => ?_) (fun c4 => ?_)
    · refine zwW_p [(1, 2, 0)] (q := 13) (ls' := [(2, 1), (0, a), (0, b), (2, v2)]) (st' := [(0, b)]) (by decide +kernel) rfl ?_
      refine zwW_sw (d := 127) (os := [0, 72, 1, 77, 2, 82, 3, 87, 4, 92, 5, 97, 6, 102, 7, 107, 8, 112, 9, 117, 10, 122]) (by decide +kernel) ?_
      refine ⟨fun c5 => ?_, fun c5 => ?_⟩
      · show zwW _ _ _ 72 _ _ _ _
        refine zwW_p [(1, 3, 2)] (q := 73) (ls' := [(2, 1), (0, a), (0, b), (2, v2)]) (st' := [(2, v2)]) (by decide +kernel) rfl ?_
        refine zwX_gi C (kd := 11) (bn := 3) (n := 17) (nx := 76) (by decide +kernel) Gv2.2.1 Gv2.1 rfl ?_
        intro v6 ev6 lv6 uv6
        have sv6 : v6 = (yC h) 66 a.toNat := Eq.trans ev6 (Eq.trans (congrArg (fun q => fld h q 3) pv2.1) (Eq.trans (Eq.symm (yC_f (h := h) (a := 66) (A := 2) (j := 3) (i := a.toNat) rfl pv2.2)) (Eq.trans (congrFun (congrFun (rfl : yC h = yC h) 66) a.toNat) rfl)))
        refine zwW_ret (nx := 77) (a := 0) (b := 0) (by decide +kernel) rfl (Or.inl rfl) ?_
        exact ⟨rfl, by omega, by unfold yIsA; (repeat' (first | rw [if_pos (by omega)] | rw [if_neg (by omega)])); all_goals (first | rfl | omega)⟩
      refine ⟨fun c7 => ?_, fun c7 => ?_⟩
      · show zwW _ _ _ 77 _ _ _ _
        refine zwW_p [(1, 3, 2)] (q := 78) (ls' := [(2, 1), (0, a), (0, b), (2, v2)]) (st' := [(2, v2)]) (by decide +kernel) rfl ?_
        refine zwX_gi C (kd := 11) (bn := 5) (n := 17) (nx := 81) (by decide +kernel) Gv2.2.1 Gv2.1 rfl ?_
        intro v8 ev8 lv8 uv8
        have sv8 : v8 = (yC h) 67 a.toNat := Eq.trans ev8 (Eq.trans (congrArg (fun q => fld h q 5) pv2.1) (Eq.trans (Eq.symm (yC_f (h := h) (a := 67) (A := 2) (j := 5) (i := a.toNat) rfl pv2.2)) (Eq.trans (congrFun (congrFun (rfl : yC h = yC h) 67) a.toNat) rfl)))
        refine zwW_ret (nx := 82) (a := 0) (b := 0) (by decide +kernel) rfl (Or.inl rfl) ?_
        exact ⟨rfl, by omega, by unfold yIsA; (repeat' (first | rw [if_pos (by omega)] | rw [if_neg (by omega)])); all_goals (first | rfl | omega)⟩
      refine ⟨fun c9 => ?_, fun c9 => ?_⟩
      · show zwW _ _ _ 82 _ _ _ _
        refine zwW_p [(1, 3, 2)] (q := 83) (ls' := [(2, 1), (0, a), (0, b), (2, v2)]) (st' := [(2, v2)]) (by decide +kernel) rfl ?_
        refine zwX_gi C (kd := 11) (bn := 6) (n := 17) (nx := 86) (by decide +kernel) Gv2.2.1 Gv2.1 rfl ?_
        intro v10 ev10 lv10 uv10
        have sv10 : v10 = (yC h) 68 a.toNat := Eq.trans ev10 (Eq.trans (congrArg (fun q => fld h q 6) pv2.1) (Eq.trans (Eq.symm (yC_f (h := h) (a := 68) (A := 2) (j := 6) (i := a.toNat) rfl pv2.2)) (Eq.trans (congrFun (congrFun (rfl : yC h = yC h) 68) a.toNat) rfl)))
        refine zwW_ret (nx := 87) (a := 0) (b := 0) (by decide +kernel) rfl (Or.inl rfl) ?_
        exact ⟨rfl, by omega, by unfold yIsA; (repeat' (first | rw [if_pos (by omega)] | rw [if_neg (by omega)])); all_goals (first | rfl | omega)⟩
      refine ⟨fun c11 => ?_, fun c11 => ?_⟩
      · show zwW _ _ _ 87 _ _ _ _
        refine zwW_p [(1, 3, 2)] (q := 88) (ls' := [(2, 1), (0, a), (0, b), (2, v2)]) (st' := [(2, v2)]) (by decide +kernel) rfl ?_
        refine zwX_gi C (kd := 11) (bn := 7) (n := 17) (nx := 91) (by decide +kernel) Gv2.2.1 Gv2.1 rfl ?_
        intro v12 ev12 lv12 uv12
        have sv12 : v12 = (yC h) 69 a.toNat := Eq.trans ev12 (Eq.trans (congrArg (fun q => fld h q 7) pv2.1) (Eq.trans (Eq.symm (yC_f (h := h) (a := 69) (A := 2) (j := 7) (i := a.toNat) rfl pv2.2)) (Eq.trans (congrFun (congrFun (rfl : yC h = yC h) 69) a.toNat) rfl)))
        refine zwW_ret (nx := 92) (a := 0) (b := 0) (by decide +kernel) rfl (Or.inl rfl) ?_
        exact ⟨rfl, by omega, by unfold yIsA; (repeat' (first | rw [if_pos (by omega)] | rw [if_neg (by omega)])); all_goals (first | rfl | omega)⟩
      refine ⟨fun c13 => ?_, fun c13 => ?_⟩
      · show zwW _ _ _ 92 _ _ _ _
        refine zwW_p [(1, 3, 2)] (q := 93) (ls' := [(2, 1), (0, a), (0, b), (2, v2)]) (st' := [(2, v2)]) (by decide +kernel) rfl ?_
        refine zwX_gi C (kd := 11) (bn := 8) (n := 17) (nx := 96) (by decide +kernel) Gv2.2.1 Gv2.1 rfl ?_
        intro v14 ev14 lv14 uv14
        have sv14 : v14 = (yC h) 70 a.toNat := Eq.trans ev14 (Eq.trans (congrArg (fun q => fld h q 8) pv2.1) (Eq.trans (Eq.symm (yC_f (h := h) (a := 70) (A := 2) (j := 8) (i := a.toNat) rfl pv2.2)) (Eq.trans (congrFun (congrFun (rfl : yC h = yC h) 70) a.toNat) rfl)))
        refine zwW_ret (nx := 97) (a := 0) (b := 0) (by decide +kernel) rfl (Or.inl rfl) ?_
        exact ⟨rfl, by omega, by unfold yIsA; (repeat' (first | rw [if_pos (by omega)] | rw [if_neg (by omega)])); all_goals (first | rfl | omega)⟩
      refine ⟨fun c15 => ?_, fun c15 => ?_⟩
      · show zwW _ _ _ 97 _ _ _ _
        refine zwW_p [(1, 3, 2)] (q := 98) (ls' := [(2, 1), (0, a), (0, b), (2, v2)]) (st' := [(2, v2)]) (by decide +kernel) rfl ?_
        refine zwX_gi C (kd := 11) (bn := 9) (n := 17) (nx := 101) (by decide +kernel) Gv2.2.1 Gv2.1 rfl ?_
        intro v16 ev16 lv16 uv16
        have sv16 : v16 = (yC h) 71 a.toNat := Eq.trans ev16 (Eq.trans (congrArg (fun q => fld h q 9) pv2.1) (Eq.trans (Eq.symm (yC_f (h := h) (a := 71) (A := 2) (j := 9) (i := a.toNat) rfl pv2.2)) (Eq.trans (congrFun (congrFun (rfl : yC h = yC h) 71) a.toNat) rfl)))
        refine zwW_ret (nx := 102) (a := 0) (b := 0) (by decide +kernel) rfl (Or.inl rfl) ?_
        exact ⟨rfl, by omega, by unfold yIsA; (repeat' (first | rw [if_pos (by omega)] | rw [if_neg (by omega)])); all_goals (first | rfl | omega)⟩
      refine ⟨fun c17 => ?_, fun c17 => ?_⟩
      · show zwW _ _ _ 102 _ _ _ _
        refine zwW_p [(1, 3, 2)] (q := 103) (ls' := [(2, 1), (0, a), (0, b), (2, v2)]) (st' := [(2, v2)]) (by decide +kernel) rfl ?_
        refine zwX_gi C (kd := 11) (bn := 4) (n := 17) (nx := 106) (by decide +kernel) Gv2.2.1 Gv2.1 rfl ?_
        intro v18 ev18 lv18 uv18
        have sv18 : v18 = (yC h) 72 a.toNat := Eq.trans ev18 (Eq.trans (congrArg (fun q => fld h q 4) pv2.1) (Eq.trans (Eq.symm (yC_f (h := h) (a := 72) (A := 2) (j := 4) (i := a.toNat) rfl pv2.2)) (Eq.trans (congrFun (congrFun (rfl : yC h = yC h) 72) a.toNat) rfl)))
        refine zwW_ret (nx := 107) (a := 0) (b := 0) (by decide +kernel) rfl (Or.inl rfl) ?_
        exact ⟨rfl, by omega, by unfold yIsA; (repeat' (first | rw [if_pos (by omega)] | rw [if_neg (by omega)])); all_goals (first | rfl | omega)⟩
      refine ⟨fun c19 => ?_, fun c19 => ?_⟩
      · show zwW _ _ _ 107 _ _ _ _
        refine zwW_p [(1, 3, 2)] (q := 108) (ls' := [(2, 1), (0, a), (0, b), (2, v2)]) (st' := [(2, v2)]) (by decide +kernel) rfl ?_
        refine zwX_gi C (kd := 11) (bn := 10) (n := 17) (nx := 111) (by decide +kernel) Gv2.2.1 Gv2.1 rfl ?_
        intro v20 ev20 lv20 uv20
        have sv20 : v20 = (yC h) 73 a.toNat := Eq.trans ev20 (Eq.trans (congrArg (fun q => fld h q 10) pv2.1) (Eq.trans (Eq.symm (yC_f (h := h) (a := 73) (A := 2) (j := 10) (i := a.toNat) rfl pv2.2)) (Eq.trans (congrFun (congrFun (rfl : yC h = yC h) 73) a.toNat) rfl)))
        refine zwW_ret (nx := 112) (a := 0) (b := 0) (by decide +kernel) rfl (Or.inl rfl) ?_
        exact ⟨rfl, by omega, by unfold yIsA; (repeat' (first | rw [if_pos (by omega)] | rw [if_neg (by omega)])); all_goals (first | rfl | omega)⟩
      refine ⟨fun c21 => ?_, fun c21 => ?_⟩
      · show zwW _ _ _ 112 _ _ _ _
        refine zwW_p [(1, 3, 2)] (q := 113) (ls' := [(2, 1), (0, a), (0, b), (2, v2)]) (st' := [(2, v2)]) (by decide +kernel) rfl ?_
        refine zwX_gi C (kd := 11) (bn := 11) (n := 17) (nx := 116) (by decide +kernel) Gv2.2.1 Gv2.1 rfl ?_
        intro v22 ev22 lv22 uv22
        have sv22 : v22 = (yC h) 74 a.toNat := Eq.trans ev22 (Eq.trans (congrArg (fun q => fld h q 11) pv2.1) (Eq.trans (Eq.symm (yC_f (h := h) (a := 74) (A := 2) (j := 11) (i := a.toNat) rfl pv2.2)) (Eq.trans (congrFun (congrFun (rfl : yC h = yC h) 74) a.toNat) rfl)))
        refine zwW_ret (nx := 117) (a := 0) (b := 0) (by decide +kernel) rfl (Or.inl rfl) ?_
        exact ⟨rfl, by omega, by unfold yIsA; (repeat' (first | rw [if_pos (by omega)] | rw [if_neg (by omega)])); all_goals (first | rfl | omega)⟩
      refine ⟨fun c23 => ?_, fun c23 => ?_⟩
      · show zwW _ _ _ 117 _ _ _ _
        refine zwW_p [(1, 3, 2)] (q := 118) (ls' := [(2, 1), (0, a), (0, b), (2, v2)]) (st' := [(2, v2)]) (by decide +kernel) rfl ?_
        refine zwX_gi C (kd := 11) (bn := 13) (n := 17) (nx := 121) (by decide +kernel) Gv2.2.1 Gv2.1 rfl ?_
        intro v24 ev24 lv24 uv24
        have sv24 : v24 = (yC h) 76 a.toNat := Eq.trans ev24 (Eq.trans (congrArg (fun q => fld h q 13) pv2.1) (Eq.trans (Eq.symm (yC_f (h := h) (a := 76) (A := 2) (j := 13) (i := a.toNat) rfl pv2.2)) (Eq.trans (congrFun (congrFun (rfl : yC h = yC h) 76) a.toNat) rfl)))
        refine zwW_ret (nx := 122) (a := 0) (b := 0) (by decide +kernel) rfl (Or.inl rfl) ?_
        exact ⟨rfl, by omega, by unfold yIsA; (repeat' (first | rw [if_pos (by omega)] | rw [if_neg (by omega)])); all_goals (first | rfl | omega)⟩
      refine ⟨fun c25 => ?_, fun c25 => ?_⟩
      · show zwW _ _ _ 122 _ _ _ _
        refine zwW_p [(1, 3, 2)] (q := 123) (ls' := [(2, 1), (0, a), (0, b), (2, v2)]) (st' := [(2, v2)]) (by decide +kernel) rfl ?_
        refine zwX_gi C (kd := 11) (bn := 14) (n := 17) (nx := 126) (by decide +kernel) Gv2.2.1 Gv2.1 rfl ?_
        intro v26 ev26 lv26 uv26
        have sv26 : v26 = (yC h) 77 a.toNat := Eq.trans ev26 (Eq.trans (congrArg (fun q => fld h q 14) pv2.1) (Eq.trans (Eq.symm (yC_f (h := h) (a := 77) (A := 2) (j := 14) (i := a.toNat) rfl pv2.2)) (Eq.trans (congrFun (congrFun (rfl : yC h = yC h) 77) a.toNat) rfl)))
        refine zwW_ret (nx := 127) (a := 0) (b := 0) (by decide +kernel) rfl (Or.inl rfl) ?_
        exact ⟨rfl, by omega, by unfold yIsA; (repeat' (first | rw [if_pos (by omega)] | rw [if_neg (by omega)])); all_goals (first | rfl | omega)⟩
      show zwW _ _ _ 127 _ _ _ _
      refine zwW_p [(0, -1, 0)] (q := 128) (ls' := [(2, 1), (0, a), (0, b), (2, v2)]) (st' := [(0, -1)]) (by decide +kernel) rfl ?_
      refine zwW_ret (nx := 129) (a := 0) (b := 0) (by decide +kernel) rfl (Or.inl rfl) ?_
      exact ⟨rfl, by omega, by unfold yIsA; (repeat' (first | rw [if_neg (by omega)] | rw [if_pos (by omega)])); all_goals (first | rfl | omega)⟩
    · exfalso; omega
-- WheelLand.count(I)I
theorem x87_z {sc : List Int} (h : Hp) (C : CI h) (a : Int) (q_a : -2147483648 ≤ a ∧ a ≤ 2147483647) (J : yR h) : zwC sc 2 87 [(2, 1), (0, a)] h (zwRt 0 (fun x g => h = g ∧ (-2147483648 ≤ x ∧ x ≤ 2147483647) ∧ (x = yCntA (yC h) a))) := by
  refine zwC_of (D := 1) 2 (by decide +kernel) rfl (ls := [(2, 1), (0, a)]) rfl ?_
  have u0 : yC h 37 0 = fld h 1 0 := rfl
  have u1 : yC h 37 1 = fld h 2 2 := rfl
  have u2 : yC h 37 2 = fld h 3 2 := rfl
  have u38 : yC h 37 38 = fld h 1 1 := rfl
  have u41 : yC h 37 41 = fld h 9 0 := rfl
  have u52 : yC h 37 52 = fld h 14 2 := rfl
  have u64 : yC h 37 64 = fld h 4 2 := rfl
  have u78 : yC h 37 78 = fld h 5 2 := rfl
  have u86 : yC h 37 86 = fld h 20 2 := rfl
  have u96 : yC h 37 96 = fld h 27 0 := rfl
  refine zwW_p [(1, 1, 0)] (q := 1) (ls' := [(2, 1), (0, a)]) (st' := [(0, a)]) (by decide +kernel) rfl ?_
  refine zwW_sw (d := 136) (os := [0, 56, 1, 61, 2, 69, 3, 77, 4, 85, 5, 96, 6, 104, 7, 112, 8, 123, 9, 131]) (by decide +kernel) ?_
  refine ⟨fun c1 => ?_, fun c1 => ?_⟩
  · show zwW _ _ _ 56 _ _ _ _
    refine zwW_p [(1, 0, 2)] (q := 57) (ls' := [(2, 1), (0, a)]) (st' := [(2, 1)]) (by decide +kernel) rfl ?_
    refine zwW_gs C.1 (kd := 12) (bn := 0) (n := 13) (t := 0) (lo := 0) (hi := 156) (nx := 60) (by decide +kernel) ?_
    intro v2 ev2 lv2 uv2
    have sv2 : v2 = (yC h) 37 0 := Eq.trans ev2 (Eq.trans (Eq.symm (yC_s (h := h) (i := 0) rfl)) (Eq.trans (congrFun (congrFun (rfl : yC h = yC h) 37) 0) rfl))
    refine zwW_ret (nx := 61) (a := 0) (b := 0) (by decide +kernel) rfl (Or.inl rfl) ?_
    exact ⟨rfl, by omega, by unfold yCntA; (repeat' (first | rw [if_pos (by omega)] | rw [if_neg (by omega)])); all_goals (first | rfl | omega)⟩
  refine ⟨fun c3 => ?_, fun c3 => ?_⟩
  · show zwW _ _ _ 61 _ _ _ _
    refine zwW_p [(1, 0, 2)] (q := 62) (ls' := [(2, 1), (0, a)]) (st' := [(2, 1)]) (by decide +kernel) rfl ?_
    refine zwW_gc C.1 (kd := 12) (bn := 2) (n := 13) (c := 2) (nx := 65) (by decide +kernel) ?_
    refine zwW_cm C.1 (op := 60) (k' := 96) (n := 0) (kd := 0) (m := 3) (nx := 68) (r := 2) (tl := []) (st' := []) (by decide +kernel) rfl (by decide +kernel) rfl (x96_2 C) ?_
    rintro v4 _ ⟨rfl, ev4⟩
    have bv4 := zLb_2 C
    have sv4 : v4 = (yC h) 37 1 := Eq.trans ev4 (Eq.trans (Eq.symm (yC_s (h := h) (i := 1) rfl)) (Eq.trans (congrFun (congrFun (rfl : yC h = yC h) 37) 1) rfl))
    refine zwW_ret (nx := 69) (a := 0) (b := 0) (by decide +kernel) rfl (Or.inl rfl) ?_
    exact ⟨rfl, by omega, by unfold yCntA; (repeat' (first | rw [if_pos (by omega)] | rw [if_neg (by omega)])); all_goals (first | rfl | omega)⟩
  refine ⟨fun c5 => ?_, fun c5 => ?_⟩
  · show zwW _ _ _ 69 _ _ _ _
    refine zwW_p [(1, 0, 2)] (q := 70) (ls' := [(2, 1), (0, a)]) (st' := [(2, 1)]) (by decide +kernel) rfl ?_
    refine zwW_gc C.1 (kd := 12) (bn := 3) (n := 13) (c := 3) (nx := 73) (by decide +kernel) ?_
    refine zwW_cm C.1 (op := 60) (k' := 96) (n := 0) (kd := 0) (m := 3) (nx := 76) (r := 3) (tl := []) (st' := []) (by decide +kernel) rfl (by decide +kernel) rfl (x96_3 C) ?_
    rintro v6 _ ⟨rfl, ev6⟩
    have bv6 := zLb_3 C
    have sv6 : v6 = (yC h) 37 2 := Eq.trans ev6 (Eq.trans (Eq.symm (yC_s (h := h) (i := 2) rfl)) (Eq.trans (congrFun (congrFun (rfl : yC h = yC h) 37) 2) rfl))
    refine zwW_ret (nx := 77) (a := 0) (b := 0) (by decide +kernel) rfl (Or.inl rfl) ?_
    exact ⟨rfl, by omega, by unfold yCntA; (repeat' (first | rw [if_pos (by omega)] | rw [if_neg (by omega)])); all_goals (first | rfl | omega)⟩
  refine ⟨fun c7 => ?_, fun c7 => ?_⟩
  · show zwW _ _ _ 77 _ _ _ _
    refine zwW_p [(1, 0, 2)] (q := 78) (ls' := [(2, 1), (0, a)]) (st' := [(2, 1)]) (by decide +kernel) rfl ?_
    refine zwW_gc C.1 (kd := 12) (bn := 4) (n := 13) (c := 4) (nx := 81) (by decide +kernel) ?_
    refine zwW_cm C.1 (op := 60) (k' := 96) (n := 0) (kd := 0) (m := 3) (nx := 84) (r := 4) (tl := []) (st' := []) (by decide +kernel) rfl (by decide +kernel) rfl (x96_4 C) ?_
    rintro v8 _ ⟨rfl, ev8⟩
    have bv8 := zLb_4 C
    have sv8 : v8 = (yC h) 37 64 := Eq.trans ev8 (Eq.trans (Eq.symm (yC_s (h := h) (i := 64) rfl)) (Eq.trans (congrFun (congrFun (rfl : yC h = yC h) 37) 64) rfl))
    refine zwW_ret (nx := 85) (a := 0) (b := 0) (by decide +kernel) rfl (Or.inl rfl) ?_
    exact ⟨rfl, by omega, by unfold yCntA; (repeat' (first | rw [if_pos (by omega)] | rw [if_neg (by omega)])); all_goals (first | rfl | omega)⟩
  refine ⟨fun c9 => ?_, fun c9 => ?_⟩
  · show zwW _ _ _ 85 _ _ _ _
    refine zwW_p [(1, 0, 2)] (q := 86) (ls' := [(2, 1), (0, a)]) (st' := [(2, 1)]) (by decide +kernel) rfl ?_
    refine zwW_gc C.1 (kd := 12) (bn := 8) (n := 13) (c := 13) (nx := 89) (by decide +kernel) ?_
    refine zwW_gc C.1 (kd := 9) (bn := 0) (n := 6) (c := 14) (nx := 92) (by decide +kernel) ?_
    refine zwW_cm C.1 (op := 60) (k' := 96) (n := 0) (kd := 0) (m := 3) (nx := 95) (r := 14) (tl := []) (st' := []) (by decide +kernel) rfl (by decide +kernel) rfl (x96_14 C) ?_
    rintro v10 _ ⟨rfl, ev10⟩
    have bv10 := zLb_14 C
    have sv10 : v10 = (yC h) 37 52 := Eq.trans ev10 (Eq.trans (Eq.symm (yC_s (h := h) (i := 52) rfl)) (Eq.trans (congrFun (congrFun (rfl : yC h = yC h) 37) 52) rfl))
    refine zwW_ret (nx := 96) (a := 0) (b := 0) (by decide +kernel) rfl (Or.inl rfl) ?_
    exact ⟨rfl, by omega, by unfold yCntA; (repeat' (first | rw [if_pos (by omega)] | rw [if_neg (by omega)])); all_goals (first | rfl | omega)⟩
  refine ⟨fun c11 => ?_, fun c11 => ?_⟩
  · show zwW _ _ _ 96 _ _ _ _
    refine zwW_p [(1, 0, 2)] (q := 97) (ls' := [(2, 1), (0, a)]) (st' := [(2, 1)]) (by decide +kernel) rfl ?_
    refine zwW_gc C.1 (kd := 12) (bn := 5) (n := 13) (c := 5) (nx := 100) (by decide +kernel) ?_
    refine zwW_cm C.1 (op := 60) (k' := 96) (n := 0) (kd := 0) (m := 3) (nx := 103) (r := 5) (tl := []) (st' := []) (by decide +kernel) rfl (by decide +kernel) rfl (x96_5 C) ?_
    rintro v12 _ ⟨rfl, ev12⟩
    have bv12 := zLb_5 C
    have sv12 : v12 = (yC h) 37 78 := Eq.trans ev12 (Eq.trans (Eq.symm (yC_s (h := h) (i := 78) rfl)) (Eq.trans (congrFun (congrFun (rfl : yC h = yC h) 37) 78) rfl))
    refine zwW_ret (nx := 104) (a := 0) (b := 0) (by decide +kernel) rfl (Or.inl rfl) ?_
    exact ⟨rfl, by omega, by unfold yCntA; (repeat' (first | rw [if_pos (by omega)] | rw [if_neg (by omega)])); all_goals (first | rfl | omega)⟩
  refine ⟨fun c13 => ?_, fun c13 => ?_⟩
  · show zwW _ _ _ 104 _ _ _ _
    refine zwW_p [(1, 0, 2)] (q := 105) (ls' := [(2, 1), (0, a)]) (st' := [(2, 1)]) (by decide +kernel) rfl ?_
    refine zwW_gc C.1 (kd := 12) (bn := 7) (n := 13) (c := 9) (nx := 108) (by decide +kernel) ?_
    refine zwW_gs C.1 (kd := 7) (bn := 0) (n := 9) (t := 0) (lo := 0) (hi := 400) (nx := 111) (by decide +kernel) ?_
    intro v14 ev14 lv14 uv14
    have sv14 : v14 = (yC h) 37 41 := Eq.trans ev14 (Eq.trans (Eq.symm (yC_s (h := h) (i := 41) rfl)) (Eq.trans (congrFun (congrFun (rfl : yC h = yC h) 37) 41) rfl))
    refine zwW_ret (nx := 112) (a := 0) (b := 0) (by decide +kernel) rfl (Or.inl rfl) ?_
    exact ⟨rfl, by omega, by unfold yCntA; (repeat' (first | rw [if_pos (by omega)] | rw [if_neg (by omega)])); all_goals (first | rfl | omega)⟩
  refine ⟨fun c15 => ?_, fun c15 => ?_⟩
  · show zwW _ _ _ 112 _ _ _ _
    refine zwW_p [(1, 0, 2)] (q := 113) (ls' := [(2, 1), (0, a)]) (st' := [(2, 1)]) (by decide +kernel) rfl ?_
    refine zwW_gc C.1 (kd := 12) (bn := 9) (n := 13) (c := 19) (nx := 116) (by decide +kernel) ?_
    refine zwW_gc C.1 (kd := 3) (bn := 0) (n := 10) (c := 20) (nx := 119) (by decide +kernel) ?_
    refine zwW_cm C.1 (op := 60) (k' := 96) (n := 0) (kd := 0) (m := 3) (nx := 122) (r := 20) (tl := []) (st' := []) (by decide +kernel) rfl (by decide +kernel) rfl (x96_20 C) ?_
    rintro v16 _ ⟨rfl, ev16⟩
    have bv16 := zLb_20 C
    have sv16 : v16 = (yC h) 37 86 := Eq.trans ev16 (Eq.trans (Eq.symm (yC_s (h := h) (i := 86) rfl)) (Eq.trans (congrFun (congrFun (rfl : yC h = yC h) 37) 86) rfl))
    refine zwW_ret (nx := 123) (a := 0) (b := 0) (by decide +kernel) rfl (Or.inl rfl) ?_
    exact ⟨rfl, by omega, by unfold yCntA; (repeat' (first | rw [if_pos (by omega)] | rw [if_neg (by omega)])); all_goals (first | rfl | omega)⟩
  refine ⟨fun c17 => ?_, fun c17 => ?_⟩
  · show zwW _ _ _ 123 _ _ _ _
    refine zwW_p [(1, 0, 2)] (q := 124) (ls' := [(2, 1), (0, a)]) (st' := [(2, 1)]) (by decide +kernel) rfl ?_
    refine zwW_gc C.1 (kd := 12) (bn := 10) (n := 13) (c := 27) (nx := 127) (by decide +kernel) ?_
    refine zwW_gs C.1 (kd := 2) (bn := 0) (n := 10) (t := 0) (lo := 0) (hi := 8) (nx := 130) (by decide +kernel) ?_
    intro v18 ev18 lv18 uv18
    have sv18 : v18 = (yC h) 37 96 := Eq.trans ev18 (Eq.trans (Eq.symm (yC_s (h := h) (i := 96) rfl)) (Eq.trans (congrFun (congrFun (rfl : yC h = yC h) 37) 96) rfl))
    refine zwW_ret (nx := 131) (a := 0) (b := 0) (by decide +kernel) rfl (Or.inl rfl) ?_
    exact ⟨rfl, by omega, by unfold yCntA; (repeat' (first | rw [if_pos (by omega)] | rw [if_neg (by omega)])); all_goals (first | rfl | omega)⟩
  refine ⟨fun c19 => ?_, fun c19 => ?_⟩
  · show zwW _ _ _ 131 _ _ _ _
    refine zwW_p [(1, 0, 2)] (q := 132) (ls' := [(2, 1), (0, a)]) (st' := [(2, 1)]) (by decide +kernel) rfl ?_
    refine zwW_gs C.1 (kd := 12) (bn := 1) (n := 13) (t := 0) (lo := -2147483648) (hi := 2147483647) (nx := 135) (by decide +kernel) ?_
    intro v20 ev20 lv20 uv20
    have sv20 : v20 = (yC h) 37 38 := Eq.trans ev20 (Eq.trans (Eq.symm (yC_s (h := h) (i := 38) rfl)) (Eq.trans (congrFun (congrFun (rfl : yC h = yC h) 37) 38) rfl))
    refine zwW_ret (nx := 136) (a := 0) (b := 0) (by decide +kernel) rfl (Or.inl rfl) ?_
    exact ⟨rfl, by omega, by unfold yCntA; (repeat' (first | rw [if_pos (by omega)] | rw [if_neg (by omega)])); all_goals (first | rfl | omega)⟩
  show zwW _ _ _ 136 _ _ _ _
  refine zwW_p [(0, -1, 0)] (q := 137) (ls' := [(2, 1), (0, a)]) (st' := [(0, -1)]) (by decide +kernel) rfl ?_
  refine zwW_ret (nx := 138) (a := 0) (b := 0) (by decide +kernel) rfl (Or.inl rfl) ?_
  exact ⟨rfl, by omega, by unfold yCntA; (repeat' (first | rw [if_neg (by omega)] | rw [if_pos (by omega)])); all_goals (first | rfl | omega)⟩
-- WheelLand.wrong(IZ)I
theorem x65_z {sc : List Int} (h : Hp) (C : CI h) (a b : Int) (q_a : -2147483648 ≤ a ∧ a ≤ 2147483647) (q_b : -2147483648 ≤ b ∧ b ≤ 2147483647) (J : yR h) : zwC sc 6 65 [(2, 1), (0, a), (0, b)] h (zwRt 0 (fun x g => h = g ∧ (-2147483648 ≤ x ∧ x ≤ 2147483647) ∧ (x = yWrngA (yC h) a b))) := by
  refine zwC_of (D := 5) 4 (by decide +kernel) rfl (ls := [(2, 1), (0, a), (0, b), (9, 0)]) rfl ?_
  have u0 : yC h 37 0 = fld h 1 0 := rfl
  have u1 : yC h 37 1 = fld h 2 2 := rfl
  have u2 : yC h 37 2 = fld h 3 2 := rfl
  have u64 : yC h 37 64 = fld h 4 2 := rfl
  have u78 : yC h 37 78 = fld h 5 2 := rfl
  refine zwW_p [(1, 0, 2), (1, 1, 0)] (q := 2) (ls' := [(2, 1), (0, a), (0, b), (9, 0)]) (st' := [(0, a), (2, 1)]) (by decide +kernel) rfl ?_
  refine zwW_cm C.1 (op := 60) (k' := 102) (n := 1) (kd := 12) (m := 13) (nx := 5) (r := 1) (tl := [(0, a)]) (st' := []) (by decide +kernel) rfl (by decide +kernel) rfl (x102 h C a (by omega)) ?_
  rintro v2 _ ⟨rfl, ⟨rfl, c1⟩ | ⟨Gv2, c1⟩⟩
  · refine zwW_p [(2, 3, 2), (1, 3, 2)] (q := 7) (ls' := [(2, 1), (0, a), (0, b), (2, 0)]) (st' := [(2, 0)]) (by decide +kernel) rfl ?_
    refine zwnu_ne (q := 12) (nx := 10) (by decide +kernel) (by decide) (fun c3 => ?_) (fun c3 => ?_)
    · exfalso; omega
    · refine zwW_p [(0, -1, 0)] (q := 11) (ls' := [(2, 1), (0, a), (0, b), (2, 0)]) (st' := [(0, -1)]) (by decide +kernel) rfl ?_
      refine zwW_ret (nx := 12) (a := 0) (b := 0) (by decide +kernel) rfl (Or.inl rfl) ?_
      exact ⟨rfl, by omega, by unfold yWrngA; (repeat' (first | rw [if_neg (by omega)] | rw [if_pos (by omega)])); all_goals (first | rfl | omega | (rw [yFls_1 (by omega)]; omega) | (rw [yFls_0 (by omega)]; omega))⟩
  · have lv2 := Gv2.1
    have ev2 := c1.2.2
    have pv2 : v2 = zv h 2 a.toNat ∧ ((a.toNat : Nat) : Int) < fld h 2 2 := ⟨ev2, by omega⟩
    refine zwW_p [(2, 3, 2), (1, 3, 2)] (q := 7) (ls' := [(2, 1), (0, a), (0, b), (2, v2)]) (st' := [(2, v2)]) (by decide +kernel) rfl ?_
    refine zwnu_ne (q := 12) (nx := 10) (by decide +kernel) (by omega) (fun c4 => ?_) (fun c4 => ?_)
    · refine zwW_p [(1, 2, 0)] (q := 13) (ls' := [(2, 1), (0, a), (0, b), (2, v2)]) (st' := [(0, b)]) (by decide +kernel) rfl ?_
      refine zwif_eq (q := 23) (nx := 16) (by decide +kernel) (fun c5 => ?_) (fun c5 => ?_)
      · refine zwW_p [(1, 3, 2)] (q := 24) (ls' := [(2, 1), (0, a), (0, b), (2, v2)]) (st' := [(2, v2)]) (by decide +kernel) rfl ?_
        refine zwW_cv (op := 60) (k' := 159) (n := 0) (kd := 11) (m := 17) (nx := 27) (r := v2) (tl := []) (st' := []) (by decide +kernel) rfl (by decide +kernel) Gv2.2.1 (x159_z h C v2 Gv2 J a.toNat pv2) rfl ?_
        rintro v6 _ ⟨rfl, f7, f8⟩
        have sv6 : v6 = yFls (yC h) a.toNat 0 := by rw [f8]
        refine zwW_ret (nx := 28) (a := 0) (b := 0) (by decide +kernel) rfl (Or.inl rfl) ?_
        exact ⟨rfl, by omega, by unfold yWrngA; (repeat' (first | rw [if_pos (by omega)] | rw [if_neg (by omega)])); all_goals (first | rfl | omega | (rw [yFls_1 (by omega)]; omega) | (rw [yFls_0 (by omega)]; omega))⟩
      · refine zwW_p [(1, 3, 2)] (q := 17) (ls' := [(2, 1), (0, a), (0, b), (2, v2)]) (st' := [(2, v2)]) (by decide +kernel) rfl ?_
        refine zwW_cv (op := 60) (k' := 158) (n := 0) (kd := 11) (m := 17) (nx := 20) (r := v2) (tl := []) (st' := []) (by decide +kernel) rfl (by decide +kernel) Gv2.2.1 (x158_z h C v2 Gv2 J a.toNat pv2) rfl ?_
        rintro v9 _ ⟨rfl, f10, f11⟩
        have sv9 : v9 = yFls (yC h) a.toNat 1 := by rw [f11]
        refine zwW_p [(24, 27, 0)] (q := 27) (ls' := [(2, 1), (0, a), (0, b), (2, v2)]) (st' := [(0, v9)]) (by decide +kernel) rfl ?_
        refine zwW_ret (nx := 28) (a := 0) (b := 0) (by decide +kernel) rfl (Or.inl rfl) ?_
        exact ⟨rfl, by omega, by unfold yWrngA; (repeat' (first | rw [if_pos (by omega)] | rw [if_neg (by omega)])); all_goals (first | rfl | omega | (rw [yFls_1 (by omega)]; omega) | (rw [yFls_0 (by omega)]; omega))⟩
    · exfalso; omega
-- WheelLand$House.hasLoom()Z
theorem x110_z {sc : List Int} (h : Hp) (C : CI h) (r : Int) (G_r : gH h r) (J : yR h) (k : Nat) (P_r : r = zv h 3 k ∧ (k : Int) < fld h 3 2) : zwC sc 1 110 [(2, r)] h (zwRt 0 (fun x g => h = g ∧ ((x = 1 ∧ (0 < yC h 91 k)) ∨ (x = 0 ∧ (yC h 91 k ≤ 0))))) := by
  refine zwC_of (D := 0) 1 (by decide +kernel) rfl (ls := [(2, r)]) rfl ?_
  have lw_r := G_r.1
  have u0 : yC h 37 0 = fld h 1 0 := rfl
  have u1 : yC h 37 1 = fld h 2 2 := rfl
  have u2 : yC h 37 2 = fld h 3 2 := rfl
  have u64 : yC h 37 64 = fld h 4 2 := rfl
  have u78 : yC h 37 78 = fld h 5 2 := rfl
  refine zwW_p [(1, 0, 2)] (q := 1) (ls' := [(2, r)]) (st' := [(2, r)]) (by decide +kernel) rfl ?_
  refine zwX_gi C (kd := 4) (bn := 13) (n := 19) (nx := 4) (by decide +kernel) G_r.2.1 G_r.1 rfl ?_
  intro v1 ev1 lv1 uv1
  have sv1 : v1 = (yC h) 91 k := Eq.trans ev1 (Eq.trans (congrArg (fun q => fld h q 13) P_r.1) (Eq.trans (Eq.symm (yC_f (h := h) (a := 91) (A := 3) (j := 13) (i := k) rfl P_r.2)) (Eq.trans (congrFun (congrFun (rfl : yC h = yC h) 91) k) rfl)))
  refine zwif_le (q := 11) (nx := 7) (by decide +kernel) (fun c2 => ?_) (fun c2 => ?_)
  · refine zwW_p [(0, 0, 0)] (q := 12) (ls' := [(2, r)]) (st' := [(0, 0)]) (by decide +kernel) rfl ?_
    refine zwW_ret (nx := 13) (a := 1) (b := 0) (by decide +kernel) rfl (Or.inr (Or.inl ⟨rfl, Or.inl rfl⟩)) ?_
    exact ⟨rfl, Or.inr ⟨rfl, by omega⟩⟩
  · refine zwW_p [(0, 1, 0), (24, 12, 0)] (q := 12) (ls' := [(2, r)]) (st' := [(0, 1)]) (by decide +kernel) rfl ?_
    refine zwW_ret (nx := 13) (a := 1) (b := 0) (by decide +kernel) rfl (Or.inr (Or.inl ⟨rfl, Or.inr rfl⟩)) ?_
    exact ⟨rfl, Or.inl ⟨rfl, by omega⟩⟩
def msx11_z : Zms := [(1004, 1004, 11, 12), (1004, 1004, 12, 13), (1004, 1004, 13, 14)]
-- WheelLand.loom(III)Z
theorem x11_z {sc : List Int} (h : Hp) (C : CI h) (a b c : Int) (q_a : -2147483648 ≤ a ∧ a ≤ 2147483647) (q_b : -2147483648 ≤ b ∧ b ≤ 2147483647) (q_c : -2147483648 ≤ c ∧ c ≤ 2147483647) (J : yR h) : zwC sc 6 11 [(2, 1), (0, a), (0, b), (0, c)] h (zwRt 0 (fun x g => CI g ∧ zXR msx11_z (0) (0) h g ∧ (0 ≤ x ∧ x ≤ 1) ∧ (x = yLoomA (yC h) a b c) ∧ (yC g = yLoom (yC h) a b c) ∧ (yR g))) := by
  refine zwC_of (D := 5) 7 (by decide +kernel) rfl (ls := [(2, 1), (0, a), (0, b), (0, c), (9, 0), (9, 0), (9, 0)]) rfl ?_
  have X : zXR msx11_z 0 0 h h := zXR.rf _ _
  have u0 : yC h 37 0 = fld h 1 0 := rfl
  have u1 : yC h 37 1 = fld h 2 2 := rfl
  have u2 : yC h 37 2 = fld h 3 2 := rfl
  have u64 : yC h 37 64 = fld h 4 2 := rfl
  have u78 : yC h 37 78 = fld h 5 2 := rfl
  have T1 := zt100 (b := b) (by first | omega | exact ⟨by omega, by omega⟩)
  refine zwW_p [(1, 0, 2), (1, 1, 0)] (q := 2) (ls' := [(2, 1), (0, a), (0, b), (0, c), (9, 0), (9, 0), (9, 0)]) (st' := [(0, a), (2, 1)]) (by decide +kernel) rfl ?_
  refine zwW_cm C.1 (op := 60) (k' := 109) (n := 1) (kd := 12) (m := 13) (nx := 5) (r := 1) (tl := [(0, a)]) (st' := []) (by decide +kernel) rfl (by decide +kernel) rfl (x109 h C a (by omega)) ?_
  rintro v2 _ ⟨rfl, ⟨rfl, c1⟩ | ⟨Gv2, c1⟩⟩
  · refine zwW_p [(2, 4, 2), (1, 2, 0), (0, 100, 0)] (q := 10) (ls' := [(2, 1), (0, a), (0, b), (0, c), (2, 0), (9, 0), (9, 0)]) (st' := [(0, 100), (0, b)]) (by decide +kernel) rfl ?_
    refine zwW_tdw (nx := 11) (by decide +kernel) (by omega) ?_
    intro v3 ev3 lv3 uv3
    refine zwW_p [(2, 5, 0), (1, 2, 0), (0, 100, 0)] (q := 16) (ls' := [(2, 1), (0, a), (0, b), (0, c), (2, 0), (0, v3), (9, 0)]) (st' := [(0, 100), (0, b)]) (by decide +kernel) rfl ?_
    refine zwW_tmw (nx := 17) (by decide +kernel) (by first | omega | exact ⟨by omega, by omega⟩) (by omega) ?_
    intro v4 ev4 lv4 uv4
    refine zwW_p [(2, 6, 0), (1, 4, 2)] (q := 21) (ls' := [(2, 1), (0, a), (0, b), (0, c), (2, 0), (0, v3), (0, v4)]) (st' := [(2, 0)]) (by decide +kernel) rfl ?_
    refine zwnu_eq (q := 62) (nx := 24) (by decide +kernel) (by decide) (fun c5 => ?_) (fun c5 => ?_)
    · refine zwW_p [(0, 0, 0)] (q := 63) (ls' := [(2, 1), (0, a), (0, b), (0, c), (2, 0), (0, v3), (0, v4)]) (st' := [(0, 0)]) (by decide +kernel) rfl ?_
      refine zwW_ret (nx := 64) (a := 1) (b := 0) (by decide +kernel) rfl (Or.inr (Or.inl ⟨rfl, Or.inl rfl⟩)) ?_
      exact ⟨C, X.le (by decide) (by decide), by omega, by unfold yLoomA; (repeat' (first | rw [if_pos (by omega)] | rw [if_neg (by omega)])); all_goals (first | rfl | omega), by refine Eq.trans (rfl : yC h = yC h) ?_; unfold yLoom; (repeat' (first | rw [if_pos (by omega)] | rw [if_neg (by omega)])); all_goals (repeat' (first | rfl | apply zs_cg | omega)), by exact J⟩
    · exfalso; omega
  · have lv2 := Gv2.1
    have ev2 := c1.2.2
    have pv2 : v2 = zv h 3 a.toNat ∧ ((a.toNat : Nat) : Int) < fld h 3 2 := ⟨ev2, by omega⟩
    refine zwW_p [(2, 4, 2), (1, 2, 0), (0, 100, 0)] (q := 10) (ls' := [(2, 1), (0, a), (0, b), (0, c), (2, v2), (9, 0), (9, 0)]) (st' := [(0, 100), (0, b)]) (by decide +kernel) rfl ?_
    refine zwW_tdw (nx := 11) (by decide +kernel) (by omega) ?_
    intro v6 ev6 lv6 uv6
    refine zwW_p [(2, 5, 0), (1, 2, 0), (0, 100, 0)] (q := 16) (ls' := [(2, 1), (0, a), (0, b), (0, c), (2, v2), (0, v6), (9, 0)]) (st' := [(0, 100), (0, b)]) (by decide +kernel) rfl ?_
    refine zwW_tmw (nx := 17) (by decide +kernel) (by first | omega | exact ⟨by omega, by omega⟩) (by omega) ?_
    intro v7 ev7 lv7 uv7
    refine zwW_p [(2, 6, 0), (1, 4, 2)] (q := 21) (ls' := [(2, 1), (0, a), (0, b), (0, c), (2, v2), (0, v6), (0, v7)]) (st' := [(2, v2)]) (by decide +kernel) rfl ?_
    refine zwnu_eq (q := 62) (nx := 24) (by decide +kernel) (by omega) (fun c8 => ?_) (fun c8 => ?_)
    · exfalso; omega
    · refine zwW_p [(1, 4, 2)] (q := 26) (ls' := [(2, 1), (0, a), (0, b), (0, c), (2, v2), (0, v6), (0, v7)]) (st' := [(2, v2)]) (by decide +kernel) rfl ?_
      refine zwW_cv (op := 60) (k' := 110) (n := 0) (kd := 4) (m := 19) (nx := 29) (r := v2) (tl := []) (st' := []) (by decide +kernel) rfl (by decide +kernel) Gv2.2.1 (x110_z h C v2 Gv2 J a.toNat pv2) rfl ?_
      rintro x _ ⟨rfl, ⟨rfl, c9⟩ | ⟨rfl, c9⟩⟩
      · refine zwif_ne (q := 62) (nx := 32) (by decide +kernel) (fun c10 => ?_) (fun c10 => ?_)
        · refine zwW_p [(0, 0, 0)] (q := 63) (ls' := [(2, 1), (0, a), (0, b), (0, c), (2, v2), (0, v6), (0, v7)]) (st' := [(0, 0)]) (by decide +kernel) rfl ?_
          refine zwW_ret (nx := 64) (a := 1) (b := 0) (by decide +kernel) rfl (Or.inr (Or.inl ⟨rfl, Or.inl rfl⟩)) ?_
          exact ⟨C, X.le (by decide) (by decide), by omega, by unfold yLoomA; (repeat' (first | rw [if_pos (by omega)] | rw [if_neg (by omega)])); all_goals (first | rfl | omega), by refine Eq.trans (rfl : yC h = yC h) ?_; unfold yLoom; (repeat' (first | rw [if_pos (by omega)] | rw [if_neg (by omega)])); all_goals (repeat' (first | rfl | apply zs_cg | omega)), by exact J⟩
        · exfalso; omega
      · refine zwif_ne (q := 62) (nx := 32) (by decide +kernel) (fun c11 => ?_) (fun c11 => ?_)
        · exfalso; omega
        · refine zwW_p [(1, 5, 0), (0, 4, 0)] (q := 35) (ls' := [(2, 1), (0, a), (0, b), (0, c), (2, v2), (0, v6), (0, v7)]) (st' := [(0, 4), (0, v6)]) (by decide +kernel) rfl ?_
          refine zwic_lt (q := 62) (nx := 38) (by decide +kernel) (fun c12 => ?_) (fun c12 => ?_)
          · refine zwW_p [(0, 0, 0)] (q := 63) (ls' := [(2, 1), (0, a), (0, b), (0, c), (2, v2), (0, v6), (0, v7)]) (st' := [(0, 0)]) (by decide +kernel) rfl ?_
            refine zwW_ret (nx := 64) (a := 1) (b := 0) (by decide +kernel) rfl (Or.inr (Or.inl ⟨rfl, Or.inl rfl⟩)) ?_
            exact ⟨C, X.le (by decide) (by decide), by omega, by unfold yLoomA; (repeat' (first | rw [if_pos (by omega)] | rw [if_neg (by omega)])); all_goals (first | rfl | omega), by refine Eq.trans (rfl : yC h = yC h) ?_; unfold yLoom; (repeat' (first | rw [if_pos (by omega)] | rw [if_neg (by omega)])); all_goals (repeat' (first | rfl | apply zs_cg | omega)), by exact J⟩
          · refine zwW_p [(1, 5, 0), (1, 6, 0)] (q := 42) (ls' := [(2, 1), (0, a), (0, b), (0, c), (2, v2), (0, v6), (0, v7)]) (st' := [(0, v7), (0, v6)]) (by decide +kernel) rfl ?_
            refine zwic_gt (q := 62) (nx := 45) (by decide +kernel) (fun c13 => ?_) (fun c13 => ?_)
            · refine zwW_p [(0, 0, 0)] (q := 63) (ls' := [(2, 1), (0, a), (0, b), (0, c), (2, v2), (0, v6), (0, v7)]) (st' := [(0, 0)]) (by decide +kernel) rfl ?_
              refine zwW_ret (nx := 64) (a := 1) (b := 0) (by decide +kernel) rfl (Or.inr (Or.inl ⟨rfl, Or.inl rfl⟩)) ?_
              exact ⟨C, X.le (by decide) (by decide), by omega, by unfold yLoomA; (repeat' (first | rw [if_pos (by omega)] | rw [if_neg (by omega)])); all_goals (first | rfl | omega), by refine Eq.trans (rfl : yC h = yC h) ?_; unfold yLoom; (repeat' (first | rw [if_pos (by omega)] | rw [if_neg (by omega)])); all_goals (repeat' (first | rfl | apply zs_cg | omega)), by exact J⟩
            · refine zwW_p [(1, 6, 0), (0, 60, 0)] (q := 49) (ls' := [(2, 1), (0, a), (0, b), (0, c), (2, v2), (0, v6), (0, v7)]) (st' := [(0, 60), (0, v7)]) (by decide +kernel) rfl ?_
              refine zwic_gt (q := 62) (nx := 52) (by decide +kernel) (fun c14 => ?_) (fun c14 => ?_)
              · refine zwW_p [(0, 0, 0)] (q := 63) (ls' := [(2, 1), (0, a), (0, b), (0, c), (2, v2), (0, v6), (0, v7)]) (st' := [(0, 0)]) (by decide +kernel) rfl ?_
                refine zwW_ret (nx := 64) (a := 1) (b := 0) (by decide +kernel) rfl (Or.inr (Or.inl ⟨rfl, Or.inl rfl⟩)) ?_
                exact ⟨C, X.le (by decide) (by decide), by omega, by unfold yLoomA; (repeat' (first | rw [if_pos (by omega)] | rw [if_neg (by omega)])); all_goals (first | rfl | omega), by refine Eq.trans (rfl : yC h = yC h) ?_; unfold yLoom; (repeat' (first | rw [if_pos (by omega)] | rw [if_neg (by omega)])); all_goals (repeat' (first | rfl | apply zs_cg | omega)), by exact J⟩
              · refine zwW_p [(1, 3, 0), (0, 1, 0), (0, 40, 0)] (q := 56) (ls' := [(2, 1), (0, a), (0, b), (0, c), (2, v2), (0, v6), (0, v7)]) (st' := [(0, 40), (0, 1), (0, c)]) (by decide +kernel) rfl ?_
                refine zwW_cs (k' := 98) (n := 3) (nx := 59) (as := [(0, c), (0, 1), (0, 40)]) (st' := []) (by decide +kernel) rfl (x98 h C c 1 40 (by omega) (by omega) (by omega)) rfl ?_
                rintro x _ ⟨rfl, ⟨rfl, c15⟩ | ⟨rfl, c15⟩⟩
                · refine zwif_eq (q := 64) (nx := 62) (by decide +kernel) (fun c16 => ?_) (fun c16 => ?_)
                  · exfalso; omega
                  · refine zwW_p [(0, 0, 0)] (q := 63) (ls' := [(2, 1), (0, a), (0, b), (0, c), (2, v2), (0, v6), (0, v7)]) (st' := [(0, 0)]) (by decide +kernel) rfl ?_
                    refine zwW_ret (nx := 64) (a := 1) (b := 0) (by decide +kernel) rfl (Or.inr (Or.inl ⟨rfl, Or.inl rfl⟩)) ?_
                    exact ⟨C, X.le (by decide) (by decide), by omega, by unfold yLoomA; (repeat' (first | rw [if_pos (by omega)] | rw [if_neg (by omega)])); all_goals (first | rfl | omega), by refine Eq.trans (rfl : yC h = yC h) ?_; unfold yLoom; (repeat' (first | rw [if_pos (by omega)] | rw [if_neg (by omega)])); all_goals (repeat' (first | rfl | apply zs_cg | omega)), by exact J⟩
                · refine zwif_eq (q := 64) (nx := 62) (by decide +kernel) (fun c17 => ?_) (fun c17 => ?_)
                  · refine zwW_p [(1, 4, 2), (1, 5, 0)] (q := 68) (ls' := [(2, 1), (0, a), (0, b), (0, c), (2, v2), (0, v6), (0, v7)]) (st' := [(0, v6), (2, v2)]) (by decide +kernel) rfl ?_
                    refine zwX_pi C (kd := 4) (bn := 11) (n := 19) (nx := 71) (by decide +kernel) Gv2.2.1 Gv2.1 (by first | omega | exact ⟨by omega, by omega⟩) ?_
                    rintro h18 eh18 Ch18 Qh18
                    have Zh18 : yC h18 = (zs (yC h) 89 a.toNat v6) := by rw [yC_w (a := 89) (A := 3) (j := 11) (k := a.toNat) C J rfl pv2 eh18]
                    have Xh18 : zXR msx11_z (0) (0) h h18 := X.tr (c2 := 0) (s2 := 0) Qh18 (by decide +kernel) (by decide) (by decide)
                    have Gh18_0 : gH h18 v2 := Gv2.x Qh18
                    have Jh18 : yR h18 := J.fr C Qh18 (by decide +kernel)
                    have pv2_h18 : v2 = zv h18 3 a.toNat ∧ ((a.toNat : Nat) : Int) < fld h18 3 2 := zpv C Qh18 (A := 3) (by decide) (by decide +kernel) pv2
                    refine zwW_p [(1, 4, 2), (1, 6, 0)] (q := 75) (ls' := [(2, 1), (0, a), (0, b), (0, c), (2, v2), (0, v6), (0, v7)]) (st' := [(0, v7), (2, v2)]) (by decide +kernel) rfl ?_
                    refine zwX_pi Ch18 (kd := 4) (bn := 12) (n := 19) (nx := 78) (by decide +kernel) Gh18_0.2.1 Gh18_0.1 (by first | omega | exact ⟨by omega, by omega⟩) ?_
                    rintro h19 eh19 Ch19 Qh19
                    have Zh19 : yC h19 = (zs (zs (yC h) 89 a.toNat v6) 90 a.toNat v7) := by rw [yC_w (a := 90) (A := 3) (j := 12) (k := a.toNat) Ch18 Jh18 rfl pv2_h18 eh19, Zh18]
                    have Xh19 : zXR msx11_z (0) (0) h h19 := Xh18.tr (c2 := 0) (s2 := 0) Qh19 (by decide +kernel) (by decide) (by decide)
                    have Gh19_0 : gH h19 v2 := Gh18_0.x Qh19
                    have Jh19 : yR h19 := Jh18.fr Ch18 Qh19 (by decide +kernel)
                    have pv2_h19 : v2 = zv h19 3 a.toNat ∧ ((a.toNat : Nat) : Int) < fld h19 3 2 := zpv Ch18 Qh19 (A := 3) (by decide) (by decide +kernel) pv2_h18
                    refine zwW_p [(1, 4, 2), (1, 3, 0)] (q := 81) (ls' := [(2, 1), (0, a), (0, b), (0, c), (2, v2), (0, v6), (0, v7)]) (st' := [(0, c), (2, v2)]) (by decide +kernel) rfl ?_
                    refine zwX_pi Ch19 (kd := 4) (bn := 13) (n := 19) (nx := 84) (by decide +kernel) Gh19_0.2.1 Gh19_0.1 (by first | omega | exact ⟨by omega, by omega⟩) ?_
                    rintro h20 eh20 Ch20 Qh20
                    have Zh20 : yC h20 = (zs (zs (zs (yC h) 89 a.toNat v6) 90 a.toNat v7) 91 a.toNat c) := by rw [yC_w (a := 91) (A := 3) (j := 13) (k := a.toNat) Ch19 Jh19 rfl pv2_h19 eh20, Zh19]
                    have Xh20 : zXR msx11_z (0) (0) h h20 := Xh19.tr (c2 := 0) (s2 := 0) Qh20 (by decide +kernel) (by decide) (by decide)
                    have Gh20_0 : gH h20 v2 := Gh19_0.x Qh20
                    have Jh20 : yR h20 := Jh19.fr Ch19 Qh20 (by decide +kernel)
                    have pv2_h20 : v2 = zv h20 3 a.toNat ∧ ((a.toNat : Nat) : Int) < fld h20 3 2 := zpv Ch19 Qh20 (A := 3) (by decide) (by decide +kernel) pv2_h19
                    refine zwW_p [(0, 1, 0)] (q := 85) (ls' := [(2, 1), (0, a), (0, b), (0, c), (2, v2), (0, v6), (0, v7)]) (st' := [(0, 1)]) (by decide +kernel) rfl ?_
                    refine zwW_ret (nx := 86) (a := 1) (b := 0) (by decide +kernel) rfl (Or.inr (Or.inl ⟨rfl, Or.inr rfl⟩)) ?_
                    exact ⟨Ch20, Xh20.le (by decide) (by decide), by omega, by unfold yLoomA; (repeat' (first | rw [if_pos (by omega)] | rw [if_neg (by omega)])); all_goals (first | rfl | omega), by refine Eq.trans Zh20 ?_; unfold yLoom; (repeat' (first | rw [if_pos (by omega)] | rw [if_neg (by omega)])); all_goals (repeat' (first | rfl | apply zs_cg | omega)), by exact Jh20⟩
                  · exfalso; omega
def msx63_z : Zms := [(1011, 1011, 11, 12)]
-- WheelLand.sold(II)I
theorem x63_z {sc : List Int} (h : Hp) (C : CI h) (a b : Int) (q_a : -2147483648 ≤ a ∧ a ≤ 2147483647) (q_b : -2147483648 ≤ b ∧ b ≤ 2147483647) (J : yR h) (hB : ∀ i : Nat, 0 ≤ yC h 74 i ∧ yC h 74 i ≤ 9999) : zwC sc 6 63 [(2, 1), (0, a), (0, b)] h (zwRt 0 (fun x g => CI g ∧ zXR msx63_z (0) (0) h g ∧ (-2147483648 ≤ x ∧ x ≤ 2147483647) ∧ (x = ySoldA (yC h) a b) ∧ (yC g = ySold (yC h) a b) ∧ (yR g))) := by
  refine zwC_of (D := 5) 4 (by decide +kernel) rfl (ls := [(2, 1), (0, a), (0, b), (9, 0)]) rfl ?_
  have X : zXR msx63_z 0 0 h h := zXR.rf _ _
  have u0 : yC h 37 0 = fld h 1 0 := rfl
  have u1 : yC h 37 1 = fld h 2 2 := rfl
  have u2 : yC h 37 2 = fld h 3 2 := rfl
  have u64 : yC h 37 64 = fld h 4 2 := rfl
  have u78 : yC h 37 78 = fld h 5 2 := rfl
  have b74 := hB a.toNat
  refine zwW_p [(1, 0, 2), (1, 1, 0)] (q := 2) (ls' := [(2, 1), (0, a), (0, b), (9, 0)]) (st' := [(0, a), (2, 1)]) (by decide +kernel) rfl ?_
  refine zwW_cm C.1 (op := 60) (k' := 102) (n := 1) (kd := 12) (m := 13) (nx := 5) (r := 1) (tl := [(0, a)]) (st' := []) (by decide +kernel) rfl (by decide +kernel) rfl (x102 h C a (by omega)) ?_
  rintro v2 _ ⟨rfl, ⟨rfl, c1⟩ | ⟨Gv2, c1⟩⟩
  · refine zwW_p [(2, 3, 2), (1, 3, 2)] (q := 7) (ls' := [(2, 1), (0, a), (0, b), (2, 0)]) (st' := [(2, 0)]) (by decide +kernel) rfl ?_
    refine zwnu_eq (q := 33) (nx := 10) (by decide +kernel) (by decide) (fun c3 => ?_) (fun c3 => ?_)
    · refine zwW_p [(0, -1, 0)] (q := 34) (ls' := [(2, 1), (0, a), (0, b), (2, 0)]) (st' := [(0, -1)]) (by decide +kernel) rfl ?_
      refine zwW_ret (nx := 35) (a := 0) (b := 0) (by decide +kernel) rfl (Or.inl rfl) ?_
      exact ⟨C, X.le (by decide) (by decide), by omega, by unfold ySoldA; (repeat' (first | rw [if_neg (by omega)] | rw [if_pos (by omega)])); all_goals (first | rfl | omega), by refine Eq.trans (rfl : yC h = yC h) ?_; unfold ySold; (repeat' (first | rw [if_neg (by omega)] | rw [if_pos (by omega)])); all_goals (repeat' (first | rfl | apply zs_cg | omega)), by exact J⟩
    · exfalso; omega
  · have lv2 := Gv2.1
    have ev2 := c1.2.2
    have pv2 : v2 = zv h 2 a.toNat ∧ ((a.toNat : Nat) : Int) < fld h 2 2 := ⟨ev2, by omega⟩
    refine zwW_p [(2, 3, 2), (1, 3, 2)] (q := 7) (ls' := [(2, 1), (0, a), (0, b), (2, v2)]) (st' := [(2, v2)]) (by decide +kernel) rfl ?_
    refine zwnu_eq (q := 33) (nx := 10) (by decide +kernel) (by omega) (fun c4 => ?_) (fun c4 => ?_)
    · exfalso; omega
    · refine zwW_p [(1, 2, 0), (0, 1, 0), (0, 999, 0)] (q := 15) (ls' := [(2, 1), (0, a), (0, b), (2, v2)]) (st' := [(0, 999), (0, 1), (0, b)]) (by decide +kernel) rfl ?_
      refine zwW_cs (k' := 98) (n := 3) (nx := 18) (as := [(0, b), (0, 1), (0, 999)]) (st' := []) (by decide +kernel) rfl (x98 h C b 1 999 (by omega) (by omega) (by omega)) rfl ?_
      rintro x _ ⟨rfl, ⟨rfl, c5⟩ | ⟨rfl, c5⟩⟩
      · refine zwif_ne (q := 33) (nx := 21) (by decide +kernel) (fun c6 => ?_) (fun c6 => ?_)
        · refine zwW_p [(0, -1, 0)] (q := 34) (ls' := [(2, 1), (0, a), (0, b), (2, v2)]) (st' := [(0, -1)]) (by decide +kernel) rfl ?_
          refine zwW_ret (nx := 35) (a := 0) (b := 0) (by decide +kernel) rfl (Or.inl rfl) ?_
          exact ⟨C, X.le (by decide) (by decide), by omega, by unfold ySoldA; (repeat' (first | rw [if_neg (by omega)] | rw [if_pos (by omega)])); all_goals (first | rfl | omega), by refine Eq.trans (rfl : yC h = yC h) ?_; unfold ySold; (repeat' (first | rw [if_neg (by omega)] | rw [if_pos (by omega)])); all_goals (repeat' (first | rfl | apply zs_cg | omega)), by exact J⟩
        · exfalso; omega
      · refine zwif_ne (q := 33) (nx := 21) (by decide +kernel) (fun c7 => ?_) (fun c7 => ?_)
        · exfalso; omega
        · refine zwW_p [(1, 3, 2)] (q := 22) (ls' := [(2, 1), (0, a), (0, b), (2, v2)]) (st' := [(2, v2)]) (by decide +kernel) rfl ?_
          refine zwX_gi C (kd := 11) (bn := 11) (n := 17) (nx := 25) (by decide +kernel) Gv2.2.1 Gv2.1 rfl ?_
          intro v8 ev8 lv8 uv8
          have sv8 : v8 = (yC h) 74 a.toNat := Eq.trans ev8 (Eq.trans (congrArg (fun q => fld h q 11) pv2.1) (Eq.trans (Eq.symm (yC_f (h := h) (a := 74) (A := 2) (j := 11) (i := a.toNat) rfl pv2.2)) (Eq.trans (congrFun (congrFun (rfl : yC h = yC h) 74) a.toNat) rfl)))
          refine zwW_p [(1, 2, 0)] (q := 26) (ls' := [(2, 1), (0, a), (0, b), (2, v2)]) (st' := [(0, b), (0, v8)]) (by decide +kernel) rfl ?_
          refine zwW_add (nx := 27) (by decide +kernel) (by first | omega | exact ⟨by omega, by omega⟩) ?_
          refine zwW_p [(0, 9999, 0)] (q := 30) (ls' := [(2, 1), (0, a), (0, b), (2, v2)]) (st' := [(0, 9999), (0, (v8 + b))]) (by decide +kernel) rfl ?_
          refine zwic_le (q := 35) (nx := 33) (by decide +kernel) (fun c9 => ?_) (fun c9 => ?_)
          · refine zwW_p [(1, 3, 2), (12, 0, 0)] (q := 37) (ls' := [(2, 1), (0, a), (0, b), (2, v2)]) (st' := [(2, v2), (2, v2)]) (by decide +kernel) rfl ?_
            refine zwX_gi C (kd := 11) (bn := 11) (n := 17) (nx := 40) (by decide +kernel) Gv2.2.1 Gv2.1 rfl ?_
            intro v10 ev10 lv10 uv10
            have sv10 : v10 = (yC h) 74 a.toNat := Eq.trans ev10 (Eq.trans (congrArg (fun q => fld h q 11) pv2.1) (Eq.trans (Eq.symm (yC_f (h := h) (a := 74) (A := 2) (j := 11) (i := a.toNat) rfl pv2.2)) (Eq.trans (congrFun (congrFun (rfl : yC h = yC h) 74) a.toNat) rfl)))
            refine zwW_p [(1, 2, 0)] (q := 41) (ls' := [(2, 1), (0, a), (0, b), (2, v2)]) (st' := [(0, b), (0, v10), (2, v2)]) (by decide +kernel) rfl ?_
            refine zwW_add (nx := 42) (by decide +kernel) (by first | omega | exact ⟨by omega, by omega⟩) ?_
            refine zwX_pi C (kd := 11) (bn := 11) (n := 17) (nx := 45) (by decide +kernel) Gv2.2.1 Gv2.1 (by first | omega | exact ⟨by omega, by omega⟩) ?_
            rintro h11 eh11 Ch11 Qh11
            have Zh11 : yC h11 = (zs (yC h) 74 a.toNat (((yC h) 74 a.toNat) + b)) := by rw [yC_w (a := 74) (A := 2) (j := 11) (k := a.toNat) C J rfl pv2 eh11, sv10]
            have Xh11 : zXR msx63_z (0) (0) h h11 := X.tr (c2 := 0) (s2 := 0) Qh11 (by decide +kernel) (by decide) (by decide)
            have Gh11_0 : gV h11 v2 := Gv2.x Qh11
            have Jh11 : yR h11 := J.fr C Qh11 (by decide +kernel)
            have pv2_h11 : v2 = zv h11 2 a.toNat ∧ ((a.toNat : Nat) : Int) < fld h11 2 2 := zpv C Qh11 (A := 2) (by decide) (by decide +kernel) pv2
            refine zwW_p [(1, 3, 2)] (q := 46) (ls' := [(2, 1), (0, a), (0, b), (2, v2)]) (st' := [(2, v2)]) (by decide +kernel) rfl ?_
            refine zwX_gi Ch11 (kd := 11) (bn := 11) (n := 17) (nx := 49) (by decide +kernel) Gh11_0.2.1 Gh11_0.1 rfl ?_
            intro v12 ev12 lv12 uv12
            have wv12 : v12 = (v10 + b) := by rw [ev12, eh11]; exact fld_wr_eq Gv2.2.1 (by decide)
            have sv12 : v12 = (((yC h) 74 a.toNat) + b) := Eq.trans ev12 (Eq.trans (congrArg (fun q => fld h11 q 11) pv2_h11.1) (Eq.trans (Eq.symm (yC_f (h := h11) (a := 74) (A := 2) (j := 11) (i := a.toNat) rfl pv2_h11.2)) (Eq.trans (congrFun (congrFun Zh11 74) a.toNat) (zs_eq : (zs (yC h) 74 a.toNat (((yC h) 74 a.toNat) + b)) 74 a.toNat = (((yC h) 74 a.toNat) + b)))))
            refine zwW_ret (nx := 50) (a := 0) (b := 0) (by decide +kernel) rfl (Or.inl rfl) ?_
            exact ⟨Ch11, Xh11.le (by decide) (by decide), by omega, by unfold ySoldA; (repeat' (first | rw [if_pos (by omega)] | rw [if_neg (by omega)])); all_goals (first | rfl | omega), by refine Eq.trans Zh11 ?_; unfold ySold; (repeat' (first | rw [if_pos (by omega)] | rw [if_neg (by omega)])); all_goals (repeat' (first | rfl | apply zs_cg | omega)), by exact Jh11⟩
          · refine zwW_p [(0, -1, 0)] (q := 34) (ls' := [(2, 1), (0, a), (0, b), (2, v2)]) (st' := [(0, -1)]) (by decide +kernel) rfl ?_
            refine zwW_ret (nx := 35) (a := 0) (b := 0) (by decide +kernel) rfl (Or.inl rfl) ?_
            exact ⟨C, X.le (by decide) (by decide), by omega, by unfold ySoldA; (repeat' (first | rw [if_neg (by omega)] | rw [if_pos (by omega)])); all_goals (first | rfl | omega), by refine Eq.trans (rfl : yC h = yC h) ?_; unfold ySold; (repeat' (first | rw [if_neg (by omega)] | rw [if_pos (by omega)])); all_goals (repeat' (first | rfl | apply zs_cg | omega)), by exact J⟩
def msx161_z : Zms := [(27, 27, 0, 1), (28, 28, 0, 8), (29, 29, 0, 8), (30, 30, 0, 8)]
-- WheelLand$Gifts.tell(III)V
theorem x161_z {sc : List Int} (h : Hp) (C : CI h) (a b c : Int) (q_a : -2147483648 ≤ a ∧ a ≤ 2147483647) (q_b : -2147483648 ≤ b ∧ b ≤ 2147483647) (q_c : -2147483648 ≤ c ∧ c ≤ 2147483647) (J : yR h) (p8 : fld h 27 0 < 8) : zwC sc 1 161 [(2, 27), (0, a), (0, b), (0, c)] h (zwRv (fun g => CI g ∧ zXR msx161_z (0) (0) h g ∧ (yC g = yTell (yC h) a b c) ∧ (yR g))) := by
  refine zwC_of (D := 0) 4 (by decide +kernel) rfl (ls := [(2, 27), (0, a), (0, b), (0, c)]) rfl ?_
  have X : zXR msx161_z 0 0 h h := zXR.rf _ _
  have u96 : yC h 37 96 = fld h 27 0 := rfl
  refine zwW_p [(1, 0, 2)] (q := 1) (ls' := [(2, 27), (0, a), (0, b), (0, c)]) (st' := [(2, 27)]) (by decide +kernel) rfl ?_
  refine zwW_gs C.1 (kd := 2) (bn := 0) (n := 10) (t := 0) (lo := 0) (hi := 8) (nx := 4) (by decide +kernel) ?_
  intro v1 ev1 lv1 uv1
  have sv1 : v1 = (yC h) 37 96 := Eq.trans ev1 (Eq.trans (Eq.symm (yC_s (h := h) (i := 96) rfl)) (Eq.trans (congrFun (congrFun (rfl : yC h = yC h) 37) 96) rfl))
  refine zwW_p [(0, 8, 0)] (q := 6) (ls' := [(2, 27), (0, a), (0, b), (0, c)]) (st' := [(0, 8), (0, v1)]) (by decide +kernel) rfl ?_
  refine zwic_ge (q := 49) (nx := 9) (by decide +kernel) (fun c2 => ?_) (fun c2 => ?_)
  · refine zwW_retv (nx := 50) (a := 0) (b := 0) (by decide +kernel) ?_
    exact ⟨C, X.le (by decide) (by decide), by refine Eq.trans (rfl : yC h = yC h) ?_; unfold yTell; (repeat' (first | rw [if_pos (by omega)] | rw [if_neg (by omega)])); all_goals (repeat' (first | rfl | apply zs_cg | omega)), by exact J⟩
  · refine zwW_p [(1, 0, 2)] (q := 10) (ls' := [(2, 27), (0, a), (0, b), (0, c)]) (st' := [(2, 27)]) (by decide +kernel) rfl ?_
    refine zwW_gc C.1 (kd := 2) (bn := 4) (n := 10) (c := 28) (nx := 13) (by decide +kernel) ?_
    refine zwW_p [(1, 0, 2)] (q := 14) (ls' := [(2, 27), (0, a), (0, b), (0, c)]) (st' := [(2, 27), (2, 28)]) (by decide +kernel) rfl ?_
    refine zwW_gs C.1 (kd := 2) (bn := 0) (n := 10) (t := 0) (lo := 0) (hi := 8) (nx := 17) (by decide +kernel) ?_
    intro v3 ev3 lv3 uv3
    have sv3 : v3 = (yC h) 37 96 := Eq.trans ev3 (Eq.trans (Eq.symm (yC_s (h := h) (i := 96) rfl)) (Eq.trans (congrFun (congrFun (rfl : yC h = yC h) 37) 96) rfl))
    refine zwW_p [(1, 1, 0)] (q := 18) (ls' := [(2, 27), (0, a), (0, b), (0, c)]) (st' := [(0, a), (0, v3), (2, 28)]) (by decide +kernel) rfl ?_
    have ib1 : 0 ≤ v3 ∧ v3 < ((8 : Nat) : Int) := (by first | omega | exact ⟨by omega, by omega⟩)
    refine zwW_as C.1 (a1 := 28) (a2 := 28) (n := 8) (lo := -2147483648) (hi := 2147483647) (nx := 19) (by decide +kernel) (by first | decide | exact ⟨by decide, by decide⟩) ib1 (by first | omega | exact ⟨by omega, by omega⟩) ?_
    intro h4 eh4 Ih4
    have Ch4 : CI h4 := C.wc eh4 Ih4 (by decide) (by decide)
    have Qh4 : zXR [(28, 28, 0, 8)] 0 0 h h4 := zXR.wc eh4 rfl ⟨by decide, by decide, Or.inl (by decide)⟩ (by first | omega | exact ⟨by omega, by omega⟩)
    have Zh4 : yC h4 = (zs (yC h) 363 (((yC h) 37 96).toNat) a) := by rw [yC_wx (a := 363) (r := 28) (n := 8) (i := v3.toNat) (kd := 20) rfl (C.1.s (a1 := 28) (a2 := 28) (by decide +kernel) (by decide) (by decide)) (by omega) C eh4, sv3]
    have Xh4 : zXR msx161_z (0) (0) h h4 := X.tr (c2 := 0) (s2 := 0) Qh4 (by decide +kernel) (by decide) (by decide)
    have Jh4 : yR h4 := J.fr C Qh4 (by decide +kernel)
    have th4_27_0 : fld h4 27 0 = fld h 27 0 := Qh4.f (a1 := 27) (a2 := 27) (j1 := 0) (j2 := 1) (by decide +kernel) (by first | decide | exact ⟨by decide, by decide⟩) (by first | decide | exact ⟨by decide, by decide⟩) (by first | decide | exact ⟨by decide, by decide⟩)
    refine zwW_p [(1, 0, 2)] (q := 20) (ls' := [(2, 27), (0, a), (0, b), (0, c)]) (st' := [(2, 27)]) (by decide +kernel) rfl ?_
    refine zwW_gc Ch4.1 (kd := 2) (bn := 5) (n := 10) (c := 29) (nx := 23) (by decide +kernel) ?_
    refine zwW_p [(1, 0, 2)] (q := 24) (ls' := [(2, 27), (0, a), (0, b), (0, c)]) (st' := [(2, 27), (2, 29)]) (by decide +kernel) rfl ?_
    refine zwW_gs Ch4.1 (kd := 2) (bn := 0) (n := 10) (t := 0) (lo := 0) (hi := 8) (nx := 27) (by decide +kernel) ?_
    intro v5 ev5 lv5 uv5
    have sv5 : v5 = (yC h) 37 96 := Eq.trans ev5 (Eq.trans (Eq.symm (yC_s (h := h4) (i := 96) rfl)) (Eq.trans (congrFun (congrFun Zh4 37) 96) (Eq.trans (zs_na (by decide) : (zs (yC h) 363 (((yC h) 37 96).toNat) a) 37 96 = (yC h) 37 96) rfl)))
    refine zwW_p [(1, 2, 0)] (q := 28) (ls' := [(2, 27), (0, a), (0, b), (0, c)]) (st' := [(0, b), (0, v5), (2, 29)]) (by decide +kernel) rfl ?_
    have ib2 : 0 ≤ v5 ∧ v5 < ((8 : Nat) : Int) := (by first | omega | exact ⟨by omega, by omega⟩)
    refine zwW_as Ch4.1 (a1 := 29) (a2 := 29) (n := 8) (lo := -2147483648) (hi := 2147483647) (nx := 29) (by decide +kernel) (by first | decide | exact ⟨by decide, by decide⟩) ib2 (by first | omega | exact ⟨by omega, by omega⟩) ?_
    intro h6 eh6 Ih6
    have Ch6 : CI h6 := Ch4.wc eh6 Ih6 (by decide) (by decide)
    have Qh6 : zXR [(29, 29, 0, 8)] 0 0 h4 h6 := zXR.wc eh6 rfl ⟨by decide, by decide, Or.inl (by decide)⟩ (by first | omega | exact ⟨by omega, by omega⟩)
    have Zh6 : yC h6 = (zs (zs (yC h) 363 (((yC h) 37 96).toNat) a) 364 (((yC h) 37 96).toNat) b) := by rw [yC_wx (a := 364) (r := 29) (n := 8) (i := v5.toNat) (kd := 20) rfl (Ch4.1.s (a1 := 29) (a2 := 29) (by decide +kernel) (by decide) (by decide)) (by omega) Ch4 eh6, Zh4, sv5]
    have Xh6 : zXR msx161_z (0) (0) h h6 := Xh4.tr (c2 := 0) (s2 := 0) Qh6 (by decide +kernel) (by decide) (by decide)
    have Jh6 : yR h6 := Jh4.fr Ch4 Qh6 (by decide +kernel)
    have th6_27_0 : fld h6 27 0 = fld h4 27 0 := Qh6.f (a1 := 27) (a2 := 27) (j1 := 0) (j2 := 1) (by decide +kernel) (by first | decide | exact ⟨by decide, by decide⟩) (by first | decide | exact ⟨by decide, by decide⟩) (by first | decide | exact ⟨by decide, by decide⟩)
    refine zwW_p [(1, 0, 2)] (q := 30) (ls' := [(2, 27), (0, a), (0, b), (0, c)]) (st' := [(2, 27)]) (by decide +kernel) rfl ?_
    refine zwW_gc Ch6.1 (kd := 2) (bn := 6) (n := 10) (c := 30) (nx := 33) (by decide +kernel) ?_
    refine zwW_p [(1, 0, 2)] (q := 34) (ls' := [(2, 27), (0, a), (0, b), (0, c)]) (st' := [(2, 27), (2, 30)]) (by decide +kernel) rfl ?_
    refine zwW_gs Ch6.1 (kd := 2) (bn := 0) (n := 10) (t := 0) (lo := 0) (hi := 8) (nx := 37) (by decide +kernel) ?_
    intro v7 ev7 lv7 uv7
    have sv7 : v7 = (yC h) 37 96 := Eq.trans ev7 (Eq.trans (Eq.symm (yC_s (h := h6) (i := 96) rfl)) (Eq.trans (congrFun (congrFun Zh6 37) 96) (Eq.trans (zs_na (by decide) : (zs (zs (yC h) 363 (((yC h) 37 96).toNat) a) 364 (((yC h) 37 96).toNat) b) 37 96 = (zs (yC h) 363 (((yC h) 37 96).toNat) a) 37 96) (Eq.trans (zs_na (by decide) : (zs (yC h) 363 (((yC h) 37 96).toNat) a) 37 96 = (yC h) 37 96) rfl))))
    refine zwW_p [(1, 3, 0)] (q := 38) (ls' := [(2, 27), (0, a), (0, b), (0, c)]) (st' := [(0, c), (0, v7), (2, 30)]) (by decide +kernel) rfl ?_
    have ib3 : 0 ≤ v7 ∧ v7 < ((8 : Nat) : Int) := (by first | omega | exact ⟨by omega, by omega⟩)
    refine zwW_as Ch6.1 (a1 := 30) (a2 := 30) (n := 8) (lo := -2147483648) (hi := 2147483647) (nx := 39) (by decide +kernel) (by first | decide | exact ⟨by decide, by decide⟩) ib3 (by first | omega | exact ⟨by omega, by omega⟩) ?_
    intro h8 eh8 Ih8
    have Ch8 : CI h8 := Ch6.wc eh8 Ih8 (by decide) (by decide)
    have Qh8 : zXR [(30, 30, 0, 8)] 0 0 h6 h8 := zXR.wc eh8 rfl ⟨by decide, by decide, Or.inl (by decide)⟩ (by first | omega | exact ⟨by omega, by omega⟩)
    have Zh8 : yC h8 = (zs (zs (zs (yC h) 363 (((yC h) 37 96).toNat) a) 364 (((yC h) 37 96).toNat) b) 365 (((yC h) 37 96).toNat) c) := by rw [yC_wx (a := 365) (r := 30) (n := 8) (i := v7.toNat) (kd := 20) rfl (Ch6.1.s (a1 := 30) (a2 := 30) (by decide +kernel) (by decide) (by decide)) (by omega) Ch6 eh8, Zh6, sv7]
    have Xh8 : zXR msx161_z (0) (0) h h8 := Xh6.tr (c2 := 0) (s2 := 0) Qh8 (by decide +kernel) (by decide) (by decide)
    have Jh8 : yR h8 := Jh6.fr Ch6 Qh8 (by decide +kernel)
    have th8_27_0 : fld h8 27 0 = fld h6 27 0 := Qh8.f (a1 := 27) (a2 := 27) (j1 := 0) (j2 := 1) (by decide +kernel) (by first | decide | exact ⟨by decide, by decide⟩) (by first | decide | exact ⟨by decide, by decide⟩) (by first | decide | exact ⟨by decide, by decide⟩)
    refine zwW_p [(1, 0, 2), (12, 0, 0)] (q := 41) (ls' := [(2, 27), (0, a), (0, b), (0, c)]) (st' := [(2, 27), (2, 27)]) (by decide +kernel) rfl ?_
    refine zwW_gs Ch8.1 (kd := 2) (bn := 0) (n := 10) (t := 0) (lo := 0) (hi := 8) (nx := 44) (by decide +kernel) ?_
    intro v9 ev9 lv9 uv9
    have sv9 : v9 = (yC h) 37 96 := Eq.trans ev9 (Eq.trans (Eq.symm (yC_s (h := h8) (i := 96) rfl)) (Eq.trans (congrFun (congrFun Zh8 37) 96) (Eq.trans (zs_na (by decide) : (zs (zs (zs (yC h) 363 (((yC h) 37 96).toNat) a) 364 (((yC h) 37 96).toNat) b) 365 (((yC h) 37 96).toNat) c) 37 96 = (zs (zs (yC h) 363 (((yC h) 37 96).toNat) a) 364 (((yC h) 37 96).toNat) b) 37 96) (Eq.trans (zs_na (by decide) : (zs (zs (yC h) 363 (((yC h) 37 96).toNat) a) 364 (((yC h) 37 96).toNat) b) 37 96 = (zs (yC h) 363 (((yC h) 37 96).toNat) a) 37 96) (Eq.trans (zs_na (by decide) : (zs (yC h) 363 (((yC h) 37 96).toNat) a) 37 96 = (yC h) 37 96) rfl)))))
    refine zwW_p [(0, 1, 0)] (q := 45) (ls' := [(2, 27), (0, a), (0, b), (0, c)]) (st' := [(0, 1), (0, v9), (2, 27)]) (by decide +kernel) rfl ?_
    refine zwW_add (nx := 46) (by decide +kernel) (by first | omega | exact ⟨by omega, by omega⟩) ?_
    refine zwW_ps Ch8.1 (kd := 2) (bn := 0) (n := 10) (lo := 0) (hi := 8) (nx := 49) (by decide +kernel) (by first | omega | exact ⟨by omega, by omega⟩) ?_
    intro h10 eh10 Ih10
    have Ch10 : CI h10 := Ch8.wc eh10 Ih10 (by decide) (by decide)
    have Qh10 : zXR [(27, 27, 0, 1)] 0 0 h8 h10 := zXR.wc eh10 rfl ⟨by decide, by decide, Or.inl (by decide)⟩ (by first | decide | exact ⟨by decide, by decide⟩)
    have Zh10 : yC h10 = (zs (zs (zs (zs (yC h) 363 (((yC h) 37 96).toNat) a) 364 (((yC h) 37 96).toNat) b) 365 (((yC h) 37 96).toNat) c) 37 96 (((yC h) 37 96) + 1)) := by rw [yC_ws (q := 96) (r := 27) (j := 0) (kd := 2) (n := 10) rfl (Ch8.1.s (a1 := 27) (a2 := 27) (by decide +kernel) (by decide) (by decide)) (by decide) Ch8 eh10, Zh8, sv9]
    have Xh10 : zXR msx161_z (0) (0) h h10 := Xh8.tr (c2 := 0) (s2 := 0) Qh10 (by decide +kernel) (by decide) (by decide)
    have Jh10 : yR h10 := Jh8.fr Ch8 Qh10 (by decide +kernel)
    have th10_27_0 : fld h10 27 0 = (v9 + 1) := by rw [eh10]; exact fld_wr_eq (Ch8.1.s (a1 := 27) (a2 := 27) (k := 2) (n := 10) (by decide +kernel) (by decide) (by decide)) (by decide)
    refine zwW_retv (nx := 50) (a := 0) (b := 0) (by decide +kernel) ?_
    exact ⟨Ch10, Xh10.le (by decide) (by decide), by refine Eq.trans Zh10 ?_; unfold yTell; (repeat' (first | rw [if_pos (by omega)] | rw [if_neg (by omega)])); all_goals (repeat' (first | rfl | apply zs_cg | omega)), by exact Jh10⟩
def msx69_z : Zms := [(27, 27, 0, 1), (28, 28, 0, 8), (29, 29, 0, 8), (30, 30, 0, 8)]
-- WheelLand.gift(III)I
theorem x69_z {sc : List Int} (h : Hp) (C : CI h) (a b c : Int) (q_a : -2147483648 ≤ a ∧ a ≤ 2147483647) (q_b : -2147483648 ≤ b ∧ b ≤ 2147483647) (q_c : -2147483648 ≤ c ∧ c ≤ 2147483647) (J : yR h) : zwC sc 6 69 [(2, 1), (0, a), (0, b), (0, c)] h (zwRt 0 (fun x g => CI g ∧ zXR msx69_z (0) (0) h g ∧ (-2147483648 ≤ x ∧ x ≤ 2147483647) ∧ (x = yGiftA (yC h) a b c) ∧ (yC g = yGift (yC h) a b c) ∧ (yR g))) := by
  refine zwC_of (D := 5) 4 (by decide +kernel) rfl (ls := [(2, 1), (0, a), (0, b), (0, c)]) rfl ?_
  have X : zXR msx69_z 0 0 h h := zXR.rf _ _
  have u0 : yC h 37 0 = fld h 1 0 := rfl
  have u1 : yC h 37 1 = fld h 2 2 := rfl
  have u2 : yC h 37 2 = fld h 3 2 := rfl
  have u96 : yC h 37 96 = fld h 27 0 := rfl
  have T96 : yTell (yC h) a b c 37 96 = yC h 37 96 + 1 := zs_eq
  refine zwW_p [(1, 0, 2), (1, 2, 0)] (q := 2) (ls' := [(2, 1), (0, a), (0, b), (0, c)]) (st' := [(0, b), (2, 1)]) (by decide +kernel) rfl ?_
  refine zwW_cm C.1 (op := 60) (k' := 109) (n := 1) (kd := 12) (m := 13) (nx := 5) (r := 1) (tl := [(0, b)]) (st' := []) (by decide +kernel) rfl (by decide +kernel) rfl (x109 h C b (by omega)) ?_
  rintro v2 _ ⟨rfl, ⟨rfl, c1⟩ | ⟨Gv2, c1⟩⟩
  · refine zwnu_eq (q := 39) (nx := 8) (by decide +kernel) (by decide) (fun c3 => ?_) (fun c3 => ?_)
    · refine zwW_p [(0, -1, 0)] (q := 40) (ls' := [(2, 1), (0, a), (0, b), (0, c)]) (st' := [(0, -1)]) (by decide +kernel) rfl ?_
      refine zwW_ret (nx := 41) (a := 0) (b := 0) (by decide +kernel) rfl (Or.inl rfl) ?_
      exact ⟨C, X.le (by decide) (by decide), by omega, by unfold yGiftA; (repeat' (first | rw [if_neg (by omega)] | rw [if_pos (by omega)])); all_goals (first | rfl | omega), by refine Eq.trans (rfl : yC h = yC h) ?_; unfold yGift; (repeat' (first | rw [if_neg (by omega)] | rw [if_pos (by omega)])); all_goals (repeat' (first | rfl | apply zs_cg | omega)), by exact J⟩
    · exfalso; omega
  · have lv2 := Gv2.1
    have ev2 := c1.2.2
    have pv2 : v2 = zv h 3 b.toNat ∧ ((b.toNat : Nat) : Int) < fld h 3 2 := ⟨ev2, by omega⟩
    refine zwnu_eq (q := 39) (nx := 8) (by decide +kernel) (by omega) (fun c4 => ?_) (fun c4 => ?_)
    · exfalso; omega
    · refine zwW_p [(1, 1, 0), (0, 1, 0), (0, 99, 0)] (q := 12) (ls' := [(2, 1), (0, a), (0, b), (0, c)]) (st' := [(0, 99), (0, 1), (0, a)]) (by decide +kernel) rfl ?_
      refine zwW_cs (k' := 98) (n := 3) (nx := 15) (as := [(0, a), (0, 1), (0, 99)]) (st' := []) (by decide +kernel) rfl (x98 h C a 1 99 (by omega) (by omega) (by omega)) rfl ?_
      rintro x _ ⟨rfl, ⟨rfl, c5⟩ | ⟨rfl, c5⟩⟩
      · refine zwif_ne (q := 39) (nx := 18) (by decide +kernel) (fun c6 => ?_) (fun c6 => ?_)
        · refine zwW_p [(0, -1, 0)] (q := 40) (ls' := [(2, 1), (0, a), (0, b), (0, c)]) (st' := [(0, -1)]) (by decide +kernel) rfl ?_
          refine zwW_ret (nx := 41) (a := 0) (b := 0) (by decide +kernel) rfl (Or.inl rfl) ?_
          exact ⟨C, X.le (by decide) (by decide), by omega, by unfold yGiftA; (repeat' (first | rw [if_neg (by omega)] | rw [if_pos (by omega)])); all_goals (first | rfl | omega), by refine Eq.trans (rfl : yC h = yC h) ?_; unfold yGift; (repeat' (first | rw [if_neg (by omega)] | rw [if_pos (by omega)])); all_goals (repeat' (first | rfl | apply zs_cg | omega)), by exact J⟩
        · exfalso; omega
      · refine zwif_ne (q := 39) (nx := 18) (by decide +kernel) (fun c7 => ?_) (fun c7 => ?_)
        · exfalso; omega
        · refine zwW_p [(1, 3, 0), (0, 0, 0), (0, 2, 0)] (q := 21) (ls' := [(2, 1), (0, a), (0, b), (0, c)]) (st' := [(0, 2), (0, 0), (0, c)]) (by decide +kernel) rfl ?_
          refine zwW_cs (k' := 98) (n := 3) (nx := 24) (as := [(0, c), (0, 0), (0, 2)]) (st' := []) (by decide +kernel) rfl (x98 h C c 0 2 (by omega) (by omega) (by omega)) rfl ?_
          rintro x _ ⟨rfl, ⟨rfl, c8⟩ | ⟨rfl, c8⟩⟩
          · refine zwif_ne (q := 39) (nx := 27) (by decide +kernel) (fun c9 => ?_) (fun c9 => ?_)
            · refine zwW_p [(0, -1, 0)] (q := 40) (ls' := [(2, 1), (0, a), (0, b), (0, c)]) (st' := [(0, -1)]) (by decide +kernel) rfl ?_
              refine zwW_ret (nx := 41) (a := 0) (b := 0) (by decide +kernel) rfl (Or.inl rfl) ?_
              exact ⟨C, X.le (by decide) (by decide), by omega, by unfold yGiftA; (repeat' (first | rw [if_neg (by omega)] | rw [if_pos (by omega)])); all_goals (first | rfl | omega), by refine Eq.trans (rfl : yC h = yC h) ?_; unfold yGift; (repeat' (first | rw [if_neg (by omega)] | rw [if_pos (by omega)])); all_goals (repeat' (first | rfl | apply zs_cg | omega)), by exact J⟩
            · exfalso; omega
          · refine zwif_ne (q := 39) (nx := 27) (by decide +kernel) (fun c10 => ?_) (fun c10 => ?_)
            · exfalso; omega
            · refine zwW_p [(1, 0, 2)] (q := 28) (ls' := [(2, 1), (0, a), (0, b), (0, c)]) (st' := [(2, 1)]) (by decide +kernel) rfl ?_
              refine zwW_gc C.1 (kd := 12) (bn := 10) (n := 13) (c := 27) (nx := 31) (by decide +kernel) ?_
              refine zwW_gs C.1 (kd := 2) (bn := 0) (n := 10) (t := 0) (lo := 0) (hi := 8) (nx := 34) (by decide +kernel) ?_
              intro v11 ev11 lv11 uv11
              have sv11 : v11 = (yC h) 37 96 := Eq.trans ev11 (Eq.trans (Eq.symm (yC_s (h := h) (i := 96) rfl)) (Eq.trans (congrFun (congrFun (rfl : yC h = yC h) 37) 96) rfl))
              refine zwW_p [(0, 8, 0)] (q := 36) (ls' := [(2, 1), (0, a), (0, b), (0, c)]) (st' := [(0, 8), (0, v11)]) (by decide +kernel) rfl ?_
              refine zwic_lt (q := 41) (nx := 39) (by decide +kernel) (fun c12 => ?_) (fun c12 => ?_)
              · refine zwW_p [(1, 0, 2)] (q := 42) (ls' := [(2, 1), (0, a), (0, b), (0, c)]) (st' := [(2, 1)]) (by decide +kernel) rfl ?_
                refine zwW_gc C.1 (kd := 12) (bn := 10) (n := 13) (c := 27) (nx := 45) (by decide +kernel) ?_
                refine zwW_p [(1, 1, 0), (1, 2, 0), (1, 3, 0)] (q := 48) (ls' := [(2, 1), (0, a), (0, b), (0, c)]) (st' := [(0, c), (0, b), (0, a), (2, 27)]) (by decide +kernel) rfl ?_
                refine zwW_cmv C.1 (op := 60) (k' := 161) (n := 3) (kd := 2) (m := 10) (nx := 51) (r := 27) (tl := [(0, a), (0, b), (0, c)]) (st' := []) (by decide +kernel) rfl (by decide +kernel) rfl (x161_z h C a b c (by omega) (by omega) (by omega) J (by omega)) ?_
                rintro h15 ⟨Ch15, Qh15, f13, f14⟩
                have Zh15 : yC h15 = (yTell (yC h) a b c) := by rw [f13]
                have Xh15 : zXR msx69_z (0) (0) h h15 := X.tr (c2 := 0) (s2 := 0) Qh15 (by decide +kernel) (by decide) (by decide)
                refine zwW_p [(1, 0, 2)] (q := 52) (ls' := [(2, 1), (0, a), (0, b), (0, c)]) (st' := [(2, 1)]) (by decide +kernel) rfl ?_
                refine zwW_gc Ch15.1 (kd := 12) (bn := 10) (n := 13) (c := 27) (nx := 55) (by decide +kernel) ?_
                refine zwW_gs Ch15.1 (kd := 2) (bn := 0) (n := 10) (t := 0) (lo := 0) (hi := 8) (nx := 58) (by decide +kernel) ?_
                intro v16 ev16 lv16 uv16
                have sv16 : v16 = (yTell (yC h) a b c) 37 96 := Eq.trans ev16 (Eq.trans (Eq.symm (yC_s (h := h15) (i := 96) rfl)) (Eq.trans (congrFun (congrFun Zh15 37) 96) rfl))
                refine zwW_p [(0, 1, 0)] (q := 59) (ls' := [(2, 1), (0, a), (0, b), (0, c)]) (st' := [(0, 1), (0, v16)]) (by decide +kernel) rfl ?_
                refine zwW_sub (nx := 60) (by decide +kernel) (by first | omega | exact ⟨by omega, by omega⟩) ?_
                refine zwW_ret (nx := 61) (a := 0) (b := 0) (by decide +kernel) rfl (Or.inl rfl) ?_
                exact ⟨Ch15, Xh15.le (by decide) (by decide), by omega, by unfold yGiftA; (repeat' (first | rw [if_pos (by omega)] | rw [if_neg (by omega)])); all_goals (first | rfl | omega), by refine Eq.trans Zh15 ?_; unfold yGift; (repeat' (first | rw [if_pos (by omega)] | rw [if_neg (by omega)])); all_goals (repeat' (first | rfl | apply zs_cg | omega)), by exact f14⟩
              · refine zwW_p [(0, -1, 0)] (q := 40) (ls' := [(2, 1), (0, a), (0, b), (0, c)]) (st' := [(0, -1)]) (by decide +kernel) rfl ?_
                refine zwW_ret (nx := 41) (a := 0) (b := 0) (by decide +kernel) rfl (Or.inl rfl) ?_
                exact ⟨C, X.le (by decide) (by decide), by omega, by unfold yGiftA; (repeat' (first | rw [if_neg (by omega)] | rw [if_pos (by omega)])); all_goals (first | rfl | omega), by refine Eq.trans (rfl : yC h = yC h) ?_; unfold yGift; (repeat' (first | rw [if_neg (by omega)] | rw [if_pos (by omega)])); all_goals (repeat' (first | rfl | apply zs_cg | omega)), by exact J⟩
def msx71_z : Zms := [(27, 27, 0, 1)]
-- WheelLand.forget()I
theorem x71_z {sc : List Int} (h : Hp) (C : CI h) (J : yR h) : zwC sc 1 71 [(2, 1)] h (zwRt 0 (fun x g => CI g ∧ zXR msx71_z (0) (0) h g ∧ (-2147483648 ≤ x ∧ x ≤ 2147483647) ∧ (x = yForgA (yC h)) ∧ (yC g = yForg (yC h)) ∧ (yR g))) := by
  refine zwC_of (D := 0) 2 (by decide +kernel) rfl (ls := [(2, 1), (9, 0)]) rfl ?_
  have X : zXR msx71_z 0 0 h h := zXR.rf _ _
  have u96 : yC h 37 96 = fld h 27 0 := rfl
  refine zwW_p [(1, 0, 2)] (q := 1) (ls' := [(2, 1), (9, 0)]) (st' := [(2, 1)]) (by decide +kernel) rfl ?_
  refine zwW_gc C.1 (kd := 12) (bn := 10) (n := 13) (c := 27) (nx := 4) (by decide +kernel) ?_
  refine zwW_gs C.1 (kd := 2) (bn := 0) (n := 10) (t := 0) (lo := 0) (hi := 8) (nx := 7) (by decide +kernel) ?_
  intro v1 ev1 lv1 uv1
  have sv1 : v1 = (yC h) 37 96 := Eq.trans ev1 (Eq.trans (Eq.symm (yC_s (h := h) (i := 96) rfl)) (Eq.trans (congrFun (congrFun (rfl : yC h = yC h) 37) 96) rfl))
  refine zwW_p [(2, 1, 0), (1, 0, 2)] (q := 9) (ls' := [(2, 1), (0, v1)]) (st' := [(2, 1)]) (by decide +kernel) rfl ?_
  refine zwW_gc C.1 (kd := 12) (bn := 10) (n := 13) (c := 27) (nx := 12) (by decide +kernel) ?_
  refine zwW_p [(0, 0, 0)] (q := 13) (ls' := [(2, 1), (0, v1)]) (st' := [(0, 0), (2, 27)]) (by decide +kernel) rfl ?_
  refine zwW_ps C.1 (kd := 2) (bn := 0) (n := 10) (lo := 0) (hi := 8) (nx := 16) (by decide +kernel) (by first | decide | exact ⟨by decide, by decide⟩) ?_
  intro h2 eh2 Ih2
  have Ch2 : CI h2 := C.wc eh2 Ih2 (by decide) (by decide)
  have Qh2 : zXR [(27, 27, 0, 1)] 0 0 h h2 := zXR.wc eh2 rfl ⟨by decide, by decide, Or.inl (by decide)⟩ (by first | decide | exact ⟨by decide, by decide⟩)
  have Zh2 : yC h2 = (zs (yC h) 37 96 0) := by rw [yC_ws (q := 96) (r := 27) (j := 0) (kd := 2) (n := 10) rfl (C.1.s (a1 := 27) (a2 := 27) (by decide +kernel) (by decide) (by decide)) (by decide) C eh2]
  have Xh2 : zXR msx71_z (0) (0) h h2 := X.tr (c2 := 0) (s2 := 0) Qh2 (by decide +kernel) (by decide) (by decide)
  have Jh2 : yR h2 := J.fr C Qh2 (by decide +kernel)
  have th2_27_0 : fld h2 27 0 = 0 := by rw [eh2]; exact fld_wr_eq (C.1.s (a1 := 27) (a2 := 27) (k := 2) (n := 10) (by decide +kernel) (by decide) (by decide)) (by decide)
  refine zwW_p [(1, 1, 0)] (q := 17) (ls' := [(2, 1), (0, v1)]) (st' := [(0, v1)]) (by decide +kernel) rfl ?_
  refine zwW_ret (nx := 18) (a := 0) (b := 0) (by decide +kernel) rfl (Or.inl rfl) ?_
  exact ⟨Ch2, Xh2.le (by decide) (by decide), by omega, by unfold yForgA; (repeat' (first | rw [if_pos (by omega)] | rw [if_neg (by omega)])); all_goals (first | rfl | omega), by refine Eq.trans Zh2 ?_; unfold yForg; (repeat' (first | rw [if_pos (by omega)] | rw [if_neg (by omega)])); all_goals (repeat' (first | rfl | apply zs_cg | omega)), by exact Jh2⟩
def msx35_z : Zms := [(34, 34, 0, 1), (1004, 1004, 16, 17), (1004, 1004, 17, 18), (1006, 1006, 6, 7)]
-- WheelLand.pay(III)I
theorem x35_z {sc : List Int} (h : Hp) (C : CI h) (a b c : Int) (q_a : -2147483648 ≤ a ∧ a ≤ 2147483647) (q_b : -2147483648 ≤ b ∧ b ≤ 2147483647) (q_c : -2147483648 ≤ c ∧ c ≤ 2147483647) (J : yR h) : zwC sc 6 35 [(2, 1), (0, a), (0, b), (0, c)] h (zwRt 0 (fun x g => CI g ∧ zXR msx35_z (0) (0) h g ∧ (-2147483648 ≤ x ∧ x ≤ 2147483647) ∧ (x = yPayA (yC h) a b c) ∧ (yC g = yPay (yC h) a b c) ∧ (yR g))) := by
  refine zwC_of (D := 5) 6 (by decide +kernel) rfl (ls := [(2, 1), (0, a), (0, b), (0, c), (9, 0), (9, 0)]) rfl ?_
  have X : zXR msx35_z 0 0 h h := zXR.rf _ _
  have u0 : yC h 37 0 = fld h 1 0 := rfl
  have u1 : yC h 37 1 = fld h 2 2 := rfl
  have u2 : yC h 37 2 = fld h 3 2 := rfl
  have u64 : yC h 37 64 = fld h 4 2 := rfl
  have u78 : yC h 37 78 = fld h 5 2 := rfl
  refine zwW_p [(1, 0, 2), (1, 1, 0)] (q := 2) (ls' := [(2, 1), (0, a), (0, b), (0, c), (9, 0), (9, 0)]) (st' := [(0, a), (2, 1)]) (by decide +kernel) rfl ?_
  refine zwW_cm C.1 (op := 60) (k' := 109) (n := 1) (kd := 12) (m := 13) (nx := 5) (r := 1) (tl := [(0, a)]) (st' := []) (by decide +kernel) rfl (by decide +kernel) rfl (x109 h C a (by omega)) ?_
  rintro v2 _ ⟨rfl, ⟨rfl, c1⟩ | ⟨Gv2, c1⟩⟩
  · refine zwW_p [(2, 4, 2), (1, 0, 2), (1, 2, 0)] (q := 9) (ls' := [(2, 1), (0, a), (0, b), (0, c), (2, 0), (9, 0)]) (st' := [(0, b), (2, 1)]) (by decide +kernel) rfl ?_
    refine zwW_cm C.1 (op := 60) (k' := 115) (n := 1) (kd := 12) (m := 13) (nx := 12) (r := 1) (tl := [(0, b)]) (st' := []) (by decide +kernel) rfl (by decide +kernel) rfl (x115 h C b (by omega)) ?_
    rintro v4 _ ⟨rfl, ⟨rfl, c3⟩ | ⟨Gv4, c3⟩⟩
    · refine zwW_p [(2, 5, 2), (1, 4, 2)] (q := 16) (ls' := [(2, 1), (0, a), (0, b), (0, c), (2, 0), (2, 0)]) (st' := [(2, 0)]) (by decide +kernel) rfl ?_
      refine zwnu_eq (q := 37) (nx := 19) (by decide +kernel) (by decide) (fun c5 => ?_) (fun c5 => ?_)
      · refine zwW_p [(0, -2147483648, 0)] (q := 39) (ls' := [(2, 1), (0, a), (0, b), (0, c), (2, 0), (2, 0)]) (st' := [(0, -2147483648)]) (by decide +kernel) rfl ?_
        refine zwW_ret (nx := 40) (a := 0) (b := 0) (by decide +kernel) rfl (Or.inl rfl) ?_
        exact ⟨C, X.le (by decide) (by decide), by omega, by unfold yPayA; (repeat' (first | rw [if_pos (by omega)] | rw [if_neg (by omega)])); all_goals (first | rfl | omega), by refine Eq.trans (rfl : yC h = yC h) ?_; unfold yPay; (repeat' (first | rw [if_pos (by omega)] | rw [if_neg (by omega)])); all_goals (repeat' (first | rfl | apply zs_cg | omega)), by exact J⟩
      · exfalso; omega
    · have lv4 := Gv4.1
      have ev4 := c3.2.2
      have pv4 : v4 = zv h 4 b.toNat ∧ ((b.toNat : Nat) : Int) < fld h 4 2 := ⟨ev4, by omega⟩
      refine zwW_p [(2, 5, 2), (1, 4, 2)] (q := 16) (ls' := [(2, 1), (0, a), (0, b), (0, c), (2, 0), (2, v4)]) (st' := [(2, 0)]) (by decide +kernel) rfl ?_
      refine zwnu_eq (q := 37) (nx := 19) (by decide +kernel) (by decide) (fun c6 => ?_) (fun c6 => ?_)
      · refine zwW_p [(0, -2147483648, 0)] (q := 39) (ls' := [(2, 1), (0, a), (0, b), (0, c), (2, 0), (2, v4)]) (st' := [(0, -2147483648)]) (by decide +kernel) rfl ?_
        refine zwW_ret (nx := 40) (a := 0) (b := 0) (by decide +kernel) rfl (Or.inl rfl) ?_
        exact ⟨C, X.le (by decide) (by decide), by omega, by unfold yPayA; (repeat' (first | rw [if_pos (by omega)] | rw [if_neg (by omega)])); all_goals (first | rfl | omega), by refine Eq.trans (rfl : yC h = yC h) ?_; unfold yPay; (repeat' (first | rw [if_pos (by omega)] | rw [if_neg (by omega)])); all_goals (repeat' (first | rfl | apply zs_cg | omega)), by exact J⟩
      · exfalso; omega
  · have lv2 := Gv2.1
    have ev2 := c1.2.2
    have pv2 : v2 = zv h 3 a.toNat ∧ ((a.toNat : Nat) : Int) < fld h 3 2 := ⟨ev2, by omega⟩
    refine zwW_p [(2, 4, 2), (1, 0, 2), (1, 2, 0)] (q := 9) (ls' := [(2, 1), (0, a), (0, b), (0, c), (2, v2), (9, 0)]) (st' := [(0, b), (2, 1)]) (by decide +kernel) rfl ?_
    refine zwW_cm C.1 (op := 60) (k' := 115) (n := 1) (kd := 12) (m := 13) (nx := 12) (r := 1) (tl := [(0, b)]) (st' := []) (by decide +kernel) rfl (by decide +kernel) rfl (x115 h C b (by omega)) ?_
    rintro v8 _ ⟨rfl, ⟨rfl, c7⟩ | ⟨Gv8, c7⟩⟩
    · refine zwW_p [(2, 5, 2), (1, 4, 2)] (q := 16) (ls' := [(2, 1), (0, a), (0, b), (0, c), (2, v2), (2, 0)]) (st' := [(2, v2)]) (by decide +kernel) rfl ?_
      refine zwnu_eq (q := 37) (nx := 19) (by decide +kernel) (by omega) (fun c9 => ?_) (fun c9 => ?_)
      · exfalso; omega
      · refine zwW_p [(1, 5, 2)] (q := 21) (ls' := [(2, 1), (0, a), (0, b), (0, c), (2, v2), (2, 0)]) (st' := [(2, 0)]) (by decide +kernel) rfl ?_
        refine zwnu_eq (q := 37) (nx := 24) (by decide +kernel) (by decide) (fun c10 => ?_) (fun c10 => ?_)
        · refine zwW_p [(0, -2147483648, 0)] (q := 39) (ls' := [(2, 1), (0, a), (0, b), (0, c), (2, v2), (2, 0)]) (st' := [(0, -2147483648)]) (by decide +kernel) rfl ?_
          refine zwW_ret (nx := 40) (a := 0) (b := 0) (by decide +kernel) rfl (Or.inl rfl) ?_
          exact ⟨C, X.le (by decide) (by decide), by omega, by unfold yPayA; (repeat' (first | rw [if_pos (by omega)] | rw [if_neg (by omega)])); all_goals (first | rfl | omega), by refine Eq.trans (rfl : yC h = yC h) ?_; unfold yPay; (repeat' (first | rw [if_pos (by omega)] | rw [if_neg (by omega)])); all_goals (repeat' (first | rfl | apply zs_cg | omega)), by exact J⟩
        · exfalso; omega
    · have lv8 := Gv8.1
      have ev8 := c7.2.2
      have pv8 : v8 = zv h 4 b.toNat ∧ ((b.toNat : Nat) : Int) < fld h 4 2 := ⟨ev8, by omega⟩
      refine zwW_p [(2, 5, 2), (1, 4, 2)] (q := 16) (ls' := [(2, 1), (0, a), (0, b), (0, c), (2, v2), (2, v8)]) (st' := [(2, v2)]) (by decide +kernel) rfl ?_
      refine zwnu_eq (q := 37) (nx := 19) (by decide +kernel) (by omega) (fun c11 => ?_) (fun c11 => ?_)
      · exfalso; omega
      · refine zwW_p [(1, 5, 2)] (q := 21) (ls' := [(2, 1), (0, a), (0, b), (0, c), (2, v2), (2, v8)]) (st' := [(2, v8)]) (by decide +kernel) rfl ?_
        refine zwnu_eq (q := 37) (nx := 24) (by decide +kernel) (by omega) (fun c12 => ?_) (fun c12 => ?_)
        · exfalso; omega
        · refine zwW_p [(1, 3, 0), (0, 1, 0), (1, 5, 2)] (q := 28) (ls' := [(2, 1), (0, a), (0, b), (0, c), (2, v2), (2, v8)]) (st' := [(2, v8), (0, 1), (0, c)]) (by decide +kernel) rfl ?_
          refine zwX_gi C (kd := 6) (bn := 6) (n := 7) (nx := 31) (by decide +kernel) Gv8.2.1 Gv8.1 rfl ?_
          intro v13 ev13 lv13 uv13
          have sv13 : v13 = (yC h) 175 b.toNat := Eq.trans ev13 (Eq.trans (congrArg (fun q => fld h q 6) pv8.1) (Eq.trans (Eq.symm (yC_f (h := h) (a := 175) (A := 4) (j := 6) (i := b.toNat) rfl pv8.2)) (Eq.trans (congrFun (congrFun (rfl : yC h = yC h) 175) b.toNat) rfl)))
          refine zwW_cs (k' := 98) (n := 3) (nx := 34) (as := [(0, c), (0, 1), (0, v13)]) (st' := []) (by decide +kernel) rfl (x98 h C c 1 v13 (by omega) (by omega) (by omega)) rfl ?_
          rintro x _ ⟨rfl, ⟨rfl, c14⟩ | ⟨rfl, c14⟩⟩
          · refine zwif_eq (q := 40) (nx := 37) (by decide +kernel) (fun c15 => ?_) (fun c15 => ?_)
            · exfalso; omega
            · refine zwW_p [(0, -2147483648, 0)] (q := 39) (ls' := [(2, 1), (0, a), (0, b), (0, c), (2, v2), (2, v8)]) (st' := [(0, -2147483648)]) (by decide +kernel) rfl ?_
              refine zwW_ret (nx := 40) (a := 0) (b := 0) (by decide +kernel) rfl (Or.inl rfl) ?_
              exact ⟨C, X.le (by decide) (by decide), by omega, by unfold yPayA; (repeat' (first | rw [if_pos (by omega)] | rw [if_neg (by omega)])); all_goals (first | rfl | omega), by refine Eq.trans (rfl : yC h = yC h) ?_; unfold yPay; (repeat' (first | rw [if_pos (by omega)] | rw [if_neg (by omega)])); all_goals (repeat' (first | rfl | apply zs_cg | omega)), by exact J⟩
          · refine zwif_eq (q := 40) (nx := 37) (by decide +kernel) (fun c16 => ?_) (fun c16 => ?_)
            · refine zwW_p [(1, 5, 2), (12, 0, 0)] (q := 43) (ls' := [(2, 1), (0, a), (0, b), (0, c), (2, v2), (2, v8)]) (st' := [(2, v8), (2, v8)]) (by decide +kernel) rfl ?_
              refine zwX_gi C (kd := 6) (bn := 6) (n := 7) (nx := 46) (by decide +kernel) Gv8.2.1 Gv8.1 rfl ?_
              intro v17 ev17 lv17 uv17
              have sv17 : v17 = (yC h) 175 b.toNat := Eq.trans ev17 (Eq.trans (congrArg (fun q => fld h q 6) pv8.1) (Eq.trans (Eq.symm (yC_f (h := h) (a := 175) (A := 4) (j := 6) (i := b.toNat) rfl pv8.2)) (Eq.trans (congrFun (congrFun (rfl : yC h = yC h) 175) b.toNat) rfl)))
              refine zwW_p [(1, 3, 0)] (q := 47) (ls' := [(2, 1), (0, a), (0, b), (0, c), (2, v2), (2, v8)]) (st' := [(0, c), (0, v17), (2, v8)]) (by decide +kernel) rfl ?_
              refine zwW_sbw (nx := 48) (by decide +kernel) ?_
              intro v18 ev18 lv18 uv18
              have Ev18 : v18 = w32 (((yC h) 175 b.toNat) - c) := by rw [ev18, sv17]
              refine zwX_pi C (kd := 6) (bn := 6) (n := 7) (nx := 51) (by decide +kernel) Gv8.2.1 Gv8.1 (by first | omega | exact ⟨by omega, by omega⟩) ?_
              rintro h19 eh19 Ch19 Qh19
              have Zh19 : yC h19 = (zs (yC h) 175 b.toNat (w32 (((yC h) 175 b.toNat) - c))) := by rw [yC_w (a := 175) (A := 4) (j := 6) (k := b.toNat) C J rfl pv8 eh19, Ev18]
              have Xh19 : zXR msx35_z (0) (0) h h19 := X.tr (c2 := 0) (s2 := 0) Qh19 (by decide +kernel) (by decide) (by decide)
              have Gh19_0 : gH h19 v2 := Gv2.x Qh19
              have Gh19_1 : gL h19 v8 := Gv8.x Qh19
              have Jh19 : yR h19 := J.fr C Qh19 (by decide +kernel)
              have pv2_h19 : v2 = zv h19 3 a.toNat ∧ ((a.toNat : Nat) : Int) < fld h19 3 2 := zpv C Qh19 (A := 3) (by decide) (by decide +kernel) pv2
              have pv8_h19 : v8 = zv h19 4 b.toNat ∧ ((b.toNat : Nat) : Int) < fld h19 4 2 := zpv C Qh19 (A := 4) (by decide) (by decide +kernel) pv8
              refine zwW_p [(1, 4, 2), (12, 0, 0)] (q := 54) (ls' := [(2, 1), (0, a), (0, b), (0, c), (2, v2), (2, v8)]) (st' := [(2, v2), (2, v2)]) (by decide +kernel) rfl ?_
              refine zwX_gi Ch19 (kd := 4) (bn := 16) (n := 19) (nx := 57) (by decide +kernel) Gh19_0.2.1 Gh19_0.1 rfl ?_
              intro v20 ev20 lv20 uv20
              have sv20 : v20 = (yC h) 94 a.toNat := Eq.trans ev20 (Eq.trans (congrArg (fun q => fld h19 q 16) pv2_h19.1) (Eq.trans (Eq.symm (yC_f (h := h19) (a := 94) (A := 3) (j := 16) (i := a.toNat) rfl pv2_h19.2)) (Eq.trans (congrFun (congrFun Zh19 94) a.toNat) (Eq.trans (zs_na (by decide) : (zs (yC h) 175 b.toNat (w32 (((yC h) 175 b.toNat) - c))) 94 a.toNat = (yC h) 94 a.toNat) rfl))))
              refine zwW_p [(1, 3, 0)] (q := 58) (ls' := [(2, 1), (0, a), (0, b), (0, c), (2, v2), (2, v8)]) (st' := [(0, c), (0, v20), (2, v2)]) (by decide +kernel) rfl ?_
              refine zwW_adw (nx := 59) (by decide +kernel) ?_
              intro v21 ev21 lv21 uv21
              have Ev21 : v21 = w32 (((yC h) 94 a.toNat) + c) := by rw [ev21, sv20]
              refine zwX_pi Ch19 (kd := 4) (bn := 16) (n := 19) (nx := 62) (by decide +kernel) Gh19_0.2.1 Gh19_0.1 (by first | omega | exact ⟨by omega, by omega⟩) ?_
              rintro h22 eh22 Ch22 Qh22
              have Zh22 : yC h22 = (zs (zs (yC h) 175 b.toNat (w32 (((yC h) 175 b.toNat) - c))) 94 a.toNat (w32 (((yC h) 94 a.toNat) + c))) := by rw [yC_w (a := 94) (A := 3) (j := 16) (k := a.toNat) Ch19 Jh19 rfl pv2_h19 eh22, Zh19, Ev21]
              have Xh22 : zXR msx35_z (0) (0) h h22 := Xh19.tr (c2 := 0) (s2 := 0) Qh22 (by decide +kernel) (by decide) (by decide)
              have Gh22_0 : gH h22 v2 := Gh19_0.x Qh22
              have Gh22_1 : gL h22 v8 := Gh19_1.x Qh22
              have Jh22 : yR h22 := Jh19.fr Ch19 Qh22 (by decide +kernel)
              have pv2_h22 : v2 = zv h22 3 a.toNat ∧ ((a.toNat : Nat) : Int) < fld h22 3 2 := zpv Ch19 Qh22 (A := 3) (by decide) (by decide +kernel) pv2_h19
              have pv8_h22 : v8 = zv h22 4 b.toNat ∧ ((b.toNat : Nat) : Int) < fld h22 4 2 := zpv Ch19 Qh22 (A := 4) (by decide) (by decide +kernel) pv8_h19
              refine zwW_p [(1, 5, 2)] (q := 64) (ls' := [(2, 1), (0, a), (0, b), (0, c), (2, v2), (2, v8)]) (st' := [(2, v8)]) (by decide +kernel) rfl ?_
              refine zwW_get (kd := 6) (bn := 1) (t := 2) (n := 7) (nx := 67) (by decide +kernel) Gh22_1.2.1 rfl ?_
              obtain ⟨v23, ev23⟩ : ∃ z, z = fld h22 v8 1 := ⟨_, rfl⟩
              rw [← ev23]
              have Gv23 : gH h22 v23 := by rw [ev23]; exact Gh22_1.2.2
              have lv23 := Gv23.1
              have qv23 : yC h22 170 b.toNat = (yC h) 170 b.toNat := Eq.trans (congrFun (congrFun Zh22 170) b.toNat) (Eq.trans (zs_na (by decide) : (zs (zs (yC h) 175 b.toNat (w32 (((yC h) 175 b.toNat) - c))) 94 a.toNat (w32 (((yC h) 94 a.toNat) + c))) 170 b.toNat = (zs (yC h) 175 b.toNat (w32 (((yC h) 175 b.toNat) - c))) 170 b.toNat) (Eq.trans (zs_na (by decide) : (zs (yC h) 175 b.toNat (w32 (((yC h) 175 b.toNat) - c))) 170 b.toNat = (yC h) 170 b.toNat) rfl))
              have wv23 := Jh22.r (a := 170) (A := 4) (j := 1) (B := 3) (i := b.toNat) rfl pv8_h22.2
              rw [qv23] at wv23
              have pv23 : v23 = zv h22 3 (((yC h) 170 b.toNat).toNat) ∧ ((((yC h) 170 b.toNat).toNat : Nat) : Int) < fld h22 3 2 := ⟨by rw [ev23, pv8_h22.1]; exact wv23.2.2, wv23.2.1⟩
              refine zwW_p [(1, 4, 2)] (q := 69) (ls' := [(2, 1), (0, a), (0, b), (0, c), (2, v2), (2, v8)]) (st' := [(2, v2), (2, v23)]) (by decide +kernel) rfl ?_
              have K69 : v23 = v2 ↔ yC h 170 b.toNat = a := ⟨fun z => by have w := wv23.1; have q := Jh22.inj (A := 3) (by decide) pv23.2 pv2_h22.2 (pv23.1.symm.trans (z.trans pv2_h22.1)); omega, fun z => by rw [pv23.1, pv2_h22.1, z]⟩
              refine zwac_eq (q := 83) (nx := 72) (by decide +kernel) ⟨by omega, by omega, by omega, by omega⟩ (fun c24 => ?_) (fun c24 => ?_)
              · refine zwW_p [(1, 0, 2)] (q := 84) (ls' := [(2, 1), (0, a), (0, b), (0, c), (2, v2), (2, v8)]) (st' := [(2, 1)]) (by decide +kernel) rfl ?_
                refine zwW_gc Ch22.1 (kd := 12) (bn := 11) (n := 13) (c := 34) (nx := 87) (by decide +kernel) ?_
                refine zwW_p [(12, 0, 0)] (q := 88) (ls' := [(2, 1), (0, a), (0, b), (0, c), (2, v2), (2, v8)]) (st' := [(2, 34), (2, 34)]) (by decide +kernel) rfl ?_
                refine zwW_gs Ch22.1 (kd := 5) (bn := 0) (n := 4) (t := 0) (lo := -2147483648) (hi := 2147483647) (nx := 91) (by decide +kernel) ?_
                intro v25 ev25 lv25 uv25
                have sv25 : v25 = (yC h) 37 69 := Eq.trans ev25 (Eq.trans (Eq.symm (yC_s (h := h22) (i := 69) rfl)) (Eq.trans (congrFun (congrFun Zh22 37) 69) (Eq.trans (zs_na (by decide) : (zs (zs (yC h) 175 b.toNat (w32 (((yC h) 175 b.toNat) - c))) 94 a.toNat (w32 (((yC h) 94 a.toNat) + c))) 37 69 = (zs (yC h) 175 b.toNat (w32 (((yC h) 175 b.toNat) - c))) 37 69) (Eq.trans (zs_na (by decide) : (zs (yC h) 175 b.toNat (w32 (((yC h) 175 b.toNat) - c))) 37 69 = (yC h) 37 69) rfl))))
                refine zwW_p [(1, 3, 0)] (q := 92) (ls' := [(2, 1), (0, a), (0, b), (0, c), (2, v2), (2, v8)]) (st' := [(0, c), (0, v25), (2, 34)]) (by decide +kernel) rfl ?_
                refine zwW_adw (nx := 93) (by decide +kernel) ?_
                intro v26 ev26 lv26 uv26
                have Ev26 : v26 = w32 (((yC h) 37 69) + c) := by rw [ev26, sv25]
                refine zwW_ps Ch22.1 (kd := 5) (bn := 0) (n := 4) (lo := -2147483648) (hi := 2147483647) (nx := 96) (by decide +kernel) (by first | omega | exact ⟨by omega, by omega⟩) ?_
                intro h27 eh27 Ih27
                have Ch27 : CI h27 := Ch22.wc eh27 Ih27 (by decide) (by decide)
                have Qh27 : zXR [(34, 34, 0, 1)] 0 0 h22 h27 := zXR.wc eh27 rfl ⟨by decide, by decide, Or.inl (by decide)⟩ (by first | decide | exact ⟨by decide, by decide⟩)
                have Zh27 : yC h27 = (zs (zs (zs (yC h) 175 b.toNat (w32 (((yC h) 175 b.toNat) - c))) 94 a.toNat (w32 (((yC h) 94 a.toNat) + c))) 37 69 (w32 (((yC h) 37 69) + c))) := by rw [yC_ws (q := 69) (r := 34) (j := 0) (kd := 5) (n := 4) rfl (Ch22.1.s (a1 := 34) (a2 := 34) (by decide +kernel) (by decide) (by decide)) (by decide) Ch22 eh27, Zh22, Ev26]
                have Xh27 : zXR msx35_z (0) (0) h h27 := Xh22.tr (c2 := 0) (s2 := 0) Qh27 (by decide +kernel) (by decide) (by decide)
                have Gh27_0 : gH h27 v2 := Gh22_0.x Qh27
                have Gh27_1 : gL h27 v8 := Gh22_1.x Qh27
                have Jh27 : yR h27 := Jh22.fr Ch22 Qh27 (by decide +kernel)
                have pv2_h27 : v2 = zv h27 3 a.toNat ∧ ((a.toNat : Nat) : Int) < fld h27 3 2 := zpv Ch22 Qh27 (A := 3) (by decide) (by decide +kernel) pv2_h22
                have pv8_h27 : v8 = zv h27 4 b.toNat ∧ ((b.toNat : Nat) : Int) < fld h27 4 2 := zpv Ch22 Qh27 (A := 4) (by decide) (by decide +kernel) pv8_h22
                refine zwW_p [(1, 4, 2)] (q := 98) (ls' := [(2, 1), (0, a), (0, b), (0, c), (2, v2), (2, v8)]) (st' := [(2, v2)]) (by decide +kernel) rfl ?_
                refine zwX_gi Ch27 (kd := 4) (bn := 15) (n := 19) (nx := 101) (by decide +kernel) Gh27_0.2.1 Gh27_0.1 rfl ?_
                intro v28 ev28 lv28 uv28
                have sv28 : v28 = (yC h) 93 a.toNat := Eq.trans ev28 (Eq.trans (congrArg (fun q => fld h27 q 15) pv2_h27.1) (Eq.trans (Eq.symm (yC_f (h := h27) (a := 93) (A := 3) (j := 15) (i := a.toNat) rfl pv2_h27.2)) (Eq.trans (congrFun (congrFun Zh27 93) a.toNat) (Eq.trans (zs_na (by decide) : (zs (zs (zs (yC h) 175 b.toNat (w32 (((yC h) 175 b.toNat) - c))) 94 a.toNat (w32 (((yC h) 94 a.toNat) + c))) 37 69 (w32 (((yC h) 37 69) + c))) 93 a.toNat = (zs (zs (yC h) 175 b.toNat (w32 (((yC h) 175 b.toNat) - c))) 94 a.toNat (w32 (((yC h) 94 a.toNat) + c))) 93 a.toNat) (Eq.trans (zs_na (by decide) : (zs (zs (yC h) 175 b.toNat (w32 (((yC h) 175 b.toNat) - c))) 94 a.toNat (w32 (((yC h) 94 a.toNat) + c))) 93 a.toNat = (zs (yC h) 175 b.toNat (w32 (((yC h) 175 b.toNat) - c))) 93 a.toNat) (Eq.trans (zs_na (by decide) : (zs (yC h) 175 b.toNat (w32 (((yC h) 175 b.toNat) - c))) 93 a.toNat = (yC h) 93 a.toNat) rfl))))))
                refine zwW_p [(1, 4, 2)] (q := 103) (ls' := [(2, 1), (0, a), (0, b), (0, c), (2, v2), (2, v8)]) (st' := [(2, v2), (0, v28)]) (by decide +kernel) rfl ?_
                refine zwX_gi Ch27 (kd := 4) (bn := 16) (n := 19) (nx := 106) (by decide +kernel) Gh27_0.2.1 Gh27_0.1 rfl ?_
                intro v29 ev29 lv29 uv29
                have sv29 : v29 = (w32 (((yC h) 94 a.toNat) + c)) := Eq.trans ev29 (Eq.trans (congrArg (fun q => fld h27 q 16) pv2_h27.1) (Eq.trans (Eq.symm (yC_f (h := h27) (a := 94) (A := 3) (j := 16) (i := a.toNat) rfl pv2_h27.2)) (Eq.trans (congrFun (congrFun Zh27 94) a.toNat) (Eq.trans (zs_na (by decide) : (zs (zs (zs (yC h) 175 b.toNat (w32 (((yC h) 175 b.toNat) - c))) 94 a.toNat (w32 (((yC h) 94 a.toNat) + c))) 37 69 (w32 (((yC h) 37 69) + c))) 94 a.toNat = (zs (zs (yC h) 175 b.toNat (w32 (((yC h) 175 b.toNat) - c))) 94 a.toNat (w32 (((yC h) 94 a.toNat) + c))) 94 a.toNat) (zs_eq : (zs (zs (yC h) 175 b.toNat (w32 (((yC h) 175 b.toNat) - c))) 94 a.toNat (w32 (((yC h) 94 a.toNat) + c))) 94 a.toNat = (w32 (((yC h) 94 a.toNat) + c)))))))
                refine zwW_sbw (nx := 107) (by decide +kernel) ?_
                intro v30 ev30 lv30 uv30
                have Ev30 : v30 = w32 (((yC h) 93 a.toNat) - (w32 (((yC h) 94 a.toNat) + c))) := by rw [ev30, sv28, sv29]
                refine zwW_ret (nx := 108) (a := 0) (b := 0) (by decide +kernel) rfl (Or.inl rfl) ?_
                exact ⟨Ch27, Xh27.le (by decide) (by decide), by omega, by unfold yPayA; (repeat' (first | rw [if_pos (by omega)] | rw [if_neg (by omega)])); all_goals (first | rfl | omega), by refine Eq.trans Zh27 ?_; unfold yPay; (repeat' (first | rw [if_pos (by omega)] | rw [if_neg (by omega)])); all_goals (repeat' (first | rfl | apply zs_cg | omega)), by exact Jh27⟩
              · refine zwW_p [(1, 4, 2), (12, 0, 0)] (q := 75) (ls' := [(2, 1), (0, a), (0, b), (0, c), (2, v2), (2, v8)]) (st' := [(2, v2), (2, v2)]) (by decide +kernel) rfl ?_
                refine zwX_gi Ch22 (kd := 4) (bn := 17) (n := 19) (nx := 78) (by decide +kernel) Gh22_0.2.1 Gh22_0.1 rfl ?_
                intro v31 ev31 lv31 uv31
                have sv31 : v31 = (yC h) 96 a.toNat := Eq.trans ev31 (Eq.trans (congrArg (fun q => fld h22 q 17) pv2_h22.1) (Eq.trans (Eq.symm (yC_f (h := h22) (a := 96) (A := 3) (j := 17) (i := a.toNat) rfl pv2_h22.2)) (Eq.trans (congrFun (congrFun Zh22 96) a.toNat) (Eq.trans (zs_na (by decide) : (zs (zs (yC h) 175 b.toNat (w32 (((yC h) 175 b.toNat) - c))) 94 a.toNat (w32 (((yC h) 94 a.toNat) + c))) 96 a.toNat = (zs (yC h) 175 b.toNat (w32 (((yC h) 175 b.toNat) - c))) 96 a.toNat) (Eq.trans (zs_na (by decide) : (zs (yC h) 175 b.toNat (w32 (((yC h) 175 b.toNat) - c))) 96 a.toNat = (yC h) 96 a.toNat) rfl)))))
                refine zwW_p [(1, 3, 0)] (q := 79) (ls' := [(2, 1), (0, a), (0, b), (0, c), (2, v2), (2, v8)]) (st' := [(0, c), (0, v31), (2, v2)]) (by decide +kernel) rfl ?_
                refine zwW_adw (nx := 80) (by decide +kernel) ?_
                intro v32 ev32 lv32 uv32
                have Ev32 : v32 = w32 (((yC h) 96 a.toNat) + c) := by rw [ev32, sv31]
                refine zwX_pi Ch22 (kd := 4) (bn := 17) (n := 19) (nx := 83) (by decide +kernel) Gh22_0.2.1 Gh22_0.1 (by first | omega | exact ⟨by omega, by omega⟩) ?_
                rintro h33 eh33 Ch33 Qh33
                have Zh33 : yC h33 = (zs (zs (zs (yC h) 175 b.toNat (w32 (((yC h) 175 b.toNat) - c))) 94 a.toNat (w32 (((yC h) 94 a.toNat) + c))) 96 a.toNat (w32 (((yC h) 96 a.toNat) + c))) := by rw [yC_w (a := 96) (A := 3) (j := 17) (k := a.toNat) Ch22 Jh22 rfl pv2_h22 eh33, Zh22, Ev32]
                have Xh33 : zXR msx35_z (0) (0) h h33 := Xh22.tr (c2 := 0) (s2 := 0) Qh33 (by decide +kernel) (by decide) (by decide)
                have Gh33_0 : gH h33 v2 := Gh22_0.x Qh33
                have Gh33_1 : gL h33 v8 := Gh22_1.x Qh33
                have Jh33 : yR h33 := Jh22.fr Ch22 Qh33 (by decide +kernel)
                have pv2_h33 : v2 = zv h33 3 a.toNat ∧ ((a.toNat : Nat) : Int) < fld h33 3 2 := zpv Ch22 Qh33 (A := 3) (by decide) (by decide +kernel) pv2_h22
                have pv8_h33 : v8 = zv h33 4 b.toNat ∧ ((b.toNat : Nat) : Int) < fld h33 4 2 := zpv Ch22 Qh33 (A := 4) (by decide) (by decide +kernel) pv8_h22
                refine zwW_p [(1, 0, 2)] (q := 84) (ls' := [(2, 1), (0, a), (0, b), (0, c), (2, v2), (2, v8)]) (st' := [(2, 1)]) (by decide +kernel) rfl ?_
                refine zwW_gc Ch33.1 (kd := 12) (bn := 11) (n := 13) (c := 34) (nx := 87) (by decide +kernel) ?_
                refine zwW_p [(12, 0, 0)] (q := 88) (ls' := [(2, 1), (0, a), (0, b), (0, c), (2, v2), (2, v8)]) (st' := [(2, 34), (2, 34)]) (by decide +kernel) rfl ?_
                refine zwW_gs Ch33.1 (kd := 5) (bn := 0) (n := 4) (t := 0) (lo := -2147483648) (hi := 2147483647) (nx := 91) (by decide +kernel) ?_
                intro v34 ev34 lv34 uv34
                have sv34 : v34 = (yC h) 37 69 := Eq.trans ev34 (Eq.trans (Eq.symm (yC_s (h := h33) (i := 69) rfl)) (Eq.trans (congrFun (congrFun Zh33 37) 69) (Eq.trans (zs_na (by decide) : (zs (zs (zs (yC h) 175 b.toNat (w32 (((yC h) 175 b.toNat) - c))) 94 a.toNat (w32 (((yC h) 94 a.toNat) + c))) 96 a.toNat (w32 (((yC h) 96 a.toNat) + c))) 37 69 = (zs (zs (yC h) 175 b.toNat (w32 (((yC h) 175 b.toNat) - c))) 94 a.toNat (w32 (((yC h) 94 a.toNat) + c))) 37 69) (Eq.trans (zs_na (by decide) : (zs (zs (yC h) 175 b.toNat (w32 (((yC h) 175 b.toNat) - c))) 94 a.toNat (w32 (((yC h) 94 a.toNat) + c))) 37 69 = (zs (yC h) 175 b.toNat (w32 (((yC h) 175 b.toNat) - c))) 37 69) (Eq.trans (zs_na (by decide) : (zs (yC h) 175 b.toNat (w32 (((yC h) 175 b.toNat) - c))) 37 69 = (yC h) 37 69) rfl)))))
                refine zwW_p [(1, 3, 0)] (q := 92) (ls' := [(2, 1), (0, a), (0, b), (0, c), (2, v2), (2, v8)]) (st' := [(0, c), (0, v34), (2, 34)]) (by decide +kernel) rfl ?_
                refine zwW_adw (nx := 93) (by decide +kernel) ?_
                intro v35 ev35 lv35 uv35
                have Ev35 : v35 = w32 (((yC h) 37 69) + c) := by rw [ev35, sv34]
                refine zwW_ps Ch33.1 (kd := 5) (bn := 0) (n := 4) (lo := -2147483648) (hi := 2147483647) (nx := 96) (by decide +kernel) (by first | omega | exact ⟨by omega, by omega⟩) ?_
                intro h36 eh36 Ih36
                have Ch36 : CI h36 := Ch33.wc eh36 Ih36 (by decide) (by decide)
                have Qh36 : zXR [(34, 34, 0, 1)] 0 0 h33 h36 := zXR.wc eh36 rfl ⟨by decide, by decide, Or.inl (by decide)⟩ (by first | decide | exact ⟨by decide, by decide⟩)
                have Zh36 : yC h36 = (zs (zs (zs (zs (yC h) 175 b.toNat (w32 (((yC h) 175 b.toNat) - c))) 94 a.toNat (w32 (((yC h) 94 a.toNat) + c))) 96 a.toNat (w32 (((yC h) 96 a.toNat) + c))) 37 69 (w32 (((yC h) 37 69) + c))) := by rw [yC_ws (q := 69) (r := 34) (j := 0) (kd := 5) (n := 4) rfl (Ch33.1.s (a1 := 34) (a2 := 34) (by decide +kernel) (by decide) (by decide)) (by decide) Ch33 eh36, Zh33, Ev35]
                have Xh36 : zXR msx35_z (0) (0) h h36 := Xh33.tr (c2 := 0) (s2 := 0) Qh36 (by decide +kernel) (by decide) (by decide)
                have Gh36_0 : gH h36 v2 := Gh33_0.x Qh36
                have Gh36_1 : gL h36 v8 := Gh33_1.x Qh36
                have Jh36 : yR h36 := Jh33.fr Ch33 Qh36 (by decide +kernel)
                have pv2_h36 : v2 = zv h36 3 a.toNat ∧ ((a.toNat : Nat) : Int) < fld h36 3 2 := zpv Ch33 Qh36 (A := 3) (by decide) (by decide +kernel) pv2_h33
                have pv8_h36 : v8 = zv h36 4 b.toNat ∧ ((b.toNat : Nat) : Int) < fld h36 4 2 := zpv Ch33 Qh36 (A := 4) (by decide) (by decide +kernel) pv8_h33
                refine zwW_p [(1, 4, 2)] (q := 98) (ls' := [(2, 1), (0, a), (0, b), (0, c), (2, v2), (2, v8)]) (st' := [(2, v2)]) (by decide +kernel) rfl ?_
                refine zwX_gi Ch36 (kd := 4) (bn := 15) (n := 19) (nx := 101) (by decide +kernel) Gh36_0.2.1 Gh36_0.1 rfl ?_
                intro v37 ev37 lv37 uv37
                have sv37 : v37 = (yC h) 93 a.toNat := Eq.trans ev37 (Eq.trans (congrArg (fun q => fld h36 q 15) pv2_h36.1) (Eq.trans (Eq.symm (yC_f (h := h36) (a := 93) (A := 3) (j := 15) (i := a.toNat) rfl pv2_h36.2)) (Eq.trans (congrFun (congrFun Zh36 93) a.toNat) (Eq.trans (zs_na (by decide) : (zs (zs (zs (zs (yC h) 175 b.toNat (w32 (((yC h) 175 b.toNat) - c))) 94 a.toNat (w32 (((yC h) 94 a.toNat) + c))) 96 a.toNat (w32 (((yC h) 96 a.toNat) + c))) 37 69 (w32 (((yC h) 37 69) + c))) 93 a.toNat = (zs (zs (zs (yC h) 175 b.toNat (w32 (((yC h) 175 b.toNat) - c))) 94 a.toNat (w32 (((yC h) 94 a.toNat) + c))) 96 a.toNat (w32 (((yC h) 96 a.toNat) + c))) 93 a.toNat) (Eq.trans (zs_na (by decide) : (zs (zs (zs (yC h) 175 b.toNat (w32 (((yC h) 175 b.toNat) - c))) 94 a.toNat (w32 (((yC h) 94 a.toNat) + c))) 96 a.toNat (w32 (((yC h) 96 a.toNat) + c))) 93 a.toNat = (zs (zs (yC h) 175 b.toNat (w32 (((yC h) 175 b.toNat) - c))) 94 a.toNat (w32 (((yC h) 94 a.toNat) + c))) 93 a.toNat) (Eq.trans (zs_na (by decide) : (zs (zs (yC h) 175 b.toNat (w32 (((yC h) 175 b.toNat) - c))) 94 a.toNat (w32 (((yC h) 94 a.toNat) + c))) 93 a.toNat = (zs (yC h) 175 b.toNat (w32 (((yC h) 175 b.toNat) - c))) 93 a.toNat) (Eq.trans (zs_na (by decide) : (zs (yC h) 175 b.toNat (w32 (((yC h) 175 b.toNat) - c))) 93 a.toNat = (yC h) 93 a.toNat) rfl)))))))
                refine zwW_p [(1, 4, 2)] (q := 103) (ls' := [(2, 1), (0, a), (0, b), (0, c), (2, v2), (2, v8)]) (st' := [(2, v2), (0, v37)]) (by decide +kernel) rfl ?_
                refine zwX_gi Ch36 (kd := 4) (bn := 16) (n := 19) (nx := 106) (by decide +kernel) Gh36_0.2.1 Gh36_0.1 rfl ?_
                intro v38 ev38 lv38 uv38
                have sv38 : v38 = (w32 (((yC h) 94 a.toNat) + c)) := Eq.trans ev38 (Eq.trans (congrArg (fun q => fld h36 q 16) pv2_h36.1) (Eq.trans (Eq.symm (yC_f (h := h36) (a := 94) (A := 3) (j := 16) (i := a.toNat) rfl pv2_h36.2)) (Eq.trans (congrFun (congrFun Zh36 94) a.toNat) (Eq.trans (zs_na (by decide) : (zs (zs (zs (zs (yC h) 175 b.toNat (w32 (((yC h) 175 b.toNat) - c))) 94 a.toNat (w32 (((yC h) 94 a.toNat) + c))) 96 a.toNat (w32 (((yC h) 96 a.toNat) + c))) 37 69 (w32 (((yC h) 37 69) + c))) 94 a.toNat = (zs (zs (zs (yC h) 175 b.toNat (w32 (((yC h) 175 b.toNat) - c))) 94 a.toNat (w32 (((yC h) 94 a.toNat) + c))) 96 a.toNat (w32 (((yC h) 96 a.toNat) + c))) 94 a.toNat) (Eq.trans (zs_na (by decide) : (zs (zs (zs (yC h) 175 b.toNat (w32 (((yC h) 175 b.toNat) - c))) 94 a.toNat (w32 (((yC h) 94 a.toNat) + c))) 96 a.toNat (w32 (((yC h) 96 a.toNat) + c))) 94 a.toNat = (zs (zs (yC h) 175 b.toNat (w32 (((yC h) 175 b.toNat) - c))) 94 a.toNat (w32 (((yC h) 94 a.toNat) + c))) 94 a.toNat) (zs_eq : (zs (zs (yC h) 175 b.toNat (w32 (((yC h) 175 b.toNat) - c))) 94 a.toNat (w32 (((yC h) 94 a.toNat) + c))) 94 a.toNat = (w32 (((yC h) 94 a.toNat) + c))))))))
                refine zwW_sbw (nx := 107) (by decide +kernel) ?_
                intro v39 ev39 lv39 uv39
                have Ev39 : v39 = w32 (((yC h) 93 a.toNat) - (w32 (((yC h) 94 a.toNat) + c))) := by rw [ev39, sv37, sv38]
                refine zwW_ret (nx := 108) (a := 0) (b := 0) (by decide +kernel) rfl (Or.inl rfl) ?_
                exact ⟨Ch36, Xh36.le (by decide) (by decide), by omega, by unfold yPayA; (repeat' (first | rw [if_pos (by omega)] | rw [if_neg (by omega)])); all_goals (first | rfl | omega), by refine Eq.trans Zh36 ?_; unfold yPay; (repeat' (first | rw [if_pos (by omega)] | rw [if_neg (by omega)])); all_goals (repeat' (first | rfl | apply zs_cg | omega)), by exact Jh36⟩
            · exfalso; omega
-- WheelLand.has(II)I
theorem x85_z {sc : List Int} (h : Hp) (C : CI h) (a b : Int) (q_a : -2147483648 ≤ a ∧ a ≤ 2147483647) (q_b : -2147483648 ≤ b ∧ b ≤ 2147483647) (J : yR h) : zwC sc 6 85 [(2, 1), (0, a), (0, b)] h (zwRt 0 (fun x g => h = g ∧ (-2147483648 ≤ x ∧ x ≤ 2147483647) ∧ (x = yHasA (yC h) a b))) := by
  refine zwC_of (D := 5) 4 (by decide +kernel) rfl (ls := [(2, 1), (0, a), (0, b), (9, 0)]) rfl ?_
  have u0 : yC h 37 0 = fld h 1 0 := rfl
  have u1 : yC h 37 1 = fld h 2 2 := rfl
  have u2 : yC h 37 2 = fld h 3 2 := rfl
  have u64 : yC h 37 64 = fld h 4 2 := rfl
  have u78 : yC h 37 78 = fld h 5 2 := rfl
  refine zwW_p [(1, 0, 2), (1, 1, 0)] (q := 2) (ls' := [(2, 1), (0, a), (0, b), (9, 0)]) (st' := [(0, a), (2, 1)]) (by decide +kernel) rfl ?_
  refine zwW_cm C.1 (op := 60) (k' := 109) (n := 1) (kd := 12) (m := 13) (nx := 5) (r := 1) (tl := [(0, a)]) (st' := []) (by decide +kernel) rfl (by decide +kernel) rfl (x109 h C a (by omega)) ?_
  rintro v2 _ ⟨rfl, ⟨rfl, c1⟩ | ⟨Gv2, c1⟩⟩
  · refine zwW_p [(2, 3, 2), (1, 3, 2)] (q := 7) (ls' := [(2, 1), (0, a), (0, b), (2, 0)]) (st' := [(2, 0)]) (by decide +kernel) rfl ?_
    refine zwnu_ne (q := 13) (nx := 10) (by decide +kernel) (by decide) (fun c3 => ?_) (fun c3 => ?_)
    · exfalso; omega
    · refine zwW_p [(0, -2147483648, 0)] (q := 12) (ls' := [(2, 1), (0, a), (0, b), (2, 0)]) (st' := [(0, -2147483648)]) (by decide +kernel) rfl ?_
      refine zwW_ret (nx := 13) (a := 0) (b := 0) (by decide +kernel) rfl (Or.inl rfl) ?_
      exact ⟨rfl, by omega, by unfold yHasA; (repeat' (first | rw [if_pos (by omega)] | rw [if_neg (by omega)])); all_goals (first | rfl | omega)⟩
  · have lv2 := Gv2.1
    have ev2 := c1.2.2
    have pv2 : v2 = zv h 3 a.toNat ∧ ((a.toNat : Nat) : Int) < fld h 3 2 := ⟨ev2, by omega⟩
    refine zwW_p [(2, 3, 2), (1, 3, 2)] (q := 7) (ls' := [(2, 1), (0, a), (0, b), (2, v2)]) (st' := [(2, v2)]) (by decide +kernel) rfl ?_
    refine zwnu_ne (q := 13) (nx := 10) (by decide +kernel) (by omega) (fun c4 => ?_) (fun c4 => ?_)
    · refine zwW_p [(1, 2, 0)] (q := 14) (ls' := [(2, 1), (0, a), (0, b), (2, v2)]) (st' := [(0, b)]) (by decide +kernel) rfl ?_
      refine zwW_sw (d := 141) (os := [0, 72, 1, 80, 2, 85, 3, 90, 4, 95, 5, 100, 6, 105, 7, 110, 8, 115, 9, 120, 10, 125]) (by decide +kernel) ?_
      refine ⟨fun c5 => ?_, fun c5 => ?_⟩
      · show zwW _ _ _ 72 _ _ _ _
        refine zwW_p [(1, 3, 2)] (q := 73) (ls' := [(2, 1), (0, a), (0, b), (2, v2)]) (st' := [(2, v2)]) (by decide +kernel) rfl ?_
        refine zwW_get (kd := 4) (bn := 1) (t := 2) (n := 19) (nx := 76) (by decide +kernel) Gv2.2.1 rfl ?_
        obtain ⟨v6, ev6⟩ : ∃ z, z = fld h v2 1 := ⟨_, rfl⟩
        rw [← ev6]
        have Gv6 : gV h v6 := by rw [ev6]; exact Gv2.2.2
        have lv6 := Gv6.1
        have qv6 : yC h 79 a.toNat = (yC h) 79 a.toNat := Eq.trans (congrFun (congrFun (rfl : yC h = yC h) 79) a.toNat) rfl
        have wv6 := J.r (a := 79) (A := 3) (j := 1) (B := 2) (i := a.toNat) rfl pv2.2
        rw [qv6] at wv6
        have pv6 : v6 = zv h 2 (((yC h) 79 a.toNat).toNat) ∧ ((((yC h) 79 a.toNat).toNat : Nat) : Int) < fld h 2 2 := ⟨by rw [ev6, pv2.1]; exact wv6.2.2, wv6.2.1⟩
        refine zwX_gi C (kd := 11) (bn := 0) (n := 17) (nx := 79) (by decide +kernel) Gv6.2.1 Gv6.1 rfl ?_
        intro v7 ev7 lv7 uv7
        have sv7 : v7 = ((((yC h) 79 a.toNat).toNat : Nat) : Int) := Eq.trans ev7 (Eq.trans (congrArg (fun q => fld h q 0) pv6.1) (J.1 2 (by decide) _ pv6.2))
        refine zwW_ret (nx := 80) (a := 0) (b := 0) (by decide +kernel) rfl (Or.inl rfl) ?_
        exact ⟨rfl, by omega, by unfold yHasA; (repeat' (first | rw [if_pos (by omega)] | rw [if_neg (by omega)])); all_goals (first | rfl | omega)⟩
      refine ⟨fun c8 => ?_, fun c8 => ?_⟩
      · show zwW _ _ _ 80 _ _ _ _
        refine zwW_p [(1, 3, 2)] (q := 81) (ls' := [(2, 1), (0, a), (0, b), (2, v2)]) (st' := [(2, v2)]) (by decide +kernel) rfl ?_
        refine zwX_gi C (kd := 4) (bn := 2) (n := 19) (nx := 84) (by decide +kernel) Gv2.2.1 Gv2.1 rfl ?_
        intro v9 ev9 lv9 uv9
        have sv9 : v9 = (yC h) 80 a.toNat := Eq.trans ev9 (Eq.trans (congrArg (fun q => fld h q 2) pv2.1) (Eq.trans (Eq.symm (yC_f (h := h) (a := 80) (A := 3) (j := 2) (i := a.toNat) rfl pv2.2)) (Eq.trans (congrFun (congrFun (rfl : yC h = yC h) 80) a.toNat) rfl)))
        refine zwW_ret (nx := 85) (a := 0) (b := 0) (by decide +kernel) rfl (Or.inl rfl) ?_
        exact ⟨rfl, by omega, by unfold yHasA; (repeat' (first | rw [if_pos (by omega)] | rw [if_neg (by omega)])); all_goals (first | rfl | omega)⟩
      refine ⟨fun c10 => ?_, fun c10 => ?_⟩
      · show zwW _ _ _ 85 _ _ _ _
        refine zwW_p [(1, 3, 2)] (q := 86) (ls' := [(2, 1), (0, a), (0, b), (2, v2)]) (st' := [(2, v2)]) (by decide +kernel) rfl ?_
        refine zwX_gi C (kd := 4) (bn := 3) (n := 19) (nx := 89) (by decide +kernel) Gv2.2.1 Gv2.1 rfl ?_
        intro v11 ev11 lv11 uv11
        have sv11 : v11 = (yC h) 81 a.toNat := Eq.trans ev11 (Eq.trans (congrArg (fun q => fld h q 3) pv2.1) (Eq.trans (Eq.symm (yC_f (h := h) (a := 81) (A := 3) (j := 3) (i := a.toNat) rfl pv2.2)) (Eq.trans (congrFun (congrFun (rfl : yC h = yC h) 81) a.toNat) rfl)))
        refine zwW_ret (nx := 90) (a := 0) (b := 0) (by decide +kernel) rfl (Or.inl rfl) ?_
        exact ⟨rfl, by omega, by unfold yHasA; (repeat' (first | rw [if_pos (by omega)] | rw [if_neg (by omega)])); all_goals (first | rfl | omega)⟩
      refine ⟨fun c12 => ?_, fun c12 => ?_⟩
      · show zwW _ _ _ 90 _ _ _ _
        refine zwW_p [(1, 3, 2)] (q := 91) (ls' := [(2, 1), (0, a), (0, b), (2, v2)]) (st' := [(2, v2)]) (by decide +kernel) rfl ?_
        refine zwX_gi C (kd := 4) (bn := 4) (n := 19) (nx := 94) (by decide +kernel) Gv2.2.1 Gv2.1 rfl ?_
        intro v13 ev13 lv13 uv13
        have sv13 : v13 = (yC h) 82 a.toNat := Eq.trans ev13 (Eq.trans (congrArg (fun q => fld h q 4) pv2.1) (Eq.trans (Eq.symm (yC_f (h := h) (a := 82) (A := 3) (j := 4) (i := a.toNat) rfl pv2.2)) (Eq.trans (congrFun (congrFun (rfl : yC h = yC h) 82) a.toNat) rfl)))
        refine zwW_ret (nx := 95) (a := 0) (b := 0) (by decide +kernel) rfl (Or.inl rfl) ?_
        exact ⟨rfl, by omega, by unfold yHasA; (repeat' (first | rw [if_pos (by omega)] | rw [if_neg (by omega)])); all_goals (first | rfl | omega)⟩
      refine ⟨fun c14 => ?_, fun c14 => ?_⟩
      · show zwW _ _ _ 95 _ _ _ _
        refine zwW_p [(1, 3, 2)] (q := 96) (ls' := [(2, 1), (0, a), (0, b), (2, v2)]) (st' := [(2, v2)]) (by decide +kernel) rfl ?_
        refine zwX_gi C (kd := 4) (bn := 5) (n := 19) (nx := 99) (by decide +kernel) Gv2.2.1 Gv2.1 rfl ?_
        intro v15 ev15 lv15 uv15
        have sv15 : v15 = (yC h) 83 a.toNat := Eq.trans ev15 (Eq.trans (congrArg (fun q => fld h q 5) pv2.1) (Eq.trans (Eq.symm (yC_f (h := h) (a := 83) (A := 3) (j := 5) (i := a.toNat) rfl pv2.2)) (Eq.trans (congrFun (congrFun (rfl : yC h = yC h) 83) a.toNat) rfl)))
        refine zwW_ret (nx := 100) (a := 0) (b := 0) (by decide +kernel) rfl (Or.inl rfl) ?_
        exact ⟨rfl, by omega, by unfold yHasA; (repeat' (first | rw [if_pos (by omega)] | rw [if_neg (by omega)])); all_goals (first | rfl | omega)⟩
      refine ⟨fun c16 => ?_, fun c16 => ?_⟩
      · show zwW _ _ _ 100 _ _ _ _
        refine zwW_p [(1, 3, 2)] (q := 101) (ls' := [(2, 1), (0, a), (0, b), (2, v2)]) (st' := [(2, v2)]) (by decide +kernel) rfl ?_
        refine zwX_gi C (kd := 4) (bn := 6) (n := 19) (nx := 104) (by decide +kernel) Gv2.2.1 Gv2.1 rfl ?_
        intro v17 ev17 lv17 uv17
        have sv17 : v17 = (yC h) 84 a.toNat := Eq.trans ev17 (Eq.trans (congrArg (fun q => fld h q 6) pv2.1) (Eq.trans (Eq.symm (yC_f (h := h) (a := 84) (A := 3) (j := 6) (i := a.toNat) rfl pv2.2)) (Eq.trans (congrFun (congrFun (rfl : yC h = yC h) 84) a.toNat) rfl)))
        refine zwW_ret (nx := 105) (a := 0) (b := 0) (by decide +kernel) rfl (Or.inl rfl) ?_
        exact ⟨rfl, by omega, by unfold yHasA; (repeat' (first | rw [if_pos (by omega)] | rw [if_neg (by omega)])); all_goals (first | rfl | omega)⟩
      refine ⟨fun c18 => ?_, fun c18 => ?_⟩
      · show zwW _ _ _ 105 _ _ _ _
        refine zwW_p [(1, 3, 2)] (q := 106) (ls' := [(2, 1), (0, a), (0, b), (2, v2)]) (st' := [(2, v2)]) (by decide +kernel) rfl ?_
        refine zwX_gi C (kd := 4) (bn := 7) (n := 19) (nx := 109) (by decide +kernel) Gv2.2.1 Gv2.1 rfl ?_
        intro v19 ev19 lv19 uv19
        have sv19 : v19 = (yC h) 85 a.toNat := Eq.trans ev19 (Eq.trans (congrArg (fun q => fld h q 7) pv2.1) (Eq.trans (Eq.symm (yC_f (h := h) (a := 85) (A := 3) (j := 7) (i := a.toNat) rfl pv2.2)) (Eq.trans (congrFun (congrFun (rfl : yC h = yC h) 85) a.toNat) rfl)))
        refine zwW_ret (nx := 110) (a := 0) (b := 0) (by decide +kernel) rfl (Or.inl rfl) ?_
        exact ⟨rfl, by omega, by unfold yHasA; (repeat' (first | rw [if_pos (by omega)] | rw [if_neg (by omega)])); all_goals (first | rfl | omega)⟩
      refine ⟨fun c20 => ?_, fun c20 => ?_⟩
      · show zwW _ _ _ 110 _ _ _ _
        refine zwW_p [(1, 3, 2)] (q := 111) (ls' := [(2, 1), (0, a), (0, b), (2, v2)]) (st' := [(2, v2)]) (by decide +kernel) rfl ?_
        refine zwX_gi C (kd := 4) (bn := 8) (n := 19) (nx := 114) (by decide +kernel) Gv2.2.1 Gv2.1 rfl ?_
        intro v21 ev21 lv21 uv21
        have sv21 : v21 = (yC h) 86 a.toNat := Eq.trans ev21 (Eq.trans (congrArg (fun q => fld h q 8) pv2.1) (Eq.trans (Eq.symm (yC_f (h := h) (a := 86) (A := 3) (j := 8) (i := a.toNat) rfl pv2.2)) (Eq.trans (congrFun (congrFun (rfl : yC h = yC h) 86) a.toNat) rfl)))
        refine zwW_ret (nx := 115) (a := 0) (b := 0) (by decide +kernel) rfl (Or.inl rfl) ?_
        exact ⟨rfl, by omega, by unfold yHasA; (repeat' (first | rw [if_pos (by omega)] | rw [if_neg (by omega)])); all_goals (first | rfl | omega)⟩
      refine ⟨fun c22 => ?_, fun c22 => ?_⟩
      · show zwW _ _ _ 115 _ _ _ _
        refine zwW_p [(1, 3, 2)] (q := 116) (ls' := [(2, 1), (0, a), (0, b), (2, v2)]) (st' := [(2, v2)]) (by decide +kernel) rfl ?_
        refine zwX_gi C (kd := 4) (bn := 9) (n := 19) (nx := 119) (by decide +kernel) Gv2.2.1 Gv2.1 rfl ?_
        intro v23 ev23 lv23 uv23
        have sv23 : v23 = (yC h) 87 a.toNat := Eq.trans ev23 (Eq.trans (congrArg (fun q => fld h q 9) pv2.1) (Eq.trans (Eq.symm (yC_f (h := h) (a := 87) (A := 3) (j := 9) (i := a.toNat) rfl pv2.2)) (Eq.trans (congrFun (congrFun (rfl : yC h = yC h) 87) a.toNat) rfl)))
        refine zwW_ret (nx := 120) (a := 0) (b := 0) (by decide +kernel) rfl (Or.inl rfl) ?_
        exact ⟨rfl, by omega, by unfold yHasA; (repeat' (first | rw [if_pos (by omega)] | rw [if_neg (by omega)])); all_goals (first | rfl | omega)⟩
      refine ⟨fun c24 => ?_, fun c24 => ?_⟩
      · show zwW _ _ _ 120 _ _ _ _
        refine zwW_p [(1, 3, 2)] (q := 121) (ls' := [(2, 1), (0, a), (0, b), (2, v2)]) (st' := [(2, v2)]) (by decide +kernel) rfl ?_
        refine zwX_gi C (kd := 4) (bn := 10) (n := 19) (nx := 124) (by decide +kernel) Gv2.2.1 Gv2.1 rfl ?_
        intro v25 ev25 lv25 uv25
        have sv25 : v25 = (yC h) 88 a.toNat := Eq.trans ev25 (Eq.trans (congrArg (fun q => fld h q 10) pv2.1) (Eq.trans (Eq.symm (yC_f (h := h) (a := 88) (A := 3) (j := 10) (i := a.toNat) rfl pv2.2)) (Eq.trans (congrFun (congrFun (rfl : yC h = yC h) 88) a.toNat) rfl)))
        refine zwW_ret (nx := 125) (a := 0) (b := 0) (by decide +kernel) rfl (Or.inl rfl) ?_
        exact ⟨rfl, by omega, by unfold yHasA; (repeat' (first | rw [if_pos (by omega)] | rw [if_neg (by omega)])); all_goals (first | rfl | omega)⟩
      refine ⟨fun c26 => ?_, fun c26 => ?_⟩
      · show zwW _ _ _ 125 _ _ _ _
        refine zwW_p [(1, 3, 2)] (q := 126) (ls' := [(2, 1), (0, a), (0, b), (2, v2)]) (st' := [(2, v2)]) (by decide +kernel) rfl ?_
        refine zwW_cv (op := 60) (k' := 110) (n := 0) (kd := 4) (m := 19) (nx := 129) (r := v2) (tl := []) (st' := []) (by decide +kernel) rfl (by decide +kernel) Gv2.2.1 (x110_z h C v2 Gv2 J a.toNat pv2) rfl ?_
        rintro x _ ⟨rfl, ⟨rfl, c27⟩ | ⟨rfl, c27⟩⟩
        · refine zwif_eq (q := 139) (nx := 132) (by decide +kernel) (fun c28 => ?_) (fun c28 => ?_)
          · exfalso; omega
          · refine zwW_p [(1, 3, 2)] (q := 133) (ls' := [(2, 1), (0, a), (0, b), (2, v2)]) (st' := [(2, v2)]) (by decide +kernel) rfl ?_
            refine zwX_gi C (kd := 4) (bn := 14) (n := 19) (nx := 136) (by decide +kernel) Gv2.2.1 Gv2.1 rfl ?_
            intro v29 ev29 lv29 uv29
            have sv29 : v29 = (yC h) 92 a.toNat := Eq.trans ev29 (Eq.trans (congrArg (fun q => fld h q 14) pv2.1) (Eq.trans (Eq.symm (yC_f (h := h) (a := 92) (A := 3) (j := 14) (i := a.toNat) rfl pv2.2)) (Eq.trans (congrFun (congrFun (rfl : yC h = yC h) 92) a.toNat) rfl)))
            refine zwW_p [(24, 140, 0)] (q := 140) (ls' := [(2, 1), (0, a), (0, b), (2, v2)]) (st' := [(0, v29)]) (by decide +kernel) rfl ?_
            refine zwW_ret (nx := 141) (a := 0) (b := 0) (by decide +kernel) rfl (Or.inl rfl) ?_
            exact ⟨rfl, by omega, by unfold yHasA; (repeat' (first | rw [if_pos (by omega)] | rw [if_neg (by omega)])); all_goals (first | rfl | omega)⟩
        · refine zwif_eq (q := 139) (nx := 132) (by decide +kernel) (fun c30 => ?_) (fun c30 => ?_)
          · refine zwW_p [(0, -1, 0)] (q := 140) (ls' := [(2, 1), (0, a), (0, b), (2, v2)]) (st' := [(0, -1)]) (by decide +kernel) rfl ?_
            refine zwW_ret (nx := 141) (a := 0) (b := 0) (by decide +kernel) rfl (Or.inl rfl) ?_
            exact ⟨rfl, by omega, by unfold yHasA; (repeat' (first | rw [if_neg (by omega)] | rw [if_pos (by omega)])); all_goals (first | rfl | omega)⟩
          · exfalso; omega
      show zwW _ _ _ 141 _ _ _ _
      refine zwW_p [(0, -2147483648, 0)] (q := 143) (ls' := [(2, 1), (0, a), (0, b), (2, v2)]) (st' := [(0, -2147483648)]) (by decide +kernel) rfl ?_
      refine zwW_ret (nx := 144) (a := 0) (b := 0) (by decide +kernel) rfl (Or.inl rfl) ?_
      exact ⟨rfl, by omega, by unfold yHasA; (repeat' (first | rw [if_pos (by omega)] | rw [if_neg (by omega)])); all_goals (first | rfl | omega)⟩
    · exfalso; omega
-- WheelLand$Ledger.numberOf(II)I
theorem x177_z {sc : List Int} (h : Hp) (C : CI h) (a b : Int) (q_a : -2147483648 ≤ a ∧ a ≤ 2147483647) (q_b : -2147483648 ≤ b ∧ b ≤ 2147483647) (J : yR h) : zwC sc 1 177 [(2, 34), (0, a), (0, b)] h (zwRt 0 (fun x g => h = g ∧ (-2147483648 ≤ x ∧ x ≤ 2147483647) ∧ (x = yNumA (yC h) a b))) := by
  refine zwC_of (D := 0) 4 (by decide +kernel) rfl (ls := [(2, 34), (0, a), (0, b), (9, 0)]) rfl ?_
  have u0 : yC h 37 0 = fld h 1 0 := rfl
  have u1 : yC h 37 1 = fld h 2 2 := rfl
  have u2 : yC h 37 2 = fld h 3 2 := rfl
  have u64 : yC h 37 64 = fld h 4 2 := rfl
  have u78 : yC h 37 78 = fld h 5 2 := rfl
  refine zwW_p [(1, 1, 0)] (q := 1) (ls' := [(2, 34), (0, a), (0, b), (9, 0)]) (st' := [(0, a)]) (by decide +kernel) rfl ?_
  refine zwif_lt (q := 25) (nx := 4) (by decide +kernel) (fun c1 => ?_) (fun c1 => ?_)
  · refine zwW_p [(0, 0, 0), (2, 3, 0), (1, 3, 0)] (q := 28) (ls' := [(2, 34), (0, a), (0, b), (0, 0)]) (st' := [(0, 0)]) (by decide +kernel) rfl ?_
    refine zwif_eq (q := 45) (nx := 31) (by decide +kernel) (fun c2 => ?_) (fun c2 => ?_)
    · refine zwW_p [(0, 0, 0)] (q := 46) (ls' := [(2, 34), (0, a), (0, b), (0, 0)]) (st' := [(0, 0)]) (by decide +kernel) rfl ?_
      refine zwW_ret (nx := 47) (a := 0) (b := 0) (by decide +kernel) rfl (Or.inl rfl) ?_
      exact ⟨rfl, by omega, by unfold yNumA; (repeat' (first | rw [if_pos (by omega)] | rw [if_neg (by omega)])); all_goals (first | rfl | omega | (rw [s0]; congr 1; omega))⟩
    · exfalso; omega
  · refine zwW_p [(1, 1, 0), (0, 156, 0)] (q := 8) (ls' := [(2, 34), (0, a), (0, b), (9, 0)]) (st' := [(0, 156), (0, a)]) (by decide +kernel) rfl ?_
    refine zwic_ge (q := 25) (nx := 11) (by decide +kernel) (fun c3 => ?_) (fun c3 => ?_)
    · refine zwW_p [(0, 0, 0), (2, 3, 0), (1, 3, 0)] (q := 28) (ls' := [(2, 34), (0, a), (0, b), (0, 0)]) (st' := [(0, 0)]) (by decide +kernel) rfl ?_
      refine zwif_eq (q := 45) (nx := 31) (by decide +kernel) (fun c4 => ?_) (fun c4 => ?_)
      · refine zwW_p [(0, 0, 0)] (q := 46) (ls' := [(2, 34), (0, a), (0, b), (0, 0)]) (st' := [(0, 0)]) (by decide +kernel) rfl ?_
        refine zwW_ret (nx := 47) (a := 0) (b := 0) (by decide +kernel) rfl (Or.inl rfl) ?_
        exact ⟨rfl, by omega, by unfold yNumA; (repeat' (first | rw [if_pos (by omega)] | rw [if_neg (by omega)])); all_goals (first | rfl | omega | (rw [s0]; congr 1; omega))⟩
      · exfalso; omega
    · refine zwW_p [(1, 2, 0)] (q := 12) (ls' := [(2, 34), (0, a), (0, b), (9, 0)]) (st' := [(0, b)]) (by decide +kernel) rfl ?_
      refine zwif_lt (q := 25) (nx := 15) (by decide +kernel) (fun c5 => ?_) (fun c5 => ?_)
      · refine zwW_p [(0, 0, 0), (2, 3, 0), (1, 3, 0)] (q := 28) (ls' := [(2, 34), (0, a), (0, b), (0, 0)]) (st' := [(0, 0)]) (by decide +kernel) rfl ?_
        refine zwif_eq (q := 45) (nx := 31) (by decide +kernel) (fun c6 => ?_) (fun c6 => ?_)
        · refine zwW_p [(0, 0, 0)] (q := 46) (ls' := [(2, 34), (0, a), (0, b), (0, 0)]) (st' := [(0, 0)]) (by decide +kernel) rfl ?_
          refine zwW_ret (nx := 47) (a := 0) (b := 0) (by decide +kernel) rfl (Or.inl rfl) ?_
          exact ⟨rfl, by omega, by unfold yNumA; (repeat' (first | rw [if_pos (by omega)] | rw [if_neg (by omega)])); all_goals (first | rfl | omega | (rw [s0]; congr 1; omega))⟩
        · exfalso; omega
      · refine zwW_p [(1, 2, 0), (0, 6, 0)] (q := 18) (ls' := [(2, 34), (0, a), (0, b), (9, 0)]) (st' := [(0, 6), (0, b)]) (by decide +kernel) rfl ?_
        refine zwic_ge (q := 25) (nx := 21) (by decide +kernel) (fun c7 => ?_) (fun c7 => ?_)
        · refine zwW_p [(0, 0, 0), (2, 3, 0), (1, 3, 0)] (q := 28) (ls' := [(2, 34), (0, a), (0, b), (0, 0)]) (st' := [(0, 0)]) (by decide +kernel) rfl ?_
          refine zwif_eq (q := 45) (nx := 31) (by decide +kernel) (fun c8 => ?_) (fun c8 => ?_)
          · refine zwW_p [(0, 0, 0)] (q := 46) (ls' := [(2, 34), (0, a), (0, b), (0, 0)]) (st' := [(0, 0)]) (by decide +kernel) rfl ?_
            refine zwW_ret (nx := 47) (a := 0) (b := 0) (by decide +kernel) rfl (Or.inl rfl) ?_
            exact ⟨rfl, by omega, by unfold yNumA; (repeat' (first | rw [if_pos (by omega)] | rw [if_neg (by omega)])); all_goals (first | rfl | omega | (rw [s0]; congr 1; omega))⟩
          · exfalso; omega
        · refine zwW_p [(0, 1, 0), (24, 26, 0), (2, 3, 0), (1, 3, 0)] (q := 28) (ls' := [(2, 34), (0, a), (0, b), (0, 1)]) (st' := [(0, 1)]) (by decide +kernel) rfl ?_
          refine zwif_eq (q := 45) (nx := 31) (by decide +kernel) (fun c9 => ?_) (fun c9 => ?_)
          · exfalso; omega
          · refine zwW_p [(1, 0, 2)] (q := 32) (ls' := [(2, 34), (0, a), (0, b), (0, 1)]) (st' := [(2, 34)]) (by decide +kernel) rfl ?_
            refine zwW_gc C.1 (kd := 5) (bn := 3) (n := 4) (c := 35) (nx := 35) (by decide +kernel) ?_
            refine zwW_p [(1, 1, 0), (0, 6, 0)] (q := 38) (ls' := [(2, 34), (0, a), (0, b), (0, 1)]) (st' := [(0, 6), (0, a), (2, 35)]) (by decide +kernel) rfl ?_
            refine zwW_mul (nx := 39) (by decide +kernel) (by first | omega | exact ⟨by omega, by omega⟩) ?_
            refine zwW_p [(1, 2, 0)] (q := 40) (ls' := [(2, 34), (0, a), (0, b), (0, 1)]) (st' := [(0, b), (0, (a * 6)), (2, 35)]) (by decide +kernel) rfl ?_
            refine zwW_add (nx := 41) (by decide +kernel) (by first | omega | exact ⟨by omega, by omega⟩) ?_
            have ib1 : 0 ≤ ((a * 6) + b) ∧ ((a * 6) + b) < ((936 : Nat) : Int) := (by first | omega | exact ⟨by omega, by omega⟩)
            refine zwW_al C.1 (a1 := 35) (a2 := 35) (kd := 20) (n := 936) (t := 0) (lo := -2147483648) (hi := 2147483647) (nx := 42) (by decide +kernel) (by first | decide | exact ⟨by decide, by decide⟩) ib1 ?_
            intro v10 ev10 lv10 uv10
            have sv10 : v10 = (yC h) 206 (((a * 6) + b).toNat) := Eq.trans ev10 (Eq.trans (Eq.symm (yC_x (h := h) (a := 206) (r := 35) (n := 936) (i := ((a * 6) + b).toNat) rfl (by omega))) (Eq.trans (congrFun (congrFun (rfl : yC h = yC h) 206) (((a * 6) + b).toNat)) rfl))
            refine zwW_p [(24, 46, 0)] (q := 46) (ls' := [(2, 34), (0, a), (0, b), (0, 1)]) (st' := [(0, v10)]) (by decide +kernel) rfl ?_
            refine zwW_ret (nx := 47) (a := 0) (b := 0) (by decide +kernel) rfl (Or.inl rfl) ?_
            exact ⟨rfl, by omega, by unfold yNumA; (repeat' (first | rw [if_pos (by omega)] | rw [if_neg (by omega)])); all_goals (first | rfl | omega | (rw [sv10]; congr 1; omega))⟩
-- WheelLand.told(II)I
theorem x79_z {sc : List Int} (h : Hp) (C : CI h) (a b : Int) (q_a : -2147483648 ≤ a ∧ a ≤ 2147483647) (q_b : -2147483648 ≤ b ∧ b ≤ 2147483647) (J : yR h) : zwC sc 2 79 [(2, 1), (0, a), (0, b)] h (zwRt 0 (fun x g => h = g ∧ (-2147483648 ≤ x ∧ x ≤ 2147483647) ∧ (x = yToldA (yC h) a b))) := by
  refine zwC_of (D := 1) 3 (by decide +kernel) rfl (ls := [(2, 1), (0, a), (0, b)]) rfl ?_
  have u0 : yC h 37 0 = fld h 1 0 := rfl
  have u1 : yC h 37 1 = fld h 2 2 := rfl
  have u2 : yC h 37 2 = fld h 3 2 := rfl
  have u64 : yC h 37 64 = fld h 4 2 := rfl
  have u78 : yC h 37 78 = fld h 5 2 := rfl
  refine zwW_p [(1, 1, 0), (0, 0, 0), (1, 0, 2)] (q := 3) (ls' := [(2, 1), (0, a), (0, b)]) (st' := [(2, 1), (0, 0), (0, a)]) (by decide +kernel) rfl ?_
  refine zwW_gs C.1 (kd := 12) (bn := 0) (n := 13) (t := 0) (lo := 0) (hi := 156) (nx := 6) (by decide +kernel) ?_
  intro v1 ev1 lv1 uv1
  have sv1 : v1 = (yC h) 37 0 := Eq.trans ev1 (Eq.trans (Eq.symm (yC_s (h := h) (i := 0) rfl)) (Eq.trans (congrFun (congrFun (rfl : yC h = yC h) 37) 0) rfl))
  refine zwW_p [(0, 1, 0)] (q := 7) (ls' := [(2, 1), (0, a), (0, b)]) (st' := [(0, 1), (0, v1), (0, 0), (0, a)]) (by decide +kernel) rfl ?_
  refine zwW_sub (nx := 8) (by decide +kernel) (by first | omega | exact ⟨by omega, by omega⟩) ?_
  refine zwW_cs (k' := 98) (n := 3) (nx := 11) (as := [(0, a), (0, 0), (0, (v1 - 1))]) (st' := []) (by decide +kernel) rfl (x98 h C a 0 (v1 - 1) (by omega) (by omega) (by omega)) rfl ?_
  rintro x _ ⟨rfl, ⟨rfl, c2⟩ | ⟨rfl, c2⟩⟩
  · refine zwif_ne (q := 23) (nx := 14) (by decide +kernel) (fun c3 => ?_) (fun c3 => ?_)
    · refine zwW_p [(0, -1, 0)] (q := 24) (ls' := [(2, 1), (0, a), (0, b)]) (st' := [(0, -1)]) (by decide +kernel) rfl ?_
      refine zwW_ret (nx := 25) (a := 0) (b := 0) (by decide +kernel) rfl (Or.inl rfl) ?_
      exact ⟨rfl, by omega, by unfold yToldA; (repeat' (first | rw [if_neg (by omega)] | rw [if_pos (by omega)])); all_goals (first | rfl | omega | (unfold yNumA at *; omega))⟩
    · exfalso; omega
  · refine zwif_ne (q := 23) (nx := 14) (by decide +kernel) (fun c4 => ?_) (fun c4 => ?_)
    · exfalso; omega
    · refine zwW_p [(1, 2, 0), (0, 0, 0), (0, 5, 0)] (q := 17) (ls' := [(2, 1), (0, a), (0, b)]) (st' := [(0, 5), (0, 0), (0, b)]) (by decide +kernel) rfl ?_
      refine zwW_cs (k' := 98) (n := 3) (nx := 20) (as := [(0, b), (0, 0), (0, 5)]) (st' := []) (by decide +kernel) rfl (x98 h C b 0 5 (by omega) (by omega) (by omega)) rfl ?_
      rintro x _ ⟨rfl, ⟨rfl, c5⟩ | ⟨rfl, c5⟩⟩
      · refine zwif_eq (q := 25) (nx := 23) (by decide +kernel) (fun c6 => ?_) (fun c6 => ?_)
        · exfalso; omega
        · refine zwW_p [(0, -1, 0)] (q := 24) (ls' := [(2, 1), (0, a), (0, b)]) (st' := [(0, -1)]) (by decide +kernel) rfl ?_
          refine zwW_ret (nx := 25) (a := 0) (b := 0) (by decide +kernel) rfl (Or.inl rfl) ?_
          exact ⟨rfl, by omega, by unfold yToldA; (repeat' (first | rw [if_neg (by omega)] | rw [if_pos (by omega)])); all_goals (first | rfl | omega | (unfold yNumA at *; omega))⟩
      · refine zwif_eq (q := 25) (nx := 23) (by decide +kernel) (fun c7 => ?_) (fun c7 => ?_)
        · refine zwW_p [(1, 0, 2)] (q := 26) (ls' := [(2, 1), (0, a), (0, b)]) (st' := [(2, 1)]) (by decide +kernel) rfl ?_
          refine zwW_gc C.1 (kd := 12) (bn := 11) (n := 13) (c := 34) (nx := 29) (by decide +kernel) ?_
          refine zwW_p [(1, 1, 0), (1, 2, 0)] (q := 31) (ls' := [(2, 1), (0, a), (0, b)]) (st' := [(0, b), (0, a), (2, 34)]) (by decide +kernel) rfl ?_
          refine zwW_cm C.1 (op := 60) (k' := 177) (n := 2) (kd := 5) (m := 4) (nx := 34) (r := 34) (tl := [(0, a), (0, b)]) (st' := []) (by decide +kernel) rfl (by decide +kernel) rfl (x177_z h C a b (by omega) (by omega) J) ?_
          rintro v8 _ ⟨rfl, f9, f10⟩
          have sv8 : v8 = yNumA (yC h) a b := by rw [f10]
          refine zwW_ret (nx := 35) (a := 0) (b := 0) (by decide +kernel) rfl (Or.inl rfl) ?_
          exact ⟨rfl, by omega, by unfold yToldA; (repeat' (first | rw [if_pos (by omega)] | rw [if_neg (by omega)])); all_goals (first | rfl | omega | (unfold yNumA at *; omega))⟩
        · exfalso; omega
-- WheelLand.look()I
theorem x67_z {sc : List Int} (h : Hp) (C : CI h) (J : yR h) : zwC sc 5 67 [(2, 1)] h (zwRt 0 (fun x g => h = g ∧ (-2147483648 ≤ x ∧ x ≤ 2147483647) ∧ (x = yLookA (yC h)))) := by
  refine zwC_of (D := 4) 6 (by decide +kernel) rfl (ls := [(2, 1), (9, 0), (9, 0), (9, 0), (9, 0), (9, 0)]) rfl ?_
  have u1 : yC h 37 1 = fld h 2 2 := rfl
  have b22 := zLb_2 C
  refine zwW_p [(0, -1, 0), (2, 1, 0), (0, 0, 0), (2, 2, 0), (0, 0, 0), (2, 3, 0)] (q := 6) (ls' := [(2, 1), (0, -1), (0, 0), (0, 0), (9, 0), (9, 0)]) (st' := []) (by decide +kernel) rfl ?_
  have L1 : ∀ (n0 : Nat) (zL1 mL1 vL1 : Int) (w4L1 w5L1 : Vl), n0 = ((1000 - vL1)).toNat → (zL1 = (yLk (yC h) (vL1).toNat).1) → (mL1 = (yLk (yC h) (vL1).toNat).2) → (vL1 ≤ fld h 2 2) → (-2147483648 ≤ zL1 ∧ zL1 ≤ 2147483647) → (-2147483648 ≤ mL1 ∧ mL1 ≤ 2147483647) → (0 ≤ vL1 ∧ vL1 ≤ 8) → zwW sc (4) 67 6 [(2, 1), (0, zL1), (0, mL1), (0, vL1), w4L1, w5L1] [] h (zwRt 0 (fun x g => h = g ∧ (-2147483648 ≤ x ∧ x ≤ 2147483647) ∧ (x = yLookA (yC h)))) := by
    intro n0
    induction n0 using Nat.strongRecOn with
    | ind n0 IHL1 =>
      intro zL1 mL1 vL1 w4L1 w5L1 hnL1 iL1_0 iL1_1 iL1_2 iL1_3 iL1_4 iL1_5
      refine zwW_p [(1, 3, 0), (1, 0, 2)] (q := 8) (ls' := [(2, 1), (0, zL1), (0, mL1), (0, vL1), w4L1, w5L1]) (st' := [(2, 1), (0, vL1)]) (by decide +kernel) rfl ?_
      refine zwW_gc C.1 (kd := 12) (bn := 2) (n := 13) (c := 2) (nx := 11) (by decide +kernel) ?_
      refine zwW_cm C.1 (op := 60) (k' := 96) (n := 0) (kd := 0) (m := 3) (nx := 14) (r := 2) (tl := []) (st' := [(0, vL1)]) (by decide +kernel) rfl (by decide +kernel) rfl (x96_2 C) ?_
      rintro v2 _ ⟨rfl, ev2⟩
      have bv2 := zLb_2 C
      have sv2 : v2 = (yC h) 37 1 := Eq.trans ev2 (Eq.trans (Eq.symm (yC_s (h := h) (i := 1) rfl)) (Eq.trans (congrFun (congrFun (rfl : yC h = yC h) 37) 1) rfl))
      refine zwic_ge (q := 60) (nx := 17) (by decide +kernel) (fun c3 => ?_) (fun c3 => ?_)
      · refine zwW_p [(1, 1, 0)] (q := 61) (ls' := [(2, 1), (0, zL1), (0, mL1), (0, vL1), w4L1, w5L1]) (st' := [(0, zL1)]) (by decide +kernel) rfl ?_
        refine zwW_ret (nx := 62) (a := 0) (b := 0) (by decide +kernel) rfl (Or.inl rfl) ?_
        exact ⟨rfl, by omega, by unfold yLookA; rw [show (yC h 37 1).toNat = (vL1).toNat by omega]; exact iL1_0⟩
      · refine zwW_p [(1, 0, 2)] (q := 18) (ls' := [(2, 1), (0, zL1), (0, mL1), (0, vL1), w4L1, w5L1]) (st' := [(2, 1)]) (by decide +kernel) rfl ?_
        refine zwW_gc C.1 (kd := 12) (bn := 2) (n := 13) (c := 2) (nx := 21) (by decide +kernel) ?_
        refine zwW_p [(1, 3, 0)] (q := 22) (ls' := [(2, 1), (0, zL1), (0, mL1), (0, vL1), w4L1, w5L1]) (st' := [(0, vL1), (2, 2)]) (by decide +kernel) rfl ?_
        refine zwW_cm C.1 (op := 60) (k' := 123) (n := 1) (kd := 0) (m := 3) (nx := 25) (r := 2) (tl := [(0, vL1)]) (st' := []) (by decide +kernel) rfl (by decide +kernel) rfl (x123_2 C (i := vL1) (by first | omega | exact ⟨by omega, by omega⟩)) ?_
        rintro v4 _ ⟨rfl, Gv4, ev4⟩
        have lv4 := Gv4.1
        have pv4 : v4 = zv h 2 vL1.toNat ∧ ((vL1.toNat : Nat) : Int) < fld h 2 2 := ⟨ev4, by omega⟩
        refine zwW_cast (a := 11) (kd := 11) (n := 17) (nx := 28) (by decide +kernel) rfl (Or.inr Gv4.2.1) ?_
        refine zwW_p [(2, 4, 2), (1, 4, 2)] (q := 32) (ls' := [(2, 1), (0, zL1), (0, mL1), (0, vL1), (2, v4), w5L1]) (st' := [(2, v4)]) (by decide +kernel) rfl ?_
        refine zwW_cv (op := 60) (k' := 158) (n := 0) (kd := 11) (m := 17) (nx := 35) (r := v4) (tl := []) (st' := []) (by decide +kernel) rfl (by decide +kernel) Gv4.2.1 (x158_z h C v4 Gv4 J vL1.toNat pv4) rfl ?_
        rintro v5 _ ⟨rfl, f6, f7⟩
        have sv5 : v5 = yFls (yC h) vL1.toNat 1 := by rw [f7]
        refine zwW_p [(1, 4, 2)] (q := 37) (ls' := [(2, 1), (0, zL1), (0, mL1), (0, vL1), (2, v4), w5L1]) (st' := [(2, v4), (0, v5)]) (by decide +kernel) rfl ?_
        refine zwW_cv (op := 60) (k' := 159) (n := 0) (kd := 11) (m := 17) (nx := 40) (r := v4) (tl := []) (st' := [(0, v5)]) (by decide +kernel) rfl (by decide +kernel) Gv4.2.1 (x159_z h C v4 Gv4 J vL1.toNat pv4) rfl ?_
        rintro v8 _ ⟨rfl, f9, f10⟩
        have sv8 : v8 = yFls (yC h) vL1.toNat 0 := by rw [f10]
        refine zwW_sbw (nx := 41) (by decide +kernel) ?_
        intro v11 ev11 lv11 uv11
        have Ev11 : v11 = w32 ((yFls (yC h) vL1.toNat 1) - (yFls (yC h) vL1.toNat 0)) := by rw [ev11, sv5, sv8]
        refine zwW_p [(2, 5, 0), (1, 5, 0), (1, 2, 0)] (q := 46) (ls' := [(2, 1), (0, zL1), (0, mL1), (0, vL1), (2, v4), (0, v11)]) (st' := [(0, mL1), (0, v11)]) (by decide +kernel) rfl ?_
        refine zwic_le (q := 54) (nx := 49) (by decide +kernel) (fun c12 => ?_) (fun c12 => ?_)
        · refine zwW_inc (i := 3) (c := 1) (x := vL1) (nx := 57) (by decide +kernel) rfl (by first | omega | exact ⟨by omega, by omega⟩) (ls' := [(2, 1), (0, zL1), (0, mL1), (0, (vL1 + 1)), (2, v4), (0, v11)]) rfl ?_
          refine zwW_p [(24, 6, 0)] (q := 6) (ls' := [(2, 1), (0, zL1), (0, mL1), (0, (vL1 + 1)), (2, v4), (0, v11)]) (st' := []) (by decide +kernel) rfl ?_
          exact IHL1 ((1000 - (vL1 + 1))).toNat (by omega) zL1 mL1 (vL1 + 1) (2, v4) (0, v11) rfl (by rw [show (vL1 + 1).toNat = (vL1).toNat + 1 by omega]; unfold yLk; first | (rw [if_pos (by unfold yGap; omega)]; show _ = (((vL1).toNat : Nat) : Int); omega) | (rw [if_neg (by unfold yGap; omega)]; exact iL1_0)) (by rw [show (vL1 + 1).toNat = (vL1).toNat + 1 by omega]; unfold yLk; first | (rw [if_pos (by unfold yGap; omega)]; show _ = yGap _ _; unfold yGap; omega) | (rw [if_neg (by unfold yGap; omega)]; exact iL1_1)) (by omega) (by omega) (by omega) (by omega)
        · refine zwW_p [(1, 5, 0), (2, 2, 0), (1, 3, 0), (2, 1, 0)] (q := 54) (ls' := [(2, 1), (0, vL1), (0, v11), (0, vL1), (2, v4), (0, v11)]) (st' := []) (by decide +kernel) rfl ?_
          refine zwW_inc (i := 3) (c := 1) (x := vL1) (nx := 57) (by decide +kernel) rfl (by first | omega | exact ⟨by omega, by omega⟩) (ls' := [(2, 1), (0, vL1), (0, v11), (0, (vL1 + 1)), (2, v4), (0, v11)]) rfl ?_
          refine zwW_p [(24, 6, 0)] (q := 6) (ls' := [(2, 1), (0, vL1), (0, v11), (0, (vL1 + 1)), (2, v4), (0, v11)]) (st' := []) (by decide +kernel) rfl ?_
          exact IHL1 ((1000 - (vL1 + 1))).toNat (by omega) vL1 v11 (vL1 + 1) (2, v4) (0, v11) rfl (by rw [show (vL1 + 1).toNat = (vL1).toNat + 1 by omega]; unfold yLk; first | (rw [if_pos (by unfold yGap; omega)]; show _ = (((vL1).toNat : Nat) : Int); omega) | (rw [if_neg (by unfold yGap; omega)]; exact iL1_0)) (by rw [show (vL1 + 1).toNat = (vL1).toNat + 1 by omega]; unfold yLk; first | (rw [if_pos (by unfold yGap; omega)]; show _ = yGap _ _; unfold yGap; omega) | (rw [if_neg (by unfold yGap; omega)]; exact iL1_1)) (by omega) (by omega) (by omega) (by omega)
  exact L1 _ (-1) 0 0 (9, 0) (9, 0) rfl (rfl) (rfl) (by omega) (by omega) (by omega) (by omega)
-- WheelLand.hungry(I)I
theorem x75_z {sc : List Int} (h : Hp) (C : CI h) (a : Int) (q_a : -2147483648 ≤ a ∧ a ≤ 2147483647) (J : yR h) (hB : ∀ i : Nat, 0 ≤ yC h 83 i ∧ yC h 83 i ≤ 9) : zwC sc 5 75 [(2, 1), (0, a)] h (zwRt 0 (fun x g => h = g ∧ (-2147483648 ≤ x ∧ x ≤ 2147483647) ∧ (x = yHunA (yC h) a))) := by
  refine zwC_of (D := 4) 5 (by decide +kernel) rfl (ls := [(2, 1), (0, a), (9, 0), (9, 0), (9, 0)]) rfl ?_
  have u2 : yC h 37 2 = fld h 3 2 := rfl
  have b33 := zLb_3 C
  refine zwW_p [(1, 1, 0), (0, 1, 0), (0, 99, 0)] (q := 4) (ls' := [(2, 1), (0, a), (9, 0), (9, 0), (9, 0)]) (st' := [(0, 99), (0, 1), (0, a)]) (by decide +kernel) rfl ?_
  refine zwW_cs (k' := 98) (n := 3) (nx := 7) (as := [(0, a), (0, 1), (0, 99)]) (st' := []) (by decide +kernel) rfl (x98 h C a 1 99 (by omega) (by omega) (by omega)) rfl ?_
  rintro x _ ⟨rfl, ⟨rfl, c1⟩ | ⟨rfl, c1⟩⟩
  · refine zwif_eq (q := 12) (nx := 10) (by decide +kernel) (fun c2 => ?_) (fun c2 => ?_)
    · exfalso; omega
    · refine zwW_p [(0, -1, 0)] (q := 11) (ls' := [(2, 1), (0, a), (9, 0), (9, 0), (9, 0)]) (st' := [(0, -1)]) (by decide +kernel) rfl ?_
      refine zwW_ret (nx := 12) (a := 0) (b := 0) (by decide +kernel) rfl (Or.inl rfl) ?_
      exact ⟨rfl, by omega, by unfold yHunA; (repeat' (first | rw [if_neg (by omega)] | rw [if_pos (by omega)])); all_goals (first | rfl | omega | (rw [show (yC h 37 2).toNat = (a).toNat by omega]; exact rfl))⟩
  · refine zwif_eq (q := 12) (nx := 10) (by decide +kernel) (fun c3 => ?_) (fun c3 => ?_)
    · refine zwW_p [(0, 0, 0), (2, 2, 0), (0, 0, 0), (2, 3, 0)] (q := 16) (ls' := [(2, 1), (0, a), (0, 0), (0, 0), (9, 0)]) (st' := []) (by decide +kernel) rfl ?_
      have L4 : ∀ (n0 : Nat) (nL4 qL4 : Int) (w4L4 : Vl), n0 = ((1000 - qL4)).toNat → (nL4 = (yHg (yC h) a (qL4).toNat)) → (qL4 ≤ fld h 3 2) → (-2147483648 ≤ nL4 ∧ nL4 ≤ 2147483647) → (0 ≤ qL4 ∧ qL4 ≤ 20) → zwW sc (4) 75 16 [(2, 1), (0, a), (0, nL4), (0, qL4), w4L4] [] h (zwRt 0 (fun x g => h = g ∧ (-2147483648 ≤ x ∧ x ≤ 2147483647) ∧ (x = yHunA (yC h) a))) := by
        intro n0
        induction n0 using Nat.strongRecOn with
        | ind n0 IHL4 =>
          intro nL4 qL4 w4L4 hnL4 iL4_0 iL4_1 iL4_2 iL4_3
          refine zwW_p [(1, 3, 0), (1, 0, 2)] (q := 18) (ls' := [(2, 1), (0, a), (0, nL4), (0, qL4), w4L4]) (st' := [(2, 1), (0, qL4)]) (by decide +kernel) rfl ?_
          refine zwW_gc C.1 (kd := 12) (bn := 3) (n := 13) (c := 3) (nx := 21) (by decide +kernel) ?_
          refine zwW_cm C.1 (op := 60) (k' := 96) (n := 0) (kd := 0) (m := 3) (nx := 24) (r := 3) (tl := []) (st' := [(0, qL4)]) (by decide +kernel) rfl (by decide +kernel) rfl (x96_3 C) ?_
          rintro v5 _ ⟨rfl, ev5⟩
          have bv5 := zLb_3 C
          have sv5 : v5 = (yC h) 37 2 := Eq.trans ev5 (Eq.trans (Eq.symm (yC_s (h := h) (i := 2) rfl)) (Eq.trans (congrFun (congrFun (rfl : yC h = yC h) 37) 2) rfl))
          refine zwic_ge (q := 67) (nx := 27) (by decide +kernel) (fun c6 => ?_) (fun c6 => ?_)
          · refine zwW_p [(1, 2, 0)] (q := 68) (ls' := [(2, 1), (0, a), (0, nL4), (0, qL4), w4L4]) (st' := [(0, nL4)]) (by decide +kernel) rfl ?_
            refine zwW_ret (nx := 69) (a := 0) (b := 0) (by decide +kernel) rfl (Or.inl rfl) ?_
            exact ⟨rfl, by omega, by unfold yHunA; (repeat' (first | rw [if_pos (by omega)] | rw [if_neg (by omega)])); all_goals (first | rfl | omega | (rw [show (yC h 37 2).toNat = (qL4).toNat by omega]; exact iL4_0))⟩
          · refine zwW_p [(1, 0, 2)] (q := 28) (ls' := [(2, 1), (0, a), (0, nL4), (0, qL4), w4L4]) (st' := [(2, 1)]) (by decide +kernel) rfl ?_
            refine zwW_gc C.1 (kd := 12) (bn := 3) (n := 13) (c := 3) (nx := 31) (by decide +kernel) ?_
            refine zwW_p [(1, 3, 0)] (q := 32) (ls' := [(2, 1), (0, a), (0, nL4), (0, qL4), w4L4]) (st' := [(0, qL4), (2, 3)]) (by decide +kernel) rfl ?_
            refine zwW_cm C.1 (op := 60) (k' := 123) (n := 1) (kd := 0) (m := 3) (nx := 35) (r := 3) (tl := [(0, qL4)]) (st' := []) (by decide +kernel) rfl (by decide +kernel) rfl (x123_3 C (i := qL4) (by first | omega | exact ⟨by omega, by omega⟩)) ?_
            rintro v7 _ ⟨rfl, Gv7, ev7⟩
            have lv7 := Gv7.1
            have pv7 : v7 = zv h 3 qL4.toNat ∧ ((qL4.toNat : Nat) : Int) < fld h 3 2 := ⟨ev7, by omega⟩
            refine zwW_cast (a := 4) (kd := 4) (n := 19) (nx := 38) (by decide +kernel) rfl (Or.inr Gv7.2.1) ?_
            refine zwW_p [(2, 4, 2)] (q := 40) (ls' := [(2, 1), (0, a), (0, nL4), (0, qL4), (2, v7)]) (st' := []) (by decide +kernel) rfl ?_
            have b83 := hB (qL4).toNat
            refine zwW_p [(1, 4, 2)] (q := 42) (ls' := [(2, 1), (0, a), (0, nL4), (0, qL4), (2, v7)]) (st' := [(2, v7)]) (by decide +kernel) rfl ?_
            refine zwX_gi C (kd := 4) (bn := 6) (n := 19) (nx := 45) (by decide +kernel) Gv7.2.1 Gv7.1 rfl ?_
            intro v8 ev8 lv8 uv8
            have sv8 : v8 = (yC h) 84 qL4.toNat := Eq.trans ev8 (Eq.trans (congrArg (fun q => fld h q 6) pv7.1) (Eq.trans (Eq.symm (yC_f (h := h) (a := 84) (A := 3) (j := 6) (i := qL4.toNat) rfl pv7.2)) (Eq.trans (congrFun (congrFun (rfl : yC h = yC h) 84) qL4.toNat) rfl)))
            refine zwW_p [(1, 4, 2)] (q := 47) (ls' := [(2, 1), (0, a), (0, nL4), (0, qL4), (2, v7)]) (st' := [(2, v7), (0, v8)]) (by decide +kernel) rfl ?_
            refine zwX_gi C (kd := 4) (bn := 5) (n := 19) (nx := 50) (by decide +kernel) Gv7.2.1 Gv7.1 rfl ?_
            intro v9 ev9 lv9 uv9
            have sv9 : v9 = (yC h) 83 qL4.toNat := Eq.trans ev9 (Eq.trans (congrArg (fun q => fld h q 5) pv7.1) (Eq.trans (Eq.symm (yC_f (h := h) (a := 83) (A := 3) (j := 5) (i := qL4.toNat) rfl pv7.2)) (Eq.trans (congrFun (congrFun (rfl : yC h = yC h) 83) qL4.toNat) rfl)))
            refine zwW_p [(1, 1, 0)] (q := 51) (ls' := [(2, 1), (0, a), (0, nL4), (0, qL4), (2, v7)]) (st' := [(0, a), (0, v9), (0, v8)]) (by decide +kernel) rfl ?_
            refine zwW_mulp (A := 9) (B := 99) (nx := 52) (by decide +kernel) (by first | omega | exact ⟨by omega, by omega⟩) (by first | omega | exact ⟨by omega, by omega⟩) (by decide) ?_
            intro v10 ev10 lv10 uv10
            have Ev10 : v10 = ((yC h) 83 qL4.toNat) * a := by rw [ev10, sv9]
            refine zwic_ge (q := 61) (nx := 55) (by decide +kernel) (fun c11 => ?_) (fun c11 => ?_)
            · refine zwW_inc (i := 3) (c := 1) (x := qL4) (nx := 64) (by decide +kernel) rfl (by first | omega | exact ⟨by omega, by omega⟩) (ls' := [(2, 1), (0, a), (0, nL4), (0, (qL4 + 1)), (2, v7)]) rfl ?_
              refine zwW_p [(24, 16, 0)] (q := 16) (ls' := [(2, 1), (0, a), (0, nL4), (0, (qL4 + 1)), (2, v7)]) (st' := []) (by decide +kernel) rfl ?_
              exact IHL4 ((1000 - (qL4 + 1))).toNat (by omega) nL4 (qL4 + 1) (2, v7) rfl (by rw [show (qL4 + 1).toNat = (qL4).toNat + 1 by omega]; unfold yHg; first | (rw [if_pos (by omega), ← iL4_0, show (((qL4).toNat : Nat) : Int) = qL4 by omega]) | (rw [if_neg (by omega)]; exact iL4_0)) (by omega) (by first | omega | exact i_or_in) (by omega)
            · refine zwW_p [(1, 2, 0), (0, 1, 0), (1, 3, 0)] (q := 58) (ls' := [(2, 1), (0, a), (0, nL4), (0, qL4), (2, v7)]) (st' := [(0, qL4), (0, 1), (0, nL4)]) (by decide +kernel) rfl ?_
              refine zwW_ib (a := 8) (nx := 59) (by decide +kernel) rfl ?_
              refine zwW_ib (a := 6) (nx := 60) (by decide +kernel) rfl ?_
              refine zwW_p [(2, 2, 0)] (q := 61) (ls' := [(2, 1), (0, a), (0, (i_or nL4 (i_shl 1 qL4))), (0, qL4), (2, v7)]) (st' := []) (by decide +kernel) rfl ?_
              refine zwW_inc (i := 3) (c := 1) (x := qL4) (nx := 64) (by decide +kernel) rfl (by first | omega | exact ⟨by omega, by omega⟩) (ls' := [(2, 1), (0, a), (0, (i_or nL4 (i_shl 1 qL4))), (0, (qL4 + 1)), (2, v7)]) rfl ?_
              refine zwW_p [(24, 16, 0)] (q := 16) (ls' := [(2, 1), (0, a), (0, (i_or nL4 (i_shl 1 qL4))), (0, (qL4 + 1)), (2, v7)]) (st' := []) (by decide +kernel) rfl ?_
              exact IHL4 ((1000 - (qL4 + 1))).toNat (by omega) (i_or nL4 (i_shl 1 qL4)) (qL4 + 1) (2, v7) rfl (by rw [show (qL4 + 1).toNat = (qL4).toNat + 1 by omega]; unfold yHg; first | (rw [if_pos (by omega), ← iL4_0, show (((qL4).toNat : Nat) : Int) = qL4 by omega]) | (rw [if_neg (by omega)]; exact iL4_0)) (by omega) (by first | omega | exact i_or_in) (by omega)
      exact L4 _ 0 0 (9, 0) rfl (rfl) (by omega) (by omega) (by omega)
    · exfalso; omega
end
