/-! contracts of methods -/
-- WheelLandModel.factor(I)Z
theorem m285 {sc : List Int} (a : Int) (D0 : Nat) (pa : 0 ≤ a ∧ a ≤ 8) (HS : a < 8 → zPX sc D0 248 (a + 1)) : zPX sc (D0 + 20) 285 a := by
  intro h I hP pc pk
  have hP0 := hP
  unfold zP0 at hP0
  have bk := I.b (a1 := 37) (a2 := 37) (j1 := 45) (j2 := 46) (lo := 0) (hi := 400) (by decide +kernel) (r := 37) (j := 45) (by decide) (by decide) (by decide) (by decide)
  have bt := I.b (a1 := 37) (a2 := 37) (j1 := 41) (j2 := 42) (lo := 0) (hi := 400) (by decide +kernel) (r := 37) (j := 41) (by decide) (by decide) (by decide) (by decide)
  refine zwC_of (D := D0 + 19) 3 (by decide +kernel) rfl (ls := [(2, 37), (0, a), (9, 0)]) rfl ?_
  have R : zMR msP h h := zMR.rf _ _
  refine zwW_p [(1, 0, 2), (0, 40, 0)] (q := 3) (ls' := [(2, 37), (0, a), (9, 0)]) (st' := [(0, 40), (2, 37)]) (by decide +kernel) rfl ?_
  refine zwW_cm I (op := 60) (k' := 250) (n := 1) (kd := 13) (m := 97) (nx := 6) (r := 37) (tl := [(0, 40)]) (st' := []) (by decide +kernel) rfl (by decide +kernel) (Nat.ble_eq_true_of_le (by omega)) (m250 h I 40) ?_
  rintro x _ ⟨rfl, ⟨rfl, c1⟩ | ⟨rfl, c1⟩⟩
  · refine zwif_eq (q := 56) (nx := 9) (by decide +kernel) (fun c2 => ?_) (fun c2 => ?_)
    · exfalso; omega
    · refine zwW_p [(1, 0, 2), (1, 1, 0), (0, 8, 0)] (q := 13) (ls' := [(2, 37), (0, a), (9, 0)]) (st' := [(0, 8), (0, a), (2, 37)]) (by decide +kernel) rfl ?_
      refine zwic_ge (q := 20) (nx := 16) (by decide +kernel) (fun c3 => ?_) (fun c3 => ?_)
      · refine zwW_p [(0, 0, 0)] (q := 21) (ls' := [(2, 37), (0, a), (9, 0)]) (st' := [(0, 0), (2, 37)]) (by decide +kernel) rfl ?_
        refine zwW_cm I (op := 60) (k' := 247) (n := 1) (kd := 13) (m := 97) (nx := 24) (r := 37) (tl := [(0, 0)]) (st' := []) (by decide +kernel) rfl (by decide +kernel) (Nat.ble_eq_true_of_le (by omega)) (m247 h I 0 hP) ?_
        rintro x h4 ⟨Ih4, Qh4, ⟨rfl, f5, f6, f7, f8⟩ | ⟨rfl, f9, f10, f11⟩⟩
        · exfalso; omega
        · have Rh4 : zMR msP h h4 := R.tr Qh4 (by decide +kernel)
          have zf10 := f10; unfold zP0 at zf10
          refine zwif_eq (q := 54) (nx := 27) (by decide +kernel) (fun c12 => ?_) (fun c12 => ?_)
          · refine zwW_p [(0, 0, 0)] (q := 55) (ls' := [(2, 37), (0, a), (9, 0)]) (st' := [(0, 0)]) (by decide +kernel) rfl ?_
            refine zwW_ret (nx := 56) (a := 1) (b := 0) (by decide +kernel) rfl (Or.inr (Or.inl ⟨rfl, by omega⟩)) ?_
            exact ⟨Ih4, Rh4, by exact f10, Or.inr ⟨rfl, by omega⟩⟩
          · exfalso; omega
      · refine zwW_p [(0, 1, 0), (24, 21, 0)] (q := 21) (ls' := [(2, 37), (0, a), (9, 0)]) (st' := [(0, 1), (2, 37)]) (by decide +kernel) rfl ?_
        refine zwW_cm I (op := 60) (k' := 247) (n := 1) (kd := 13) (m := 97) (nx := 24) (r := 37) (tl := [(0, 1)]) (st' := []) (by decide +kernel) rfl (by decide +kernel) (Nat.ble_eq_true_of_le (by omega)) (m247 h I 1 hP) ?_
        rintro x h13 ⟨Ih13, Qh13, ⟨rfl, f14, f15, f16, f17⟩ | ⟨rfl, f18, f19, f20⟩⟩
        · have Rh13 : zMR msP h h13 := R.tr Qh13 (by decide +kernel)
          have zf15 := f15; unfold zP0 at zf15
          have Kh13 := Qh13.kp (by decide +kernel)
          have N21 : zNu h h13 := zNu.mr I pc Qh13 (by decide +kernel) (by omega) (by omega)
          have hh21 := Qh13
          refine zwif_eq (q := 54) (nx := 27) (by decide +kernel) (fun c21 => ?_) (fun c21 => ?_)
          · exfalso; omega
          · refine zwW_p [(1, 0, 2), (1, 1, 0), (0, 1, 0)] (q := 30) (ls' := [(2, 37), (0, a), (9, 0)]) (st' := [(0, 1), (0, a), (2, 37)]) (by decide +kernel) rfl ?_
            refine zwW_add (nx := 31) (by decide +kernel) ⟨by omega, by omega⟩ ?_
            refine zwW_cm Ih13 (op := 60) (k' := 248) (n := 1) (kd := 13) (m := 97) (nx := 34) (r := 37) (tl := [(0, (a + 1))]) (st' := []) (by decide +kernel) rfl (by decide +kernel) (Nat.ble_eq_true_of_le (by omega)) (HS (by omega) h13 Ih13 f15 (by omega) (by omega)) ?_
            rintro x h22 ⟨Ih22, Qh22, f23, ⟨rfl, f24⟩ | ⟨rfl, f25⟩⟩
            · have Rh22 : zMR msP h h22 := Rh13.tr Qh22 (by decide +kernel)
              have zf23 := f23; unfold zP0 at zf23
              have Sh22 := f24.k Qh22
              have W31 := f24
              refine zwif_eq (q := 54) (nx := 37) (by decide +kernel) (fun c26 => ?_) (fun c26 => ?_)
              · exfalso; omega
              · refine zwW_p [(1, 0, 2), (1, 0, 2), (0, 41, 0)] (q := 41) (ls' := [(2, 37), (0, a), (9, 0)]) (st' := [(0, 41), (2, 37), (2, 37)]) (by decide +kernel) rfl ?_
                refine zwW_cm Ih22 (op := 60) (k' := 250) (n := 1) (kd := 13) (m := 97) (nx := 44) (r := 37) (tl := [(0, 41)]) (st' := [(2, 37)]) (by decide +kernel) rfl (by decide +kernel) (Nat.ble_eq_true_of_le (by omega)) (m250 h22 Ih22 41) ?_
                rintro x _ ⟨rfl, ⟨rfl, c27⟩ | ⟨rfl, c27⟩⟩
                · refine zwW_cm Ih22 (op := 60) (k' := 247) (n := 1) (kd := 13) (m := 97) (nx := 47) (r := 37) (tl := [(0, 1)]) (st' := []) (by decide +kernel) rfl (by decide +kernel) (Nat.ble_eq_true_of_le (by omega)) (m247 h22 Ih22 1 f23) ?_
                  rintro x h28 ⟨Ih28, Qh28, ⟨rfl, f29, f30, f31, f32⟩ | ⟨rfl, f33, f34, f35⟩⟩
                  · have Rh28 : zMR msP h h28 := Rh22.tr Qh28 (by decide +kernel)
                    have zf30 := f30; unfold zP0 at zf30
                    have Kh28 := Qh28.kp (by decide +kernel)
                    have N44 : zNu h22 h28 := zNu.mr Ih22 (by omega) Qh28 (by decide +kernel) (by omega) (by omega)
                    have Z : zPS h h28 := (W31.pre N21).post (by omega) N44
                    refine zwif_eq (q := 54) (nx := 50) (by decide +kernel) (fun c36 => ?_) (fun c36 => ?_)
                    · exfalso; omega
                    · refine zwW_p [(0, 1, 0), (24, 55, 0)] (q := 55) (ls' := [(2, 37), (0, a), (9, 0)]) (st' := [(0, 1)]) (by decide +kernel) rfl ?_
                      refine zwW_ret (nx := 56) (a := 1) (b := 0) (by decide +kernel) rfl (Or.inr (Or.inl ⟨rfl, by omega⟩)) ?_
                      exact ⟨Ih28, Rh28, by exact f30, Or.inl ⟨rfl, by exact Z⟩⟩
                  · exfalso; omega
                · refine zwW_cm Ih22 (op := 60) (k' := 247) (n := 1) (kd := 13) (m := 97) (nx := 47) (r := 37) (tl := [(0, 0)]) (st' := []) (by decide +kernel) rfl (by decide +kernel) (Nat.ble_eq_true_of_le (by omega)) (m247 h22 Ih22 0 f23) ?_
                  rintro x h37 ⟨Ih37, Qh37, ⟨rfl, f38, f39, f40, f41⟩ | ⟨rfl, f42, f43, f44⟩⟩
                  · exfalso; omega
                  · have Rh37 : zMR msP h h37 := Rh22.tr Qh37 (by decide +kernel)
                    have zf43 := f43; unfold zP0 at zf43
                    refine zwif_eq (q := 54) (nx := 50) (by decide +kernel) (fun c45 => ?_) (fun c45 => ?_)
                    · refine zwW_p [(0, 0, 0)] (q := 55) (ls' := [(2, 37), (0, a), (9, 0)]) (st' := [(0, 0)]) (by decide +kernel) rfl ?_
                      refine zwW_ret (nx := 56) (a := 1) (b := 0) (by decide +kernel) rfl (Or.inr (Or.inl ⟨rfl, by omega⟩)) ?_
                      exact ⟨Ih37, Rh37, by exact f43, Or.inr ⟨rfl, by omega⟩⟩
                    · exfalso; omega
            · have Rh22 : zMR msP h h22 := Rh13.tr Qh22 (by decide +kernel)
              have zf23 := f23; unfold zP0 at zf23
              refine zwif_eq (q := 54) (nx := 37) (by decide +kernel) (fun c46 => ?_) (fun c46 => ?_)
              · refine zwW_p [(0, 0, 0)] (q := 55) (ls' := [(2, 37), (0, a), (9, 0)]) (st' := [(0, 0)]) (by decide +kernel) rfl ?_
                refine zwW_ret (nx := 56) (a := 1) (b := 0) (by decide +kernel) rfl (Or.inr (Or.inl ⟨rfl, by omega⟩)) ?_
                exact ⟨Ih22, Rh22, by exact f23, Or.inr ⟨rfl, by omega⟩⟩
              · exfalso; omega
        · exfalso; omega
  · refine zwif_eq (q := 56) (nx := 9) (by decide +kernel) (fun c47 => ?_) (fun c47 => ?_)
    · refine zwW_p [(1, 0, 2)] (q := 57) (ls' := [(2, 37), (0, a), (9, 0)]) (st' := [(2, 37)]) (by decide +kernel) rfl ?_
      refine zwW_cm I (op := 60) (k' := 296) (n := 0) (kd := 13) (m := 97) (nx := 60) (r := 37) (tl := []) (st' := []) (by decide +kernel) rfl (by decide +kernel) (Nat.ble_eq_true_of_le (by omega)) (m296 h I hP) ?_
      rintro x h48 ⟨Ih48, Qh48, ⟨rfl, f49⟩ | rfl⟩
      · have Rh48 : zMR msP h h48 := R.tr Qh48 (by decide +kernel)
        have Ph48 := hP.mr Qh48 (by decide +kernel)
        have zPh48 := Ph48; unfold zP0 at zPh48
        have Kh48 := Qh48.kp (by decide +kernel)
        have N57 : zNu h h48 := zNu.mr I pc Qh48 (by decide +kernel) (Qh48.f1 44 (by decide +kernel)) (Int.le_of_eq (Qh48.f1 42 (by decide +kernel)).symm)
        have M57 := Qh48.f1 42 (by decide +kernel)
        refine zwif_eq (q := 103) (nx := 63) (by decide +kernel) (fun c50 => ?_) (fun c50 => ?_)
        · exfalso; omega
        · refine zwW_p [(1, 0, 2)] (q := 64) (ls' := [(2, 37), (0, a), (9, 0)]) (st' := [(2, 37)]) (by decide +kernel) rfl ?_
          refine zwW_gs Ih48 (kd := 13) (bn := 46) (n := 97) (t := 0) (lo := -2147483648) (hi := 2147483647) (nx := 67) (by decide +kernel) ?_
          intro v51 ev51 lv51 uv51
          refine zwW_p [(2, 2, 0), (1, 0, 2), (1, 2, 0), (0, 9999, 0)] (q := 73) (ls' := [(2, 37), (0, a), (0, v51)]) (st' := [(0, 9999), (0, v51), (2, 37)]) (by decide +kernel) rfl ?_
          refine zwic_gt (q := 80) (nx := 76) (by decide +kernel) (fun c52 => ?_) (fun c52 => ?_)
          · refine zwW_p [(0, 0, 0)] (q := 81) (ls' := [(2, 37), (0, a), (0, v51)]) (st' := [(0, 0), (2, 37)]) (by decide +kernel) rfl ?_
            refine zwW_cm Ih48 (op := 60) (k' := 247) (n := 1) (kd := 13) (m := 97) (nx := 84) (r := 37) (tl := [(0, 0)]) (st' := []) (by decide +kernel) rfl (by decide +kernel) (Nat.ble_eq_true_of_le (by omega)) (m247 h48 Ih48 0 Ph48) ?_
            rintro x h53 ⟨Ih53, Qh53, ⟨rfl, f54, f55, f56, f57⟩ | ⟨rfl, f58, f59, f60⟩⟩
            · exfalso; omega
            · have Rh53 : zMR msP h h53 := Rh48.tr Qh53 (by decide +kernel)
              have zf59 := f59; unfold zP0 at zf59
              refine zwif_eq (q := 101) (nx := 87) (by decide +kernel) (fun c61 => ?_) (fun c61 => ?_)
              · refine zwW_p [(0, 0, 0)] (q := 102) (ls' := [(2, 37), (0, a), (0, v51)]) (st' := [(0, 0)]) (by decide +kernel) rfl ?_
                refine zwW_ret (nx := 103) (a := 1) (b := 0) (by decide +kernel) rfl (Or.inr (Or.inl ⟨rfl, by omega⟩)) ?_
                exact ⟨Ih53, Rh53, by exact f59, Or.inr ⟨rfl, by omega⟩⟩
              · exfalso; omega
          · refine zwW_p [(0, 1, 0), (24, 81, 0)] (q := 81) (ls' := [(2, 37), (0, a), (0, v51)]) (st' := [(0, 1), (2, 37)]) (by decide +kernel) rfl ?_
            refine zwW_cm Ih48 (op := 60) (k' := 247) (n := 1) (kd := 13) (m := 97) (nx := 84) (r := 37) (tl := [(0, 1)]) (st' := []) (by decide +kernel) rfl (by decide +kernel) (Nat.ble_eq_true_of_le (by omega)) (m247 h48 Ih48 1 Ph48) ?_
            rintro x h62 ⟨Ih62, Qh62, ⟨rfl, f63, f64, f65, f66⟩ | ⟨rfl, f67, f68, f69⟩⟩
            · have Rh62 : zMR msP h h62 := Rh48.tr Qh62 (by decide +kernel)
              have zf64 := f64; unfold zP0 at zf64
              have Kh62 := Qh62.kp (by decide +kernel)
              have N81 := N57.tr (zNu.mr Ih48 (by omega) Qh62 (by decide +kernel) (by omega) (by omega))
              refine zwif_eq (q := 101) (nx := 87) (by decide +kernel) (fun c70 => ?_) (fun c70 => ?_)
              · exfalso; omega
              · refine zwW_p [(1, 0, 2), (0, 110, 0), (1, 2, 0)] (q := 91) (ls' := [(2, 37), (0, a), (0, v51)]) (st' := [(0, v51), (0, 110), (2, 37)]) (by decide +kernel) rfl ?_
                refine zwW_cm Ih62 (op := 60) (k' := 270) (n := 2) (kd := 13) (m := 97) (nx := 94) (r := 37) (tl := [(0, 110), (0, v51)]) (st' := []) (by decide +kernel) rfl (by decide +kernel) (Nat.ble_eq_true_of_le (by omega)) (m270 h62 Ih62 110 v51 (by omega) (by omega) (by omega) (by omega)) ?_
                rintro x h74 ⟨Ih74, Qh74, rfl, f71, f72, f73⟩
                have Rh74 : zMR msP h h74 := Rh62.tr Qh74 (by decide +kernel)
                have Ph74 := f64.mr Qh74 (by decide +kernel)
                have zPh74 := Ph74; unfold zP0 at zPh74
                have Z : zPS h h74 := zPS_push (by omega) N81 (by omega) (zPu.of Qh74 f71 f72 f73) (by omega)
                refine zwif_eq (q := 101) (nx := 97) (by decide +kernel) (fun c75 => ?_) (fun c75 => ?_)
                · exfalso; omega
                · refine zwW_p [(0, 1, 0), (24, 102, 0)] (q := 102) (ls' := [(2, 37), (0, a), (0, v51)]) (st' := [(0, 1)]) (by decide +kernel) rfl ?_
                  refine zwW_ret (nx := 103) (a := 1) (b := 0) (by decide +kernel) rfl (Or.inr (Or.inl ⟨rfl, by omega⟩)) ?_
                  exact ⟨Ih74, Rh74, by exact Ph74, Or.inl ⟨rfl, by exact Z⟩⟩
            · exfalso; omega
      · have Rh48 : zMR msP h h48 := R.tr Qh48 (by decide +kernel)
        have Ph48 := hP.mr Qh48 (by decide +kernel)
        have zPh48 := Ph48; unfold zP0 at zPh48
        have Kh48 := Qh48.kp (by decide +kernel)
        have N57 : zNu h h48 := zNu.mr I pc Qh48 (by decide +kernel) (Qh48.f1 44 (by decide +kernel)) (Int.le_of_eq (Qh48.f1 42 (by decide +kernel)).symm)
        have M57 := Qh48.f1 42 (by decide +kernel)
        refine zwif_eq (q := 103) (nx := 63) (by decide +kernel) (fun c76 => ?_) (fun c76 => ?_)
        · refine zwW_p [(0, 0, 0), (2, 2, 0)] (q := 105) (ls' := [(2, 37), (0, a), (0, 0)]) (st' := []) (by decide +kernel) rfl ?_
          have L77 : ∀ (n : Nat) (kL77 : Int), n = ((1000 - kL77)).toNat → (0 ≤ kL77 ∧ kL77 ≤ 13) → zwW sc (D0 + 19) 285 105 [(2, 37), (0, a), (0, kL77)] [] h48 (zwRt 0 (zPQ h)) := by
            intro n
            induction n using Nat.strongRecOn with
            | ind n IHL77 =>
              intro kL77 hnL77 iL77_0
              refine zwW_p [(1, 2, 0), (0, 13, 0)] (q := 108) (ls' := [(2, 37), (0, a), (0, kL77)]) (st' := [(0, 13), (0, kL77)]) (by decide +kernel) rfl ?_
              refine zwic_ge (q := 154) (nx := 111) (by decide +kernel) (fun c78 => ?_) (fun c78 => ?_)
              · refine zwW_p [(1, 0, 2)] (q := 155) (ls' := [(2, 37), (0, a), (0, kL77)]) (st' := [(2, 37)]) (by decide +kernel) rfl ?_
                refine zwW_cm Ih48 (op := 60) (k' := 267) (n := 0) (kd := 13) (m := 97) (nx := 158) (r := 37) (tl := []) (st' := []) (by decide +kernel) rfl (by decide +kernel) (Nat.ble_eq_true_of_le (by omega)) (m267 h48 Ih48) ?_
                rintro x h80 ⟨Ih80, Qh80, rfl, f79⟩
                have Rh80 : zMR msP h h80 := Rh48.tr Qh80 (by decide +kernel)
                have Ph80 := Ph48.mr Qh80 (by decide +kernel)
                have zPh80 := Ph80; unfold zP0 at zPh80
                refine zwW_ret (nx := 159) (a := 1) (b := 0) (by decide +kernel) rfl (Or.inr (Or.inl ⟨rfl, by omega⟩)) ?_
                exact ⟨Ih80, Rh80, by exact Ph80, Or.inr ⟨rfl, by omega⟩⟩
              · refine zwW_p [(1, 0, 2), (1, 0, 2)] (q := 113) (ls' := [(2, 37), (0, a), (0, kL77)]) (st' := [(2, 37), (2, 37)]) (by decide +kernel) rfl ?_
                refine zwW_gc Ih48 (kd := 13) (bn := 55) (n := 97) (c := 167) (nx := 116) (by decide +kernel) ?_
                refine zwW_p [(1, 2, 0)] (q := 117) (ls' := [(2, 37), (0, a), (0, kL77)]) (st' := [(0, kL77), (2, 167), (2, 37)]) (by decide +kernel) rfl ?_
                refine zwW_wd13 Ih48 (nx := 118) (by decide +kernel) ⟨by omega, by omega⟩ ?_
                refine zwW_cm Ih48 (op := 60) (k' := 246) (n := 1) (kd := 13) (m := 97) (nx := 121) (r := 37) (tl := [(2, (-17 - kL77))]) (st' := []) (by decide +kernel) rfl (by decide +kernel) (Nat.ble_eq_true_of_le (by omega)) (m246 h48 Ih48 (-17 - kL77) (by omega) Ph48) ?_
                rintro x _ ⟨rfl, ⟨rfl, c81⟩ | ⟨rfl, c81⟩⟩
                · refine zwif_eq (q := 148) (nx := 124) (by decide +kernel) (fun c82 => ?_) (fun c82 => ?_)
                  · exfalso; omega
                  · refine zwW_p [(1, 0, 2), (0, 1, 0)] (q := 126) (ls' := [(2, 37), (0, a), (0, kL77)]) (st' := [(0, 1), (2, 37)]) (by decide +kernel) rfl ?_
                    refine zwW_cm Ih48 (op := 60) (k' := 247) (n := 1) (kd := 13) (m := 97) (nx := 129) (r := 37) (tl := [(0, 1)]) (st' := []) (by decide +kernel) rfl (by decide +kernel) (Nat.ble_eq_true_of_le (by omega)) (m247 h48 Ih48 1 Ph48) ?_
                    rintro x h83 ⟨Ih83, Qh83, ⟨rfl, f84, f85, f86, f87⟩ | ⟨rfl, f88, f89, f90⟩⟩
                    · have Rh83 : zMR msP h h83 := Rh48.tr Qh83 (by decide +kernel)
                      have zf85 := f85; unfold zP0 at zf85
                      have Kh83 := Qh83.kp (by decide +kernel)
                      have N126 : zNu h h83 := N57.tr (zNu.mr Ih48 (by omega) Qh83 (by decide +kernel) (by omega) (by omega))
                      refine zwif_eq (q := 146) (nx := 132) (by decide +kernel) (fun c91 => ?_) (fun c91 => ?_)
                      · exfalso; omega
                      · refine zwW_p [(1, 0, 2), (0, 118, 0), (1, 2, 0)] (q := 136) (ls' := [(2, 37), (0, a), (0, kL77)]) (st' := [(0, kL77), (0, 118), (2, 37)]) (by decide +kernel) rfl ?_
                        refine zwW_cm Ih83 (op := 60) (k' := 270) (n := 2) (kd := 13) (m := 97) (nx := 139) (r := 37) (tl := [(0, 118), (0, kL77)]) (st' := []) (by decide +kernel) rfl (by decide +kernel) (Nat.ble_eq_true_of_le (by omega)) (m270 h83 Ih83 118 kL77 (by omega) (by omega) (by omega) (by omega)) ?_
                        rintro x h95 ⟨Ih95, Qh95, rfl, f92, f93, f94⟩
                        have Rh95 : zMR msP h h95 := Rh83.tr Qh95 (by decide +kernel)
                        have Ph95 := f85.mr Qh95 (by decide +kernel)
                        have zPh95 := Ph95; unfold zP0 at zPh95
                        have Z : zPS h h95 := zPS_push (by omega) N126 (by omega) (zPu.of Qh95 f92 f93 f94) (by omega)
                        refine zwif_eq (q := 146) (nx := 142) (by decide +kernel) (fun c96 => ?_) (fun c96 => ?_)
                        · exfalso; omega
                        · refine zwW_p [(0, 1, 0), (24, 147, 0)] (q := 147) (ls' := [(2, 37), (0, a), (0, kL77)]) (st' := [(0, 1)]) (by decide +kernel) rfl ?_
                          refine zwW_ret (nx := 148) (a := 1) (b := 0) (by decide +kernel) rfl (Or.inr (Or.inl ⟨rfl, by omega⟩)) ?_
                          exact ⟨Ih95, Rh95, by exact Ph95, Or.inl ⟨rfl, by exact Z⟩⟩
                    · exfalso; omega
                · refine zwif_eq (q := 148) (nx := 124) (by decide +kernel) (fun c97 => ?_) (fun c97 => ?_)
                  · refine zwW_inc (i := 2) (c := 1) (x := kL77) (nx := 151) (by decide +kernel) rfl ⟨by omega, by omega⟩ (ls' := [(2, 37), (0, a), (0, (kL77 + 1))]) rfl ?_
                    refine zwW_p [(24, 105, 0)] (q := 105) (ls' := [(2, 37), (0, a), (0, (kL77 + 1))]) (st' := []) (by decide +kernel) rfl ?_
                    exact IHL77 ((1000 - (kL77 + 1))).toNat (by omega) (kL77 + 1) rfl (by omega)
                  · exfalso; omega
          exact L77 _ 0 rfl (by omega)
        · exfalso; omega
    · exfalso; omega
-- WheelLandModel.product(I)Z
theorem m269 {sc : List Int} (a : Int) (D0 : Nat) (pa : 0 ≤ a ∧ a ≤ 8) (HS : a < 8 → zPX sc D0 248 (a + 1)) : zPX sc (D0 + 21) 269 a := by
  intro h I hP pc pk
  have hP0 := hP
  unfold zP0 at hP0
  have bk := I.b (a1 := 37) (a2 := 37) (j1 := 45) (j2 := 46) (lo := 0) (hi := 400) (by decide +kernel) (r := 37) (j := 45) (by decide) (by decide) (by decide) (by decide)
  have bt := I.b (a1 := 37) (a2 := 37) (j1 := 41) (j2 := 42) (lo := 0) (hi := 400) (by decide +kernel) (r := 37) (j := 41) (by decide) (by decide) (by decide) (by decide)
  refine zwC_of (D := D0 + 20) 3 (by decide +kernel) rfl (ls := [(2, 37), (0, a), (9, 0)]) rfl ?_
  have R : zMR msP h h := zMR.rf _ _
  refine zwW_p [(1, 0, 2), (1, 1, 0)] (q := 2) (ls' := [(2, 37), (0, a), (9, 0)]) (st' := [(0, a), (2, 37)]) (by decide +kernel) rfl ?_
  refine zwW_cm I (op := 60) (k' := 285) (n := 1) (kd := 13) (m := 97) (nx := 5) (r := 37) (tl := [(0, a)]) (st' := []) (by decide +kernel) rfl (by decide +kernel) (Nat.ble_eq_true_of_le (by omega)) (m285 a D0 pa HS h I hP (by omega) (by omega)) ?_
  rintro x h1 ⟨Ih1, Qh1, f2, ⟨rfl, f3⟩ | ⟨rfl, f4⟩⟩
  · have Rh1 : zMR msP h h1 := R.tr Qh1 (by decide +kernel)
    have zf2 := f2; unfold zP0 at zf2
    have Sh1 := f3.k Qh1
    refine zwif_ne (q := 10) (nx := 8) (by decide +kernel) (fun c5 => ?_) (fun c5 => ?_)
    · have L6 : ∀ (n : Nat) (w2L6 : Vl) (hL6 : Hp), n = (fld hL6 37 41 - fld hL6 37 42).toNat → (zPS h hL6) → (zP0 hL6) → zI hL6 → zMR msP h hL6 → zwW sc (D0 + 20) 269 10 [(2, 37), (0, a), w2L6] [] hL6 (zwRt 0 (zPQ h)) := by
        intro n
        induction n using Nat.strongRecOn with
        | ind n IHL6 =>
          intro w2L6 hL6 hnL6 iL6_0 iL6_1 IhL6 RhL6
          have ShL6 := iL6_0.k RhL6
          have yhL6 := iL6_1; unfold zP0 at yhL6
          refine zwW_p [(1, 0, 2), (0, 42, 0)] (q := 13) (ls' := [(2, 37), (0, a), w2L6]) (st' := [(0, 42), (2, 37)]) (by decide +kernel) rfl ?_
          refine zwW_cm IhL6 (op := 60) (k' := 250) (n := 1) (kd := 13) (m := 97) (nx := 16) (r := 37) (tl := [(0, 42)]) (st' := []) (by decide +kernel) rfl (by decide +kernel) (Nat.ble_eq_true_of_le (by omega)) (m250 hL6 IhL6 42) ?_
          rintro x _ ⟨rfl, ⟨rfl, c7⟩ | ⟨rfl, c7⟩⟩
          · refine zwif_ne (q := 28) (nx := 19) (by decide +kernel) (fun c8 => ?_) (fun c8 => ?_)
            · refine zwW_p [(1, 0, 2)] (q := 29) (ls' := [(2, 37), (0, a), w2L6]) (st' := [(2, 37)]) (by decide +kernel) rfl ?_
              refine zwW_gc IhL6 (kd := 13) (bn := 40) (n := 97) (c := 98) (nx := 32) (by decide +kernel) ?_
              refine zwW_p [(1, 0, 2)] (q := 33) (ls' := [(2, 37), (0, a), w2L6]) (st' := [(2, 37), (2, 98)]) (by decide +kernel) rfl ?_
              refine zwW_gs IhL6 (kd := 13) (bn := 42) (n := 97) (t := 0) (lo := 0) (hi := 400) (nx := 36) (by decide +kernel) ?_
              intro v9 ev9 lv9 uv9
              have X36 : v9 = fld hL6 37 42 := by omega
              refine zwW_al IhL6 (a1 := 98) (a2 := 98) (kd := 21) (n := 400) (t := 0) (lo := -128) (hi := 127) (nx := 37) (by decide +kernel) ⟨by decide, by decide⟩ ⟨by omega, by omega⟩ ?_
              intro v10 ev10 lv10 uv10
              have G37 : v10 = fld hL6 98 (fld hL6 37 42).toNat := by rw [ev10, X36]
              refine zwW_p [(2, 2, 0), (1, 0, 2)] (q := 39) (ls' := [(2, 37), (0, a), (0, v10)]) (st' := [(2, 37)]) (by decide +kernel) rfl ?_
              refine zwW_cmv IhL6 (op := 60) (k' := 268) (n := 0) (kd := 13) (m := 97) (nx := 42) (r := 37) (tl := []) (st' := []) (by decide +kernel) rfl (by decide +kernel) (Nat.ble_eq_true_of_le (by omega)) (m268 hL6 IhL6 iL6_1) ?_
              rintro h13 ⟨Ih13, Qh13, f11, f12⟩
              have Rh13 : zMR msP h h13 := RhL6.tr Qh13 (by decide +kernel)
              have zf12 := f12; unfold zP0 at zf12
              have Kh13 := Qh13.kp (by decide +kernel)
              have N39 : zNu hL6 h13 := zNu.mr IhL6 (by omega) Qh13 (by decide +kernel) (Qh13.f1 44 (by decide +kernel)) (by omega)
              refine zwW_p [(1, 0, 2), (1, 1, 0)] (q := 44) (ls' := [(2, 37), (0, a), (0, v10)]) (st' := [(0, a), (2, 37)]) (by decide +kernel) rfl ?_
              refine zwW_cm Ih13 (op := 60) (k' := 285) (n := 1) (kd := 13) (m := 97) (nx := 47) (r := 37) (tl := [(0, a)]) (st' := []) (by decide +kernel) rfl (by decide +kernel) (Nat.ble_eq_true_of_le (by omega)) (m285 a D0 pa HS h13 Ih13 f12 (by omega) (by omega)) ?_
              rintro x h14 ⟨Ih14, Qh14, f15, ⟨rfl, f16⟩ | ⟨rfl, f17⟩⟩
              · have Rh14 : zMR msP h h14 := Rh13.tr Qh14 (by decide +kernel)
                have zf15 := f15; unfold zP0 at zf15
                have Sh14 := f16.k Qh14
                have W44 := f16
                refine zwif_ne (q := 52) (nx := 50) (by decide +kernel) (fun c18 => ?_) (fun c18 => ?_)
                · refine zwW_p [(1, 0, 2), (1, 2, 0), (0, 0, 0)] (q := 55) (ls' := [(2, 37), (0, a), (0, v10)]) (st' := [(0, 0), (0, v10), (2, 37)]) (by decide +kernel) rfl ?_
                  refine zwW_cm Ih14 (op := 60) (k' := 270) (n := 2) (kd := 13) (m := 97) (nx := 58) (r := 37) (tl := [(0, v10), (0, 0)]) (st' := []) (by decide +kernel) rfl (by decide +kernel) (Nat.ble_eq_true_of_le (by omega)) (m270 h14 Ih14 v10 0 (by omega) (by omega) (by omega) (by omega)) ?_
                  rintro x h22 ⟨Ih22, Qh22, rfl, f19, f20, f21⟩
                  have Rh22 : zMR msP h h22 := Rh14.tr Qh22 (by decide +kernel)
                  have Ph22 := f15.mr Qh22 (by decide +kernel)
                  have zPh22 := Ph22; unfold zP0 at zPh22
                  have Z55 : zPS h h22 := zPS_bin (by omega) (by omega) iL6_0 N39 (by omega) W44 (by omega) (zPu.of Qh22 f19 f20 f21) (by omega)
                  have Sh22 := Z55.k Rh22
                  have Th22 := Qh22.f1 42 (by decide +kernel)
                  refine zwW_p [(15, 0, 0), (24, 10, 0)] (q := 10) (ls' := [(2, 37), (0, a), (0, v10)]) (st' := []) (by decide +kernel) rfl ?_
                  exact IHL6 (fld h22 37 41 - fld h22 37 42).toNat (by omega) (0, v10) h22 rfl (Z55) (Ph22) Ih22 Rh22
                · exfalso; omega
              · have Rh14 : zMR msP h h14 := Rh13.tr Qh14 (by decide +kernel)
                have zf15 := f15; unfold zP0 at zf15
                refine zwif_ne (q := 52) (nx := 50) (by decide +kernel) (fun c23 => ?_) (fun c23 => ?_)
                · exfalso; omega
                · refine zwW_p [(0, 0, 0)] (q := 51) (ls' := [(2, 37), (0, a), (0, v10)]) (st' := [(0, 0)]) (by decide +kernel) rfl ?_
                  refine zwW_ret (nx := 52) (a := 1) (b := 0) (by decide +kernel) rfl (Or.inr (Or.inl ⟨rfl, by omega⟩)) ?_
                  exact ⟨Ih14, Rh14, by exact f15, Or.inr ⟨rfl, by omega⟩⟩
            · exfalso; omega
          · refine zwif_ne (q := 28) (nx := 19) (by decide +kernel) (fun c24 => ?_) (fun c24 => ?_)
            · exfalso; omega
            · refine zwW_p [(1, 0, 2), (0, 47, 0)] (q := 22) (ls' := [(2, 37), (0, a), w2L6]) (st' := [(0, 47), (2, 37)]) (by decide +kernel) rfl ?_
              refine zwW_cm IhL6 (op := 60) (k' := 250) (n := 1) (kd := 13) (m := 97) (nx := 25) (r := 37) (tl := [(0, 47)]) (st' := []) (by decide +kernel) rfl (by decide +kernel) (Nat.ble_eq_true_of_le (by omega)) (m250 hL6 IhL6 47) ?_
              rintro x _ ⟨rfl, ⟨rfl, c25⟩ | ⟨rfl, c25⟩⟩
              · refine zwif_eq (q := 62) (nx := 28) (by decide +kernel) (fun c26 => ?_) (fun c26 => ?_)
                · exfalso; omega
                · refine zwW_p [(1, 0, 2)] (q := 29) (ls' := [(2, 37), (0, a), w2L6]) (st' := [(2, 37)]) (by decide +kernel) rfl ?_
                  refine zwW_gc IhL6 (kd := 13) (bn := 40) (n := 97) (c := 98) (nx := 32) (by decide +kernel) ?_
                  refine zwW_p [(1, 0, 2)] (q := 33) (ls' := [(2, 37), (0, a), w2L6]) (st' := [(2, 37), (2, 98)]) (by decide +kernel) rfl ?_
                  refine zwW_gs IhL6 (kd := 13) (bn := 42) (n := 97) (t := 0) (lo := 0) (hi := 400) (nx := 36) (by decide +kernel) ?_
                  intro v27 ev27 lv27 uv27
                  have X36 : v27 = fld hL6 37 42 := by omega
                  refine zwW_al IhL6 (a1 := 98) (a2 := 98) (kd := 21) (n := 400) (t := 0) (lo := -128) (hi := 127) (nx := 37) (by decide +kernel) ⟨by decide, by decide⟩ ⟨by omega, by omega⟩ ?_
                  intro v28 ev28 lv28 uv28
                  have G37 : v28 = fld hL6 98 (fld hL6 37 42).toNat := by rw [ev28, X36]
                  refine zwW_p [(2, 2, 0), (1, 0, 2)] (q := 39) (ls' := [(2, 37), (0, a), (0, v28)]) (st' := [(2, 37)]) (by decide +kernel) rfl ?_
                  refine zwW_cmv IhL6 (op := 60) (k' := 268) (n := 0) (kd := 13) (m := 97) (nx := 42) (r := 37) (tl := []) (st' := []) (by decide +kernel) rfl (by decide +kernel) (Nat.ble_eq_true_of_le (by omega)) (m268 hL6 IhL6 iL6_1) ?_
                  rintro h31 ⟨Ih31, Qh31, f29, f30⟩
                  have Rh31 : zMR msP h h31 := RhL6.tr Qh31 (by decide +kernel)
                  have zf30 := f30; unfold zP0 at zf30
                  have Kh31 := Qh31.kp (by decide +kernel)
                  have N39 : zNu hL6 h31 := zNu.mr IhL6 (by omega) Qh31 (by decide +kernel) (Qh31.f1 44 (by decide +kernel)) (by omega)
                  refine zwW_p [(1, 0, 2), (1, 1, 0)] (q := 44) (ls' := [(2, 37), (0, a), (0, v28)]) (st' := [(0, a), (2, 37)]) (by decide +kernel) rfl ?_
                  refine zwW_cm Ih31 (op := 60) (k' := 285) (n := 1) (kd := 13) (m := 97) (nx := 47) (r := 37) (tl := [(0, a)]) (st' := []) (by decide +kernel) rfl (by decide +kernel) (Nat.ble_eq_true_of_le (by omega)) (m285 a D0 pa HS h31 Ih31 f30 (by omega) (by omega)) ?_
                  rintro x h32 ⟨Ih32, Qh32, f33, ⟨rfl, f34⟩ | ⟨rfl, f35⟩⟩
                  · have Rh32 : zMR msP h h32 := Rh31.tr Qh32 (by decide +kernel)
                    have zf33 := f33; unfold zP0 at zf33
                    have Sh32 := f34.k Qh32
                    have W44 := f34
                    refine zwif_ne (q := 52) (nx := 50) (by decide +kernel) (fun c36 => ?_) (fun c36 => ?_)
                    · refine zwW_p [(1, 0, 2), (1, 2, 0), (0, 0, 0)] (q := 55) (ls' := [(2, 37), (0, a), (0, v28)]) (st' := [(0, 0), (0, v28), (2, 37)]) (by decide +kernel) rfl ?_
                      refine zwW_cm Ih32 (op := 60) (k' := 270) (n := 2) (kd := 13) (m := 97) (nx := 58) (r := 37) (tl := [(0, v28), (0, 0)]) (st' := []) (by decide +kernel) rfl (by decide +kernel) (Nat.ble_eq_true_of_le (by omega)) (m270 h32 Ih32 v28 0 (by omega) (by omega) (by omega) (by omega)) ?_
                      rintro x h40 ⟨Ih40, Qh40, rfl, f37, f38, f39⟩
                      have Rh40 : zMR msP h h40 := Rh32.tr Qh40 (by decide +kernel)
                      have Ph40 := f33.mr Qh40 (by decide +kernel)
                      have zPh40 := Ph40; unfold zP0 at zPh40
                      have Z55 : zPS h h40 := zPS_bin (by omega) (by omega) iL6_0 N39 (by omega) W44 (by omega) (zPu.of Qh40 f37 f38 f39) (by omega)
                      have Sh40 := Z55.k Rh40
                      have Th40 := Qh40.f1 42 (by decide +kernel)
                      refine zwW_p [(15, 0, 0), (24, 10, 0)] (q := 10) (ls' := [(2, 37), (0, a), (0, v28)]) (st' := []) (by decide +kernel) rfl ?_
                      exact IHL6 (fld h40 37 41 - fld h40 37 42).toNat (by omega) (0, v28) h40 rfl (Z55) (Ph40) Ih40 Rh40
                    · exfalso; omega
                  · have Rh32 : zMR msP h h32 := Rh31.tr Qh32 (by decide +kernel)
                    have zf33 := f33; unfold zP0 at zf33
                    refine zwif_ne (q := 52) (nx := 50) (by decide +kernel) (fun c41 => ?_) (fun c41 => ?_)
                    · exfalso; omega
                    · refine zwW_p [(0, 0, 0)] (q := 51) (ls' := [(2, 37), (0, a), (0, v28)]) (st' := [(0, 0)]) (by decide +kernel) rfl ?_
                      refine zwW_ret (nx := 52) (a := 1) (b := 0) (by decide +kernel) rfl (Or.inr (Or.inl ⟨rfl, by omega⟩)) ?_
                      exact ⟨Ih32, Rh32, by exact f33, Or.inr ⟨rfl, by omega⟩⟩
              · refine zwif_eq (q := 62) (nx := 28) (by decide +kernel) (fun c42 => ?_) (fun c42 => ?_)
                · have Z := iL6_0
                  refine zwW_p [(0, 1, 0)] (q := 63) (ls' := [(2, 37), (0, a), w2L6]) (st' := [(0, 1)]) (by decide +kernel) rfl ?_
                  refine zwW_ret (nx := 64) (a := 1) (b := 0) (by decide +kernel) rfl (Or.inr (Or.inl ⟨rfl, by omega⟩)) ?_
                  exact ⟨IhL6, RhL6, by exact iL6_1, Or.inl ⟨rfl, by exact Z⟩⟩
                · exfalso; omega
      exact L6 _ (9, 0) h1 rfl (f3) (f2) Ih1 Rh1
    · exfalso; omega
  · have Rh1 : zMR msP h h1 := R.tr Qh1 (by decide +kernel)
    have zf2 := f2; unfold zP0 at zf2
    refine zwif_ne (q := 10) (nx := 8) (by decide +kernel) (fun c43 => ?_) (fun c43 => ?_)
    · exfalso; omega
    · refine zwW_p [(0, 0, 0)] (q := 9) (ls' := [(2, 37), (0, a), (9, 0)]) (st' := [(0, 0)]) (by decide +kernel) rfl ?_
      refine zwW_ret (nx := 10) (a := 1) (b := 0) (by decide +kernel) rfl (Or.inr (Or.inl ⟨rfl, by omega⟩)) ?_
      exact ⟨Ih1, Rh1, by exact f2, Or.inr ⟨rfl, by omega⟩⟩
-- WheelLandModel.sum(I)Z
theorem m248 {sc : List Int} (a : Int) (D0 : Nat) (pa : 0 ≤ a ∧ a ≤ 8) (HS : a < 8 → zPX sc D0 248 (a + 1)) : zPX sc (D0 + 22) 248 a := by
  intro h I hP pc pk
  have hP0 := hP
  unfold zP0 at hP0
  have bk := I.b (a1 := 37) (a2 := 37) (j1 := 45) (j2 := 46) (lo := 0) (hi := 400) (by decide +kernel) (r := 37) (j := 45) (by decide) (by decide) (by decide) (by decide)
  have bt := I.b (a1 := 37) (a2 := 37) (j1 := 41) (j2 := 42) (lo := 0) (hi := 400) (by decide +kernel) (r := 37) (j := 41) (by decide) (by decide) (by decide) (by decide)
  refine zwC_of (D := D0 + 21) 3 (by decide +kernel) rfl (ls := [(2, 37), (0, a), (9, 0)]) rfl ?_
  have R : zMR msP h h := zMR.rf _ _
  refine zwW_p [(1, 0, 2), (1, 1, 0)] (q := 2) (ls' := [(2, 37), (0, a), (9, 0)]) (st' := [(0, a), (2, 37)]) (by decide +kernel) rfl ?_
  refine zwW_cm I (op := 60) (k' := 269) (n := 1) (kd := 13) (m := 97) (nx := 5) (r := 37) (tl := [(0, a)]) (st' := []) (by decide +kernel) rfl (by decide +kernel) (Nat.ble_eq_true_of_le (by omega)) (m269 a D0 pa HS h I hP (by omega) (by omega)) ?_
  rintro x h1 ⟨Ih1, Qh1, f2, ⟨rfl, f3⟩ | ⟨rfl, f4⟩⟩
  · have Rh1 : zMR msP h h1 := R.tr Qh1 (by decide +kernel)
    have zf2 := f2; unfold zP0 at zf2
    have Sh1 := f3.k Qh1
    refine zwif_ne (q := 10) (nx := 8) (by decide +kernel) (fun c5 => ?_) (fun c5 => ?_)
    · have L6 : ∀ (n : Nat) (w2L6 : Vl) (hL6 : Hp), n = (fld hL6 37 41 - fld hL6 37 42).toNat → (zPS h hL6) → (zP0 hL6) → zI hL6 → zMR msP h hL6 → zwW sc (D0 + 21) 248 10 [(2, 37), (0, a), w2L6] [] hL6 (zwRt 0 (zPQ h)) := by
        intro n
        induction n using Nat.strongRecOn with
        | ind n IHL6 =>
          intro w2L6 hL6 hnL6 iL6_0 iL6_1 IhL6 RhL6
          have ShL6 := iL6_0.k RhL6
          have yhL6 := iL6_1; unfold zP0 at yhL6
          refine zwW_p [(1, 0, 2), (0, 43, 0)] (q := 13) (ls' := [(2, 37), (0, a), w2L6]) (st' := [(0, 43), (2, 37)]) (by decide +kernel) rfl ?_
          refine zwW_cm IhL6 (op := 60) (k' := 250) (n := 1) (kd := 13) (m := 97) (nx := 16) (r := 37) (tl := [(0, 43)]) (st' := []) (by decide +kernel) rfl (by decide +kernel) (Nat.ble_eq_true_of_le (by omega)) (m250 hL6 IhL6 43) ?_
          rintro x _ ⟨rfl, ⟨rfl, c7⟩ | ⟨rfl, c7⟩⟩
          · refine zwif_ne (q := 28) (nx := 19) (by decide +kernel) (fun c8 => ?_) (fun c8 => ?_)
            · refine zwW_p [(1, 0, 2)] (q := 29) (ls' := [(2, 37), (0, a), w2L6]) (st' := [(2, 37)]) (by decide +kernel) rfl ?_
              refine zwW_gc IhL6 (kd := 13) (bn := 40) (n := 97) (c := 98) (nx := 32) (by decide +kernel) ?_
              refine zwW_p [(1, 0, 2)] (q := 33) (ls' := [(2, 37), (0, a), w2L6]) (st' := [(2, 37), (2, 98)]) (by decide +kernel) rfl ?_
              refine zwW_gs IhL6 (kd := 13) (bn := 42) (n := 97) (t := 0) (lo := 0) (hi := 400) (nx := 36) (by decide +kernel) ?_
              intro v9 ev9 lv9 uv9
              have X36 : v9 = fld hL6 37 42 := by omega
              refine zwW_al IhL6 (a1 := 98) (a2 := 98) (kd := 21) (n := 400) (t := 0) (lo := -128) (hi := 127) (nx := 37) (by decide +kernel) ⟨by decide, by decide⟩ ⟨by omega, by omega⟩ ?_
              intro v10 ev10 lv10 uv10
              have G37 : v10 = fld hL6 98 (fld hL6 37 42).toNat := by rw [ev10, X36]
              refine zwW_p [(2, 2, 0), (1, 0, 2)] (q := 39) (ls' := [(2, 37), (0, a), (0, v10)]) (st' := [(2, 37)]) (by decide +kernel) rfl ?_
              refine zwW_cmv IhL6 (op := 60) (k' := 268) (n := 0) (kd := 13) (m := 97) (nx := 42) (r := 37) (tl := []) (st' := []) (by decide +kernel) rfl (by decide +kernel) (Nat.ble_eq_true_of_le (by omega)) (m268 hL6 IhL6 iL6_1) ?_
              rintro h13 ⟨Ih13, Qh13, f11, f12⟩
              have Rh13 : zMR msP h h13 := RhL6.tr Qh13 (by decide +kernel)
              have zf12 := f12; unfold zP0 at zf12
              have Kh13 := Qh13.kp (by decide +kernel)
              have N39 : zNu hL6 h13 := zNu.mr IhL6 (by omega) Qh13 (by decide +kernel) (Qh13.f1 44 (by decide +kernel)) (by omega)
              refine zwW_p [(1, 0, 2), (1, 1, 0)] (q := 44) (ls' := [(2, 37), (0, a), (0, v10)]) (st' := [(0, a), (2, 37)]) (by decide +kernel) rfl ?_
              refine zwW_cm Ih13 (op := 60) (k' := 269) (n := 1) (kd := 13) (m := 97) (nx := 47) (r := 37) (tl := [(0, a)]) (st' := []) (by decide +kernel) rfl (by decide +kernel) (Nat.ble_eq_true_of_le (by omega)) (m269 a D0 pa HS h13 Ih13 f12 (by omega) (by omega)) ?_
              rintro x h14 ⟨Ih14, Qh14, f15, ⟨rfl, f16⟩ | ⟨rfl, f17⟩⟩
              · have Rh14 : zMR msP h h14 := Rh13.tr Qh14 (by decide +kernel)
                have zf15 := f15; unfold zP0 at zf15
                have Sh14 := f16.k Qh14
                have W44 := f16
                refine zwif_ne (q := 52) (nx := 50) (by decide +kernel) (fun c18 => ?_) (fun c18 => ?_)
                · refine zwW_p [(1, 0, 2), (1, 2, 0), (0, 0, 0)] (q := 55) (ls' := [(2, 37), (0, a), (0, v10)]) (st' := [(0, 0), (0, v10), (2, 37)]) (by decide +kernel) rfl ?_
                  refine zwW_cm Ih14 (op := 60) (k' := 270) (n := 2) (kd := 13) (m := 97) (nx := 58) (r := 37) (tl := [(0, v10), (0, 0)]) (st' := []) (by decide +kernel) rfl (by decide +kernel) (Nat.ble_eq_true_of_le (by omega)) (m270 h14 Ih14 v10 0 (by omega) (by omega) (by omega) (by omega)) ?_
                  rintro x h22 ⟨Ih22, Qh22, rfl, f19, f20, f21⟩
                  have Rh22 : zMR msP h h22 := Rh14.tr Qh22 (by decide +kernel)
                  have Ph22 := f15.mr Qh22 (by decide +kernel)
                  have zPh22 := Ph22; unfold zP0 at zPh22
                  have Z55 : zPS h h22 := zPS_bin (by omega) (by omega) iL6_0 N39 (by omega) W44 (by omega) (zPu.of Qh22 f19 f20 f21) (by omega)
                  have Sh22 := Z55.k Rh22
                  have Th22 := Qh22.f1 42 (by decide +kernel)
                  refine zwW_p [(15, 0, 0), (24, 10, 0)] (q := 10) (ls' := [(2, 37), (0, a), (0, v10)]) (st' := []) (by decide +kernel) rfl ?_
                  exact IHL6 (fld h22 37 41 - fld h22 37 42).toNat (by omega) (0, v10) h22 rfl (Z55) (Ph22) Ih22 Rh22
                · exfalso; omega
              · have Rh14 : zMR msP h h14 := Rh13.tr Qh14 (by decide +kernel)
                have zf15 := f15; unfold zP0 at zf15
                refine zwif_ne (q := 52) (nx := 50) (by decide +kernel) (fun c23 => ?_) (fun c23 => ?_)
                · exfalso; omega
                · refine zwW_p [(0, 0, 0)] (q := 51) (ls' := [(2, 37), (0, a), (0, v10)]) (st' := [(0, 0)]) (by decide +kernel) rfl ?_
                  refine zwW_ret (nx := 52) (a := 1) (b := 0) (by decide +kernel) rfl (Or.inr (Or.inl ⟨rfl, by omega⟩)) ?_
                  exact ⟨Ih14, Rh14, by exact f15, Or.inr ⟨rfl, by omega⟩⟩
            · exfalso; omega
          · refine zwif_ne (q := 28) (nx := 19) (by decide +kernel) (fun c24 => ?_) (fun c24 => ?_)
            · exfalso; omega
            · refine zwW_p [(1, 0, 2), (0, 45, 0)] (q := 22) (ls' := [(2, 37), (0, a), w2L6]) (st' := [(0, 45), (2, 37)]) (by decide +kernel) rfl ?_
              refine zwW_cm IhL6 (op := 60) (k' := 250) (n := 1) (kd := 13) (m := 97) (nx := 25) (r := 37) (tl := [(0, 45)]) (st' := []) (by decide +kernel) rfl (by decide +kernel) (Nat.ble_eq_true_of_le (by omega)) (m250 hL6 IhL6 45) ?_
              rintro x _ ⟨rfl, ⟨rfl, c25⟩ | ⟨rfl, c25⟩⟩
              · refine zwif_eq (q := 62) (nx := 28) (by decide +kernel) (fun c26 => ?_) (fun c26 => ?_)
                · exfalso; omega
                · refine zwW_p [(1, 0, 2)] (q := 29) (ls' := [(2, 37), (0, a), w2L6]) (st' := [(2, 37)]) (by decide +kernel) rfl ?_
                  refine zwW_gc IhL6 (kd := 13) (bn := 40) (n := 97) (c := 98) (nx := 32) (by decide +kernel) ?_
                  refine zwW_p [(1, 0, 2)] (q := 33) (ls' := [(2, 37), (0, a), w2L6]) (st' := [(2, 37), (2, 98)]) (by decide +kernel) rfl ?_
                  refine zwW_gs IhL6 (kd := 13) (bn := 42) (n := 97) (t := 0) (lo := 0) (hi := 400) (nx := 36) (by decide +kernel) ?_
                  intro v27 ev27 lv27 uv27
                  have X36 : v27 = fld hL6 37 42 := by omega
                  refine zwW_al IhL6 (a1 := 98) (a2 := 98) (kd := 21) (n := 400) (t := 0) (lo := -128) (hi := 127) (nx := 37) (by decide +kernel) ⟨by decide, by decide⟩ ⟨by omega, by omega⟩ ?_
                  intro v28 ev28 lv28 uv28
                  have G37 : v28 = fld hL6 98 (fld hL6 37 42).toNat := by rw [ev28, X36]
                  refine zwW_p [(2, 2, 0), (1, 0, 2)] (q := 39) (ls' := [(2, 37), (0, a), (0, v28)]) (st' := [(2, 37)]) (by decide +kernel) rfl ?_
                  refine zwW_cmv IhL6 (op := 60) (k' := 268) (n := 0) (kd := 13) (m := 97) (nx := 42) (r := 37) (tl := []) (st' := []) (by decide +kernel) rfl (by decide +kernel) (Nat.ble_eq_true_of_le (by omega)) (m268 hL6 IhL6 iL6_1) ?_
                  rintro h31 ⟨Ih31, Qh31, f29, f30⟩
                  have Rh31 : zMR msP h h31 := RhL6.tr Qh31 (by decide +kernel)
                  have zf30 := f30; unfold zP0 at zf30
                  have Kh31 := Qh31.kp (by decide +kernel)
                  have N39 : zNu hL6 h31 := zNu.mr IhL6 (by omega) Qh31 (by decide +kernel) (Qh31.f1 44 (by decide +kernel)) (by omega)
                  refine zwW_p [(1, 0, 2), (1, 1, 0)] (q := 44) (ls' := [(2, 37), (0, a), (0, v28)]) (st' := [(0, a), (2, 37)]) (by decide +kernel) rfl ?_
                  refine zwW_cm Ih31 (op := 60) (k' := 269) (n := 1) (kd := 13) (m := 97) (nx := 47) (r := 37) (tl := [(0, a)]) (st' := []) (by decide +kernel) rfl (by decide +kernel) (Nat.ble_eq_true_of_le (by omega)) (m269 a D0 pa HS h31 Ih31 f30 (by omega) (by omega)) ?_
                  rintro x h32 ⟨Ih32, Qh32, f33, ⟨rfl, f34⟩ | ⟨rfl, f35⟩⟩
                  · have Rh32 : zMR msP h h32 := Rh31.tr Qh32 (by decide +kernel)
                    have zf33 := f33; unfold zP0 at zf33
                    have Sh32 := f34.k Qh32
                    have W44 := f34
                    refine zwif_ne (q := 52) (nx := 50) (by decide +kernel) (fun c36 => ?_) (fun c36 => ?_)
                    · refine zwW_p [(1, 0, 2), (1, 2, 0), (0, 0, 0)] (q := 55) (ls' := [(2, 37), (0, a), (0, v28)]) (st' := [(0, 0), (0, v28), (2, 37)]) (by decide +kernel) rfl ?_
                      refine zwW_cm Ih32 (op := 60) (k' := 270) (n := 2) (kd := 13) (m := 97) (nx := 58) (r := 37) (tl := [(0, v28), (0, 0)]) (st' := []) (by decide +kernel) rfl (by decide +kernel) (Nat.ble_eq_true_of_le (by omega)) (m270 h32 Ih32 v28 0 (by omega) (by omega) (by omega) (by omega)) ?_
                      rintro x h40 ⟨Ih40, Qh40, rfl, f37, f38, f39⟩
                      have Rh40 : zMR msP h h40 := Rh32.tr Qh40 (by decide +kernel)
                      have Ph40 := f33.mr Qh40 (by decide +kernel)
                      have zPh40 := Ph40; unfold zP0 at zPh40
                      have Z55 : zPS h h40 := zPS_bin (by omega) (by omega) iL6_0 N39 (by omega) W44 (by omega) (zPu.of Qh40 f37 f38 f39) (by omega)
                      have Sh40 := Z55.k Rh40
                      have Th40 := Qh40.f1 42 (by decide +kernel)
                      refine zwW_p [(15, 0, 0), (24, 10, 0)] (q := 10) (ls' := [(2, 37), (0, a), (0, v28)]) (st' := []) (by decide +kernel) rfl ?_
                      exact IHL6 (fld h40 37 41 - fld h40 37 42).toNat (by omega) (0, v28) h40 rfl (Z55) (Ph40) Ih40 Rh40
                    · exfalso; omega
                  · have Rh32 : zMR msP h h32 := Rh31.tr Qh32 (by decide +kernel)
                    have zf33 := f33; unfold zP0 at zf33
                    refine zwif_ne (q := 52) (nx := 50) (by decide +kernel) (fun c41 => ?_) (fun c41 => ?_)
                    · exfalso; omega
                    · refine zwW_p [(0, 0, 0)] (q := 51) (ls' := [(2, 37), (0, a), (0, v28)]) (st' := [(0, 0)]) (by decide +kernel) rfl ?_
                      refine zwW_ret (nx := 52) (a := 1) (b := 0) (by decide +kernel) rfl (Or.inr (Or.inl ⟨rfl, by omega⟩)) ?_
                      exact ⟨Ih32, Rh32, by exact f33, Or.inr ⟨rfl, by omega⟩⟩
              · refine zwif_eq (q := 62) (nx := 28) (by decide +kernel) (fun c42 => ?_) (fun c42 => ?_)
                · have Z := iL6_0
                  refine zwW_p [(0, 1, 0)] (q := 63) (ls' := [(2, 37), (0, a), w2L6]) (st' := [(0, 1)]) (by decide +kernel) rfl ?_
                  refine zwW_ret (nx := 64) (a := 1) (b := 0) (by decide +kernel) rfl (Or.inr (Or.inl ⟨rfl, by omega⟩)) ?_
                  exact ⟨IhL6, RhL6, by exact iL6_1, Or.inl ⟨rfl, by exact Z⟩⟩
                · exfalso; omega
      exact L6 _ (9, 0) h1 rfl (f3) (f2) Ih1 Rh1
    · exfalso; omega
  · have Rh1 : zMR msP h h1 := R.tr Qh1 (by decide +kernel)
    have zf2 := f2; unfold zP0 at zf2
    refine zwif_ne (q := 10) (nx := 8) (by decide +kernel) (fun c43 => ?_) (fun c43 => ?_)
    · exfalso; omega
    · refine zwW_p [(0, 0, 0)] (q := 9) (ls' := [(2, 37), (0, a), (9, 0)]) (st' := [(0, 0)]) (by decide +kernel) rfl ?_
      refine zwW_ret (nx := 10) (a := 1) (b := 0) (by decide +kernel) rfl (Or.inr (Or.inl ⟨rfl, by omega⟩)) ?_
      exact ⟨Ih1, Rh1, by exact f2, Or.inr ⟨rfl, by omega⟩⟩
-- WheelLandModel.test(I)Z
theorem m286 {sc : List Int} (a : Int) (D0 : Nat) (pa : 0 ≤ a ∧ a ≤ 8) (HS : a < 8 → zPX sc D0 248 (a + 1)) (HT : a < 8 → zPX sc D0 286 (a + 1)) (HE : a < 8 → zPX sc D0 249 (a + 1)) : zPX sc (D0 + 23) 286 a := by
  intro h I hP pc pk
  have hP0 := hP
  unfold zP0 at hP0
  have bk := I.b (a1 := 37) (a2 := 37) (j1 := 45) (j2 := 46) (lo := 0) (hi := 400) (by decide +kernel) (r := 37) (j := 45) (by decide) (by decide) (by decide) (by decide)
  have bt := I.b (a1 := 37) (a2 := 37) (j1 := 41) (j2 := 42) (lo := 0) (hi := 400) (by decide +kernel) (r := 37) (j := 41) (by decide) (by decide) (by decide) (by decide)
  refine zwC_of (D := D0 + 22) 3 (by decide +kernel) rfl (ls := [(2, 37), (0, a), (9, 0)]) rfl ?_
  have R : zMR msP h h := zMR.rf _ _
  refine zwW_p [(1, 0, 2), (0, -30, 2)] (q := 4) (ls' := [(2, 37), (0, a), (9, 0)]) (st' := [(2, -30), (2, 37)]) (by decide +kernel) rfl ?_
  refine zwW_cm I (op := 60) (k' := 246) (n := 1) (kd := 13) (m := 97) (nx := 7) (r := 37) (tl := [(2, -30)]) (st' := []) (by decide +kernel) rfl (by decide +kernel) (Nat.ble_eq_true_of_le (by omega)) (m246 h I (-30) (by omega) hP) ?_
  rintro x _ ⟨rfl, ⟨rfl, c1⟩ | ⟨rfl, c1⟩⟩
  · refine zwif_eq (q := 54) (nx := 10) (by decide +kernel) (fun c2 => ?_) (fun c2 => ?_)
    · exfalso; omega
    · refine zwW_p [(1, 0, 2), (1, 1, 0), (0, 8, 0)] (q := 14) (ls' := [(2, 37), (0, a), (9, 0)]) (st' := [(0, 8), (0, a), (2, 37)]) (by decide +kernel) rfl ?_
      refine zwic_ge (q := 21) (nx := 17) (by decide +kernel) (fun c3 => ?_) (fun c3 => ?_)
      · refine zwW_p [(0, 0, 0)] (q := 22) (ls' := [(2, 37), (0, a), (9, 0)]) (st' := [(0, 0), (2, 37)]) (by decide +kernel) rfl ?_
        refine zwW_cm I (op := 60) (k' := 247) (n := 1) (kd := 13) (m := 97) (nx := 25) (r := 37) (tl := [(0, 0)]) (st' := []) (by decide +kernel) rfl (by decide +kernel) (Nat.ble_eq_true_of_le (by omega)) (m247 h I 0 hP) ?_
        rintro x h4 ⟨Ih4, Qh4, ⟨rfl, f5, f6, f7, f8⟩ | ⟨rfl, f9, f10, f11⟩⟩
        · exfalso; omega
        · have Rh4 : zMR msP h h4 := R.tr Qh4 (by decide +kernel)
          have zf10 := f10; unfold zP0 at zf10
          refine zwif_eq (q := 52) (nx := 28) (by decide +kernel) (fun c12 => ?_) (fun c12 => ?_)
          · refine zwW_p [(0, 0, 0)] (q := 53) (ls' := [(2, 37), (0, a), (9, 0)]) (st' := [(0, 0)]) (by decide +kernel) rfl ?_
            refine zwW_ret (nx := 54) (a := 1) (b := 0) (by decide +kernel) rfl (Or.inr (Or.inl ⟨rfl, by omega⟩)) ?_
            exact ⟨Ih4, Rh4, by exact f10, Or.inr ⟨rfl, by omega⟩⟩
          · exfalso; omega
      · refine zwW_p [(0, 1, 0), (24, 22, 0)] (q := 22) (ls' := [(2, 37), (0, a), (9, 0)]) (st' := [(0, 1), (2, 37)]) (by decide +kernel) rfl ?_
        refine zwW_cm I (op := 60) (k' := 247) (n := 1) (kd := 13) (m := 97) (nx := 25) (r := 37) (tl := [(0, 1)]) (st' := []) (by decide +kernel) rfl (by decide +kernel) (Nat.ble_eq_true_of_le (by omega)) (m247 h I 1 hP) ?_
        rintro x h13 ⟨Ih13, Qh13, ⟨rfl, f14, f15, f16, f17⟩ | ⟨rfl, f18, f19, f20⟩⟩
        · have Rh13 : zMR msP h h13 := R.tr Qh13 (by decide +kernel)
          have zf15 := f15; unfold zP0 at zf15
          have Kh13 := Qh13.kp (by decide +kernel)
          have N22 : zNu h h13 := zNu.mr I pc Qh13 (by decide +kernel) (by omega) (by omega)
          refine zwif_eq (q := 52) (nx := 28) (by decide +kernel) (fun c21 => ?_) (fun c21 => ?_)
          · exfalso; omega
          · refine zwW_p [(1, 0, 2), (1, 1, 0), (0, 1, 0)] (q := 31) (ls' := [(2, 37), (0, a), (9, 0)]) (st' := [(0, 1), (0, a), (2, 37)]) (by decide +kernel) rfl ?_
            refine zwW_add (nx := 32) (by decide +kernel) ⟨by omega, by omega⟩ ?_
            refine zwW_cm Ih13 (op := 60) (k' := 286) (n := 1) (kd := 13) (m := 97) (nx := 35) (r := 37) (tl := [(0, (a + 1))]) (st' := []) (by decide +kernel) rfl (by decide +kernel) (Nat.ble_eq_true_of_le (by omega)) (HT (by omega) h13 Ih13 f15 (by omega) (by omega)) ?_
            rintro x h22 ⟨Ih22, Qh22, f23, ⟨rfl, f24⟩ | ⟨rfl, f25⟩⟩
            · have Rh22 : zMR msP h h22 := Rh13.tr Qh22 (by decide +kernel)
              have zf23 := f23; unfold zP0 at zf23
              have Sh22 := f24.k Qh22
              have W32 := f24
              refine zwif_eq (q := 52) (nx := 38) (by decide +kernel) (fun c26 => ?_) (fun c26 => ?_)
              · exfalso; omega
              · refine zwW_p [(1, 0, 2), (0, 33, 0), (0, 0, 0)] (q := 42) (ls' := [(2, 37), (0, a), (9, 0)]) (st' := [(0, 0), (0, 33), (2, 37)]) (by decide +kernel) rfl ?_
                refine zwW_cm Ih22 (op := 60) (k' := 270) (n := 2) (kd := 13) (m := 97) (nx := 45) (r := 37) (tl := [(0, 33), (0, 0)]) (st' := []) (by decide +kernel) rfl (by decide +kernel) (Nat.ble_eq_true_of_le (by omega)) (m270 h22 Ih22 33 0 (by omega) (by omega) (by omega) (by omega)) ?_
                rintro x h30 ⟨Ih30, Qh30, rfl, f27, f28, f29⟩
                have Rh30 : zMR msP h h30 := Rh22.tr Qh30 (by decide +kernel)
                have Ph30 := f23.mr Qh30 (by decide +kernel)
                have zPh30 := Ph30; unfold zP0 at zPh30
                have Z : zPS h h30 := zPS_not (by omega) N22 (by omega) W32 (by omega) (zPu.of Qh30 f27 f28 f29)
                refine zwif_eq (q := 52) (nx := 48) (by decide +kernel) (fun c31 => ?_) (fun c31 => ?_)
                · exfalso; omega
                · refine zwW_p [(0, 1, 0), (24, 53, 0)] (q := 53) (ls' := [(2, 37), (0, a), (9, 0)]) (st' := [(0, 1)]) (by decide +kernel) rfl ?_
                  refine zwW_ret (nx := 54) (a := 1) (b := 0) (by decide +kernel) rfl (Or.inr (Or.inl ⟨rfl, by omega⟩)) ?_
                  exact ⟨Ih30, Rh30, by exact Ph30, Or.inl ⟨rfl, by exact Z⟩⟩
            · have Rh22 : zMR msP h h22 := Rh13.tr Qh22 (by decide +kernel)
              have zf23 := f23; unfold zP0 at zf23
              refine zwif_eq (q := 52) (nx := 38) (by decide +kernel) (fun c32 => ?_) (fun c32 => ?_)
              · refine zwW_p [(0, 0, 0)] (q := 53) (ls' := [(2, 37), (0, a), (9, 0)]) (st' := [(0, 0)]) (by decide +kernel) rfl ?_
                refine zwW_ret (nx := 54) (a := 1) (b := 0) (by decide +kernel) rfl (Or.inr (Or.inl ⟨rfl, by omega⟩)) ?_
                exact ⟨Ih22, Rh22, by exact f23, Or.inr ⟨rfl, by omega⟩⟩
              · exfalso; omega
        · exfalso; omega
  · refine zwif_eq (q := 54) (nx := 10) (by decide +kernel) (fun c33 => ?_) (fun c33 => ?_)
    · refine zwW_p [(1, 0, 2), (0, 91, 0)] (q := 57) (ls' := [(2, 37), (0, a), (9, 0)]) (st' := [(0, 91), (2, 37)]) (by decide +kernel) rfl ?_
      refine zwW_cm I (op := 60) (k' := 250) (n := 1) (kd := 13) (m := 97) (nx := 60) (r := 37) (tl := [(0, 91)]) (st' := []) (by decide +kernel) rfl (by decide +kernel) (Nat.ble_eq_true_of_le (by omega)) (m250 h I 91) ?_
      rintro x _ ⟨rfl, ⟨rfl, c34⟩ | ⟨rfl, c34⟩⟩
      · refine zwif_eq (q := 110) (nx := 63) (by decide +kernel) (fun c35 => ?_) (fun c35 => ?_)
        · exfalso; omega
        · refine zwW_p [(1, 0, 2), (1, 1, 0), (0, 8, 0)] (q := 67) (ls' := [(2, 37), (0, a), (9, 0)]) (st' := [(0, 8), (0, a), (2, 37)]) (by decide +kernel) rfl ?_
          refine zwic_ge (q := 74) (nx := 70) (by decide +kernel) (fun c36 => ?_) (fun c36 => ?_)
          · refine zwW_p [(0, 0, 0)] (q := 75) (ls' := [(2, 37), (0, a), (9, 0)]) (st' := [(0, 0), (2, 37)]) (by decide +kernel) rfl ?_
            refine zwW_cm I (op := 60) (k' := 247) (n := 1) (kd := 13) (m := 97) (nx := 78) (r := 37) (tl := [(0, 0)]) (st' := []) (by decide +kernel) rfl (by decide +kernel) (Nat.ble_eq_true_of_le (by omega)) (m247 h I 0 hP) ?_
            rintro x h37 ⟨Ih37, Qh37, ⟨rfl, f38, f39, f40, f41⟩ | ⟨rfl, f42, f43, f44⟩⟩
            · exfalso; omega
            · have Rh37 : zMR msP h h37 := R.tr Qh37 (by decide +kernel)
              have zf43 := f43; unfold zP0 at zf43
              refine zwif_eq (q := 108) (nx := 81) (by decide +kernel) (fun c45 => ?_) (fun c45 => ?_)
              · refine zwW_p [(0, 0, 0)] (q := 109) (ls' := [(2, 37), (0, a), (9, 0)]) (st' := [(0, 0)]) (by decide +kernel) rfl ?_
                refine zwW_ret (nx := 110) (a := 1) (b := 0) (by decide +kernel) rfl (Or.inr (Or.inl ⟨rfl, by omega⟩)) ?_
                exact ⟨Ih37, Rh37, by exact f43, Or.inr ⟨rfl, by omega⟩⟩
              · exfalso; omega
          · refine zwW_p [(0, 1, 0), (24, 75, 0)] (q := 75) (ls' := [(2, 37), (0, a), (9, 0)]) (st' := [(0, 1), (2, 37)]) (by decide +kernel) rfl ?_
            refine zwW_cm I (op := 60) (k' := 247) (n := 1) (kd := 13) (m := 97) (nx := 78) (r := 37) (tl := [(0, 1)]) (st' := []) (by decide +kernel) rfl (by decide +kernel) (Nat.ble_eq_true_of_le (by omega)) (m247 h I 1 hP) ?_
            rintro x h46 ⟨Ih46, Qh46, ⟨rfl, f47, f48, f49, f50⟩ | ⟨rfl, f51, f52, f53⟩⟩
            · have Rh46 : zMR msP h h46 := R.tr Qh46 (by decide +kernel)
              have zf48 := f48; unfold zP0 at zf48
              have Kh46 := Qh46.kp (by decide +kernel)
              have N75 : zNu h h46 := zNu.mr I pc Qh46 (by decide +kernel) (by omega) (by omega)
              refine zwif_eq (q := 108) (nx := 81) (by decide +kernel) (fun c54 => ?_) (fun c54 => ?_)
              · exfalso; omega
              · refine zwW_p [(1, 0, 2), (1, 1, 0), (0, 1, 0)] (q := 84) (ls' := [(2, 37), (0, a), (9, 0)]) (st' := [(0, 1), (0, a), (2, 37)]) (by decide +kernel) rfl ?_
                refine zwW_add (nx := 85) (by decide +kernel) ⟨by omega, by omega⟩ ?_
                refine zwW_cm Ih46 (op := 60) (k' := 249) (n := 1) (kd := 13) (m := 97) (nx := 88) (r := 37) (tl := [(0, (a + 1))]) (st' := []) (by decide +kernel) rfl (by decide +kernel) (Nat.ble_eq_true_of_le (by omega)) (HE (by omega) h46 Ih46 f48 (by omega) (by omega)) ?_
                rintro x h55 ⟨Ih55, Qh55, f56, ⟨rfl, f57⟩ | ⟨rfl, f58⟩⟩
                · have Rh55 : zMR msP h h55 := Rh46.tr Qh55 (by decide +kernel)
                  have zf56 := f56; unfold zP0 at zf56
                  have Sh55 := f57.k Qh55
                  have W85 := f57
                  refine zwif_eq (q := 108) (nx := 91) (by decide +kernel) (fun c59 => ?_) (fun c59 => ?_)
                  · exfalso; omega
                  · refine zwW_p [(1, 0, 2), (1, 0, 2), (0, 93, 0)] (q := 95) (ls' := [(2, 37), (0, a), (9, 0)]) (st' := [(0, 93), (2, 37), (2, 37)]) (by decide +kernel) rfl ?_
                    refine zwW_cm Ih55 (op := 60) (k' := 250) (n := 1) (kd := 13) (m := 97) (nx := 98) (r := 37) (tl := [(0, 93)]) (st' := [(2, 37)]) (by decide +kernel) rfl (by decide +kernel) (Nat.ble_eq_true_of_le (by omega)) (m250 h55 Ih55 93) ?_
                    rintro x _ ⟨rfl, ⟨rfl, c60⟩ | ⟨rfl, c60⟩⟩
                    · refine zwW_cm Ih55 (op := 60) (k' := 247) (n := 1) (kd := 13) (m := 97) (nx := 101) (r := 37) (tl := [(0, 1)]) (st' := []) (by decide +kernel) rfl (by decide +kernel) (Nat.ble_eq_true_of_le (by omega)) (m247 h55 Ih55 1 f56) ?_
                      rintro x h61 ⟨Ih61, Qh61, ⟨rfl, f62, f63, f64, f65⟩ | ⟨rfl, f66, f67, f68⟩⟩
                      · have Rh61 : zMR msP h h61 := Rh55.tr Qh61 (by decide +kernel)
                        have zf63 := f63; unfold zP0 at zf63
                        have Kh61 := Qh61.kp (by decide +kernel)
                        have N98 : zNu h55 h61 := zNu.mr Ih55 (by omega) Qh61 (by decide +kernel) (by omega) (by omega)
                        have Z : zPS h h61 := (W85.pre N75).post (by omega) N98
                        refine zwif_eq (q := 108) (nx := 104) (by decide +kernel) (fun c69 => ?_) (fun c69 => ?_)
                        · exfalso; omega
                        · refine zwW_p [(0, 1, 0), (24, 109, 0)] (q := 109) (ls' := [(2, 37), (0, a), (9, 0)]) (st' := [(0, 1)]) (by decide +kernel) rfl ?_
                          refine zwW_ret (nx := 110) (a := 1) (b := 0) (by decide +kernel) rfl (Or.inr (Or.inl ⟨rfl, by omega⟩)) ?_
                          exact ⟨Ih61, Rh61, by exact f63, Or.inl ⟨rfl, by exact Z⟩⟩
                      · exfalso; omega
                    · refine zwW_cm Ih55 (op := 60) (k' := 247) (n := 1) (kd := 13) (m := 97) (nx := 101) (r := 37) (tl := [(0, 0)]) (st' := []) (by decide +kernel) rfl (by decide +kernel) (Nat.ble_eq_true_of_le (by omega)) (m247 h55 Ih55 0 f56) ?_
                      rintro x h70 ⟨Ih70, Qh70, ⟨rfl, f71, f72, f73, f74⟩ | ⟨rfl, f75, f76, f77⟩⟩
                      · exfalso; omega
                      · have Rh70 : zMR msP h h70 := Rh55.tr Qh70 (by decide +kernel)
                        have zf76 := f76; unfold zP0 at zf76
                        refine zwif_eq (q := 108) (nx := 104) (by decide +kernel) (fun c78 => ?_) (fun c78 => ?_)
                        · refine zwW_p [(0, 0, 0)] (q := 109) (ls' := [(2, 37), (0, a), (9, 0)]) (st' := [(0, 0)]) (by decide +kernel) rfl ?_
                          refine zwW_ret (nx := 110) (a := 1) (b := 0) (by decide +kernel) rfl (Or.inr (Or.inl ⟨rfl, by omega⟩)) ?_
                          exact ⟨Ih70, Rh70, by exact f76, Or.inr ⟨rfl, by omega⟩⟩
                        · exfalso; omega
                · have Rh55 : zMR msP h h55 := Rh46.tr Qh55 (by decide +kernel)
                  have zf56 := f56; unfold zP0 at zf56
                  refine zwif_eq (q := 108) (nx := 91) (by decide +kernel) (fun c79 => ?_) (fun c79 => ?_)
                  · refine zwW_p [(0, 0, 0)] (q := 109) (ls' := [(2, 37), (0, a), (9, 0)]) (st' := [(0, 0)]) (by decide +kernel) rfl ?_
                    refine zwW_ret (nx := 110) (a := 1) (b := 0) (by decide +kernel) rfl (Or.inr (Or.inl ⟨rfl, by omega⟩)) ?_
                    exact ⟨Ih55, Rh55, by exact f56, Or.inr ⟨rfl, by omega⟩⟩
                  · exfalso; omega
            · exfalso; omega
      · refine zwif_eq (q := 110) (nx := 63) (by decide +kernel) (fun c80 => ?_) (fun c80 => ?_)
        · refine zwW_p [(1, 0, 2), (1, 1, 0)] (q := 112) (ls' := [(2, 37), (0, a), (9, 0)]) (st' := [(0, a), (2, 37)]) (by decide +kernel) rfl ?_
          refine zwW_cm I (op := 60) (k' := 248) (n := 1) (kd := 13) (m := 97) (nx := 115) (r := 37) (tl := [(0, a)]) (st' := []) (by decide +kernel) rfl (by decide +kernel) (Nat.ble_eq_true_of_le (by omega)) (m248 a D0 pa HS h I hP (by omega) (by omega)) ?_
          rintro x h81 ⟨Ih81, Qh81, f82, ⟨rfl, f83⟩ | ⟨rfl, f84⟩⟩
          · have Rh81 : zMR msP h h81 := R.tr Qh81 (by decide +kernel)
            have zf82 := f82; unfold zP0 at zf82
            have Sh81 := f83.k Qh81
            have W112 := f83
            refine zwif_ne (q := 120) (nx := 118) (by decide +kernel) (fun c85 => ?_) (fun c85 => ?_)
            · refine zwW_p [(1, 0, 2), (0, 60, 0)] (q := 123) (ls' := [(2, 37), (0, a), (9, 0)]) (st' := [(0, 60), (2, 37)]) (by decide +kernel) rfl ?_
              refine zwW_cm Ih81 (op := 60) (k' := 250) (n := 1) (kd := 13) (m := 97) (nx := 126) (r := 37) (tl := [(0, 60)]) (st' := []) (by decide +kernel) rfl (by decide +kernel) (Nat.ble_eq_true_of_le (by omega)) (m250 h81 Ih81 60) ?_
              rintro x _ ⟨rfl, ⟨rfl, c86⟩ | ⟨rfl, c86⟩⟩
              · refine zwif_ne (q := 152) (nx := 129) (by decide +kernel) (fun c87 => ?_) (fun c87 => ?_)
                · refine zwW_p [(1, 0, 2)] (q := 153) (ls' := [(2, 37), (0, a), (9, 0)]) (st' := [(2, 37)]) (by decide +kernel) rfl ?_
                  refine zwW_gc Ih81 (kd := 13) (bn := 40) (n := 97) (c := 98) (nx := 156) (by decide +kernel) ?_
                  refine zwW_p [(1, 0, 2)] (q := 157) (ls' := [(2, 37), (0, a), (9, 0)]) (st' := [(2, 37), (2, 98)]) (by decide +kernel) rfl ?_
                  refine zwW_gs Ih81 (kd := 13) (bn := 42) (n := 97) (t := 0) (lo := 0) (hi := 400) (nx := 160) (by decide +kernel) ?_
                  intro v88 ev88 lv88 uv88
                  have X160 : v88 = fld h81 37 42 := by omega
                  refine zwW_al Ih81 (a1 := 98) (a2 := 98) (kd := 21) (n := 400) (t := 0) (lo := -128) (hi := 127) (nx := 161) (by decide +kernel) ⟨by decide, by decide⟩ ⟨by omega, by omega⟩ ?_
                  intro v89 ev89 lv89 uv89
                  have G161 : v89 = fld h81 98 (fld h81 37 42).toNat := by rw [ev89, X160]
                  refine zwW_p [(2, 2, 0), (1, 0, 2)] (q := 163) (ls' := [(2, 37), (0, a), (0, v89)]) (st' := [(2, 37)]) (by decide +kernel) rfl ?_
                  refine zwW_cmv Ih81 (op := 60) (k' := 268) (n := 0) (kd := 13) (m := 97) (nx := 166) (r := 37) (tl := []) (st' := []) (by decide +kernel) rfl (by decide +kernel) (Nat.ble_eq_true_of_le (by omega)) (m268 h81 Ih81 f82) ?_
                  rintro h92 ⟨Ih92, Qh92, f90, f91⟩
                  have Rh92 : zMR msP h h92 := Rh81.tr Qh92 (by decide +kernel)
                  have zf91 := f91; unfold zP0 at zf91
                  have Kh92 := Qh92.kp (by decide +kernel)
                  have N163 : zNu h81 h92 := zNu.mr Ih81 (by omega) Qh92 (by decide +kernel) (Qh92.f1 44 (by decide +kernel)) (by omega)
                  refine zwW_p [(1, 0, 2), (1, 1, 0)] (q := 168) (ls' := [(2, 37), (0, a), (0, v89)]) (st' := [(0, a), (2, 37)]) (by decide +kernel) rfl ?_
                  refine zwW_cm Ih92 (op := 60) (k' := 248) (n := 1) (kd := 13) (m := 97) (nx := 171) (r := 37) (tl := [(0, a)]) (st' := []) (by decide +kernel) rfl (by decide +kernel) (Nat.ble_eq_true_of_le (by omega)) (m248 a D0 pa HS h92 Ih92 f91 (by omega) (by omega)) ?_
                  rintro x h93 ⟨Ih93, Qh93, f94, ⟨rfl, f95⟩ | ⟨rfl, f96⟩⟩
                  · have Rh93 : zMR msP h h93 := Rh92.tr Qh93 (by decide +kernel)
                    have zf94 := f94; unfold zP0 at zf94
                    have Sh93 := f95.k Qh93
                    have W168 := f95
                    refine zwif_eq (q := 187) (nx := 174) (by decide +kernel) (fun c97 => ?_) (fun c97 => ?_)
                    · exfalso; omega
                    · refine zwW_p [(1, 0, 2), (1, 2, 0), (0, 0, 0)] (q := 177) (ls' := [(2, 37), (0, a), (0, v89)]) (st' := [(0, 0), (0, v89), (2, 37)]) (by decide +kernel) rfl ?_
                      refine zwW_cm Ih93 (op := 60) (k' := 270) (n := 2) (kd := 13) (m := 97) (nx := 180) (r := 37) (tl := [(0, v89), (0, 0)]) (st' := []) (by decide +kernel) rfl (by decide +kernel) (Nat.ble_eq_true_of_le (by omega)) (m270 h93 Ih93 v89 0 (by omega) (by omega) (by omega) (by omega)) ?_
                      rintro x h101 ⟨Ih101, Qh101, rfl, f98, f99, f100⟩
                      have Rh101 : zMR msP h h101 := Rh93.tr Qh101 (by decide +kernel)
                      have Ph101 := f94.mr Qh101 (by decide +kernel)
                      have zPh101 := Ph101; unfold zP0 at zPh101
                      have Z : zPS h h101 := zPS_bin (by omega) (by omega) W112 N163 (by omega) W168 (by omega) (zPu.of Qh101 f98 f99 f100) (by omega)
                      refine zwif_eq (q := 187) (nx := 183) (by decide +kernel) (fun c102 => ?_) (fun c102 => ?_)
                      · exfalso; omega
                      · refine zwW_p [(0, 1, 0), (24, 188, 0)] (q := 188) (ls' := [(2, 37), (0, a), (0, v89)]) (st' := [(0, 1)]) (by decide +kernel) rfl ?_
                        refine zwW_ret (nx := 189) (a := 1) (b := 0) (by decide +kernel) rfl (Or.inr (Or.inl ⟨rfl, by omega⟩)) ?_
                        exact ⟨Ih101, Rh101, by exact Ph101, Or.inl ⟨rfl, by exact Z⟩⟩
                  · have Rh93 : zMR msP h h93 := Rh92.tr Qh93 (by decide +kernel)
                    have zf94 := f94; unfold zP0 at zf94
                    refine zwif_eq (q := 187) (nx := 174) (by decide +kernel) (fun c103 => ?_) (fun c103 => ?_)
                    · refine zwW_p [(0, 0, 0)] (q := 188) (ls' := [(2, 37), (0, a), (0, v89)]) (st' := [(0, 0)]) (by decide +kernel) rfl ?_
                      refine zwW_ret (nx := 189) (a := 1) (b := 0) (by decide +kernel) rfl (Or.inr (Or.inl ⟨rfl, by omega⟩)) ?_
                      exact ⟨Ih93, Rh93, by exact f94, Or.inr ⟨rfl, by omega⟩⟩
                    · exfalso; omega
                · exfalso; omega
              · refine zwif_ne (q := 152) (nx := 129) (by decide +kernel) (fun c104 => ?_) (fun c104 => ?_)
                · exfalso; omega
                · refine zwW_p [(1, 0, 2), (0, 62, 0)] (q := 132) (ls' := [(2, 37), (0, a), (9, 0)]) (st' := [(0, 62), (2, 37)]) (by decide +kernel) rfl ?_
                  refine zwW_cm Ih81 (op := 60) (k' := 250) (n := 1) (kd := 13) (m := 97) (nx := 135) (r := 37) (tl := [(0, 62)]) (st' := []) (by decide +kernel) rfl (by decide +kernel) (Nat.ble_eq_true_of_le (by omega)) (m250 h81 Ih81 62) ?_
                  rintro x _ ⟨rfl, ⟨rfl, c105⟩ | ⟨rfl, c105⟩⟩
                  · refine zwif_ne (q := 152) (nx := 138) (by decide +kernel) (fun c106 => ?_) (fun c106 => ?_)
                    · refine zwW_p [(1, 0, 2)] (q := 153) (ls' := [(2, 37), (0, a), (9, 0)]) (st' := [(2, 37)]) (by decide +kernel) rfl ?_
                      refine zwW_gc Ih81 (kd := 13) (bn := 40) (n := 97) (c := 98) (nx := 156) (by decide +kernel) ?_
                      refine zwW_p [(1, 0, 2)] (q := 157) (ls' := [(2, 37), (0, a), (9, 0)]) (st' := [(2, 37), (2, 98)]) (by decide +kernel) rfl ?_
                      refine zwW_gs Ih81 (kd := 13) (bn := 42) (n := 97) (t := 0) (lo := 0) (hi := 400) (nx := 160) (by decide +kernel) ?_
                      intro v107 ev107 lv107 uv107
                      have X160 : v107 = fld h81 37 42 := by omega
                      refine zwW_al Ih81 (a1 := 98) (a2 := 98) (kd := 21) (n := 400) (t := 0) (lo := -128) (hi := 127) (nx := 161) (by decide +kernel) ⟨by decide, by decide⟩ ⟨by omega, by omega⟩ ?_
                      intro v108 ev108 lv108 uv108
                      have G161 : v108 = fld h81 98 (fld h81 37 42).toNat := by rw [ev108, X160]
                      refine zwW_p [(2, 2, 0), (1, 0, 2)] (q := 163) (ls' := [(2, 37), (0, a), (0, v108)]) (st' := [(2, 37)]) (by decide +kernel) rfl ?_
                      refine zwW_cmv Ih81 (op := 60) (k' := 268) (n := 0) (kd := 13) (m := 97) (nx := 166) (r := 37) (tl := []) (st' := []) (by decide +kernel) rfl (by decide +kernel) (Nat.ble_eq_true_of_le (by omega)) (m268 h81 Ih81 f82) ?_
                      rintro h111 ⟨Ih111, Qh111, f109, f110⟩
                      have Rh111 : zMR msP h h111 := Rh81.tr Qh111 (by decide +kernel)
                      have zf110 := f110; unfold zP0 at zf110
                      have Kh111 := Qh111.kp (by decide +kernel)
                      have N163 : zNu h81 h111 := zNu.mr Ih81 (by omega) Qh111 (by decide +kernel) (Qh111.f1 44 (by decide +kernel)) (by omega)
                      refine zwW_p [(1, 0, 2), (1, 1, 0)] (q := 168) (ls' := [(2, 37), (0, a), (0, v108)]) (st' := [(0, a), (2, 37)]) (by decide +kernel) rfl ?_
                      refine zwW_cm Ih111 (op := 60) (k' := 248) (n := 1) (kd := 13) (m := 97) (nx := 171) (r := 37) (tl := [(0, a)]) (st' := []) (by decide +kernel) rfl (by decide +kernel) (Nat.ble_eq_true_of_le (by omega)) (m248 a D0 pa HS h111 Ih111 f110 (by omega) (by omega)) ?_
                      rintro x h112 ⟨Ih112, Qh112, f113, ⟨rfl, f114⟩ | ⟨rfl, f115⟩⟩
                      · have Rh112 : zMR msP h h112 := Rh111.tr Qh112 (by decide +kernel)
                        have zf113 := f113; unfold zP0 at zf113
                        have Sh112 := f114.k Qh112
                        have W168 := f114
                        refine zwif_eq (q := 187) (nx := 174) (by decide +kernel) (fun c116 => ?_) (fun c116 => ?_)
                        · exfalso; omega
                        · refine zwW_p [(1, 0, 2), (1, 2, 0), (0, 0, 0)] (q := 177) (ls' := [(2, 37), (0, a), (0, v108)]) (st' := [(0, 0), (0, v108), (2, 37)]) (by decide +kernel) rfl ?_
                          refine zwW_cm Ih112 (op := 60) (k' := 270) (n := 2) (kd := 13) (m := 97) (nx := 180) (r := 37) (tl := [(0, v108), (0, 0)]) (st' := []) (by decide +kernel) rfl (by decide +kernel) (Nat.ble_eq_true_of_le (by omega)) (m270 h112 Ih112 v108 0 (by omega) (by omega) (by omega) (by omega)) ?_
                          rintro x h120 ⟨Ih120, Qh120, rfl, f117, f118, f119⟩
                          have Rh120 : zMR msP h h120 := Rh112.tr Qh120 (by decide +kernel)
                          have Ph120 := f113.mr Qh120 (by decide +kernel)
                          have zPh120 := Ph120; unfold zP0 at zPh120
                          have Z : zPS h h120 := zPS_bin (by omega) (by omega) W112 N163 (by omega) W168 (by omega) (zPu.of Qh120 f117 f118 f119) (by omega)
                          refine zwif_eq (q := 187) (nx := 183) (by decide +kernel) (fun c121 => ?_) (fun c121 => ?_)
                          · exfalso; omega
                          · refine zwW_p [(0, 1, 0), (24, 188, 0)] (q := 188) (ls' := [(2, 37), (0, a), (0, v108)]) (st' := [(0, 1)]) (by decide +kernel) rfl ?_
                            refine zwW_ret (nx := 189) (a := 1) (b := 0) (by decide +kernel) rfl (Or.inr (Or.inl ⟨rfl, by omega⟩)) ?_
                            exact ⟨Ih120, Rh120, by exact Ph120, Or.inl ⟨rfl, by exact Z⟩⟩
                      · have Rh112 : zMR msP h h112 := Rh111.tr Qh112 (by decide +kernel)
                        have zf113 := f113; unfold zP0 at zf113
                        refine zwif_eq (q := 187) (nx := 174) (by decide +kernel) (fun c122 => ?_) (fun c122 => ?_)
                        · refine zwW_p [(0, 0, 0)] (q := 188) (ls' := [(2, 37), (0, a), (0, v108)]) (st' := [(0, 0)]) (by decide +kernel) rfl ?_
                          refine zwW_ret (nx := 189) (a := 1) (b := 0) (by decide +kernel) rfl (Or.inr (Or.inl ⟨rfl, by omega⟩)) ?_
                          exact ⟨Ih112, Rh112, by exact f113, Or.inr ⟨rfl, by omega⟩⟩
                        · exfalso; omega
                    · exfalso; omega
                  · refine zwif_ne (q := 152) (nx := 138) (by decide +kernel) (fun c123 => ?_) (fun c123 => ?_)
                    · exfalso; omega
                    · refine zwW_p [(1, 0, 2), (0, 61, 0)] (q := 141) (ls' := [(2, 37), (0, a), (9, 0)]) (st' := [(0, 61), (2, 37)]) (by decide +kernel) rfl ?_
                      refine zwW_cm Ih81 (op := 60) (k' := 250) (n := 1) (kd := 13) (m := 97) (nx := 144) (r := 37) (tl := [(0, 61)]) (st' := []) (by decide +kernel) rfl (by decide +kernel) (Nat.ble_eq_true_of_le (by omega)) (m250 h81 Ih81 61) ?_
                      rintro x _ ⟨rfl, ⟨rfl, c124⟩ | ⟨rfl, c124⟩⟩
                      · refine zwif_ne (q := 152) (nx := 147) (by decide +kernel) (fun c125 => ?_) (fun c125 => ?_)
                        · refine zwW_p [(1, 0, 2)] (q := 153) (ls' := [(2, 37), (0, a), (9, 0)]) (st' := [(2, 37)]) (by decide +kernel) rfl ?_
                          refine zwW_gc Ih81 (kd := 13) (bn := 40) (n := 97) (c := 98) (nx := 156) (by decide +kernel) ?_
                          refine zwW_p [(1, 0, 2)] (q := 157) (ls' := [(2, 37), (0, a), (9, 0)]) (st' := [(2, 37), (2, 98)]) (by decide +kernel) rfl ?_
                          refine zwW_gs Ih81 (kd := 13) (bn := 42) (n := 97) (t := 0) (lo := 0) (hi := 400) (nx := 160) (by decide +kernel) ?_
                          intro v126 ev126 lv126 uv126
                          have X160 : v126 = fld h81 37 42 := by omega
                          refine zwW_al Ih81 (a1 := 98) (a2 := 98) (kd := 21) (n := 400) (t := 0) (lo := -128) (hi := 127) (nx := 161) (by decide +kernel) ⟨by decide, by decide⟩ ⟨by omega, by omega⟩ ?_
                          intro v127 ev127 lv127 uv127
                          have G161 : v127 = fld h81 98 (fld h81 37 42).toNat := by rw [ev127, X160]
                          refine zwW_p [(2, 2, 0), (1, 0, 2)] (q := 163) (ls' := [(2, 37), (0, a), (0, v127)]) (st' := [(2, 37)]) (by decide +kernel) rfl ?_
                          refine zwW_cmv Ih81 (op := 60) (k' := 268) (n := 0) (kd := 13) (m := 97) (nx := 166) (r := 37) (tl := []) (st' := []) (by decide +kernel) rfl (by decide +kernel) (Nat.ble_eq_true_of_le (by omega)) (m268 h81 Ih81 f82) ?_
                          rintro h130 ⟨Ih130, Qh130, f128, f129⟩
                          have Rh130 : zMR msP h h130 := Rh81.tr Qh130 (by decide +kernel)
                          have zf129 := f129; unfold zP0 at zf129
                          have Kh130 := Qh130.kp (by decide +kernel)
                          have N163 : zNu h81 h130 := zNu.mr Ih81 (by omega) Qh130 (by decide +kernel) (Qh130.f1 44 (by decide +kernel)) (by omega)
                          refine zwW_p [(1, 0, 2), (1, 1, 0)] (q := 168) (ls' := [(2, 37), (0, a), (0, v127)]) (st' := [(0, a), (2, 37)]) (by decide +kernel) rfl ?_
                          refine zwW_cm Ih130 (op := 60) (k' := 248) (n := 1) (kd := 13) (m := 97) (nx := 171) (r := 37) (tl := [(0, a)]) (st' := []) (by decide +kernel) rfl (by decide +kernel) (Nat.ble_eq_true_of_le (by omega)) (m248 a D0 pa HS h130 Ih130 f129 (by omega) (by omega)) ?_
                          rintro x h131 ⟨Ih131, Qh131, f132, ⟨rfl, f133⟩ | ⟨rfl, f134⟩⟩
                          · have Rh131 : zMR msP h h131 := Rh130.tr Qh131 (by decide +kernel)
                            have zf132 := f132; unfold zP0 at zf132
                            have Sh131 := f133.k Qh131
                            have W168 := f133
                            refine zwif_eq (q := 187) (nx := 174) (by decide +kernel) (fun c135 => ?_) (fun c135 => ?_)
                            · exfalso; omega
                            · refine zwW_p [(1, 0, 2), (1, 2, 0), (0, 0, 0)] (q := 177) (ls' := [(2, 37), (0, a), (0, v127)]) (st' := [(0, 0), (0, v127), (2, 37)]) (by decide +kernel) rfl ?_
                              refine zwW_cm Ih131 (op := 60) (k' := 270) (n := 2) (kd := 13) (m := 97) (nx := 180) (r := 37) (tl := [(0, v127), (0, 0)]) (st' := []) (by decide +kernel) rfl (by decide +kernel) (Nat.ble_eq_true_of_le (by omega)) (m270 h131 Ih131 v127 0 (by omega) (by omega) (by omega) (by omega)) ?_
                              rintro x h139 ⟨Ih139, Qh139, rfl, f136, f137, f138⟩
                              have Rh139 : zMR msP h h139 := Rh131.tr Qh139 (by decide +kernel)
                              have Ph139 := f132.mr Qh139 (by decide +kernel)
                              have zPh139 := Ph139; unfold zP0 at zPh139
                              have Z : zPS h h139 := zPS_bin (by omega) (by omega) W112 N163 (by omega) W168 (by omega) (zPu.of Qh139 f136 f137 f138) (by omega)
                              refine zwif_eq (q := 187) (nx := 183) (by decide +kernel) (fun c140 => ?_) (fun c140 => ?_)
                              · exfalso; omega
                              · refine zwW_p [(0, 1, 0), (24, 188, 0)] (q := 188) (ls' := [(2, 37), (0, a), (0, v127)]) (st' := [(0, 1)]) (by decide +kernel) rfl ?_
                                refine zwW_ret (nx := 189) (a := 1) (b := 0) (by decide +kernel) rfl (Or.inr (Or.inl ⟨rfl, by omega⟩)) ?_
                                exact ⟨Ih139, Rh139, by exact Ph139, Or.inl ⟨rfl, by exact Z⟩⟩
                          · have Rh131 : zMR msP h h131 := Rh130.tr Qh131 (by decide +kernel)
                            have zf132 := f132; unfold zP0 at zf132
                            refine zwif_eq (q := 187) (nx := 174) (by decide +kernel) (fun c141 => ?_) (fun c141 => ?_)
                            · refine zwW_p [(0, 0, 0)] (q := 188) (ls' := [(2, 37), (0, a), (0, v127)]) (st' := [(0, 0)]) (by decide +kernel) rfl ?_
                              refine zwW_ret (nx := 189) (a := 1) (b := 0) (by decide +kernel) rfl (Or.inr (Or.inl ⟨rfl, by omega⟩)) ?_
                              exact ⟨Ih131, Rh131, by exact f132, Or.inr ⟨rfl, by omega⟩⟩
                            · exfalso; omega
                        · exfalso; omega
                      · refine zwif_ne (q := 152) (nx := 147) (by decide +kernel) (fun c142 => ?_) (fun c142 => ?_)
                        · exfalso; omega
                        · refine zwW_p [(1, 0, 2)] (q := 148) (ls' := [(2, 37), (0, a), (9, 0)]) (st' := [(2, 37)]) (by decide +kernel) rfl ?_
                          refine zwW_cm Ih81 (op := 60) (k' := 267) (n := 0) (kd := 13) (m := 97) (nx := 151) (r := 37) (tl := []) (st' := []) (by decide +kernel) rfl (by decide +kernel) (Nat.ble_eq_true_of_le (by omega)) (m267 h81 Ih81) ?_
                          rintro x h144 ⟨Ih144, Qh144, rfl, f143⟩
                          have Rh144 : zMR msP h h144 := Rh81.tr Qh144 (by decide +kernel)
                          have Ph144 := f82.mr Qh144 (by decide +kernel)
                          have zPh144 := Ph144; unfold zP0 at zPh144
                          refine zwW_ret (nx := 152) (a := 1) (b := 0) (by decide +kernel) rfl (Or.inr (Or.inl ⟨rfl, by omega⟩)) ?_
                          exact ⟨Ih144, Rh144, by exact Ph144, Or.inr ⟨rfl, by omega⟩⟩
            · exfalso; omega
          · have Rh81 : zMR msP h h81 := R.tr Qh81 (by decide +kernel)
            have zf82 := f82; unfold zP0 at zf82
            refine zwif_ne (q := 120) (nx := 118) (by decide +kernel) (fun c145 => ?_) (fun c145 => ?_)
            · exfalso; omega
            · refine zwW_p [(0, 0, 0)] (q := 119) (ls' := [(2, 37), (0, a), (9, 0)]) (st' := [(0, 0)]) (by decide +kernel) rfl ?_
              refine zwW_ret (nx := 120) (a := 1) (b := 0) (by decide +kernel) rfl (Or.inr (Or.inl ⟨rfl, by omega⟩)) ?_
              exact ⟨Ih81, Rh81, by exact f82, Or.inr ⟨rfl, by omega⟩⟩
        · exfalso; omega
    · exfalso; omega
-- WheelLandModel.each(I)Z
theorem m271 {sc : List Int} (a : Int) (D0 : Nat) (pa : 0 ≤ a ∧ a ≤ 8) (HS : a < 8 → zPX sc D0 248 (a + 1)) (HT : a < 8 → zPX sc D0 286 (a + 1)) (HE : a < 8 → zPX sc D0 249 (a + 1)) : zPX sc (D0 + 24) 271 a := by
  intro h I hP pc pk
  have hP0 := hP
  unfold zP0 at hP0
  have bk := I.b (a1 := 37) (a2 := 37) (j1 := 45) (j2 := 46) (lo := 0) (hi := 400) (by decide +kernel) (r := 37) (j := 45) (by decide) (by decide) (by decide) (by decide)
  have bt := I.b (a1 := 37) (a2 := 37) (j1 := 41) (j2 := 42) (lo := 0) (hi := 400) (by decide +kernel) (r := 37) (j := 41) (by decide) (by decide) (by decide) (by decide)
  refine zwC_of (D := D0 + 23) 2 (by decide +kernel) rfl (ls := [(2, 37), (0, a)]) rfl ?_
  have R : zMR msP h h := zMR.rf _ _
  refine zwW_p [(1, 0, 2), (1, 1, 0)] (q := 2) (ls' := [(2, 37), (0, a)]) (st' := [(0, a), (2, 37)]) (by decide +kernel) rfl ?_
  refine zwW_cm I (op := 60) (k' := 286) (n := 1) (kd := 13) (m := 97) (nx := 5) (r := 37) (tl := [(0, a)]) (st' := []) (by decide +kernel) rfl (by decide +kernel) (Nat.ble_eq_true_of_le (by omega)) (m286 a D0 pa HS HT HE h I hP (by omega) (by omega)) ?_
  rintro x h1 ⟨Ih1, Qh1, f2, ⟨rfl, f3⟩ | ⟨rfl, f4⟩⟩
  · have Rh1 : zMR msP h h1 := R.tr Qh1 (by decide +kernel)
    have zf2 := f2; unfold zP0 at zf2
    have Sh1 := f3.k Qh1
    refine zwif_ne (q := 10) (nx := 8) (by decide +kernel) (fun c5 => ?_) (fun c5 => ?_)
    · have L6 : ∀ (n : Nat) (hL6 : Hp), n = (fld hL6 37 41 - fld hL6 37 42).toNat → (zPS h hL6) → (zP0 hL6) → zI hL6 → zMR msP h hL6 → zwW sc (D0 + 23) 271 10 [(2, 37), (0, a)] [] hL6 (zwRt 0 (zPQ h)) := by
        intro n
        induction n using Nat.strongRecOn with
        | ind n IHL6 =>
          intro hL6 hnL6 iL6_0 iL6_1 IhL6 RhL6
          have ShL6 := iL6_0.k RhL6
          have yhL6 := iL6_1; unfold zP0 at yhL6
          refine zwW_p [(1, 0, 2), (0, -31, 2)] (q := 14) (ls' := [(2, 37), (0, a)]) (st' := [(2, -31), (2, 37)]) (by decide +kernel) rfl ?_
          refine zwW_cm IhL6 (op := 60) (k' := 246) (n := 1) (kd := 13) (m := 97) (nx := 17) (r := 37) (tl := [(2, -31)]) (st' := []) (by decide +kernel) rfl (by decide +kernel) (Nat.ble_eq_true_of_le (by omega)) (m246 hL6 IhL6 (-31) (by omega) iL6_1) ?_
          rintro x _ ⟨rfl, ⟨rfl, c7⟩ | ⟨rfl, c7⟩⟩
          · refine zwif_eq (q := 45) (nx := 20) (by decide +kernel) (fun c8 => ?_) (fun c8 => ?_)
            · exfalso; omega
            · refine zwW_p [(1, 0, 2)] (q := 21) (ls' := [(2, 37), (0, a)]) (st' := [(2, 37)]) (by decide +kernel) rfl ?_
              refine zwW_cmv IhL6 (op := 60) (k' := 268) (n := 0) (kd := 13) (m := 97) (nx := 24) (r := 37) (tl := []) (st' := []) (by decide +kernel) rfl (by decide +kernel) (Nat.ble_eq_true_of_le (by omega)) (m268 hL6 IhL6 iL6_1) ?_
              rintro h11 ⟨Ih11, Qh11, f9, f10⟩
              have Rh11 : zMR msP h h11 := RhL6.tr Qh11 (by decide +kernel)
              have zf10 := f10; unfold zP0 at zf10
              have Kh11 := Qh11.kp (by decide +kernel)
              have N21 : zNu hL6 h11 := zNu.mr IhL6 (by omega) Qh11 (by decide +kernel) (Qh11.f1 44 (by decide +kernel)) (by omega)
              refine zwW_p [(1, 0, 2), (1, 1, 0)] (q := 26) (ls' := [(2, 37), (0, a)]) (st' := [(0, a), (2, 37)]) (by decide +kernel) rfl ?_
              refine zwW_cm Ih11 (op := 60) (k' := 286) (n := 1) (kd := 13) (m := 97) (nx := 29) (r := 37) (tl := [(0, a)]) (st' := []) (by decide +kernel) rfl (by decide +kernel) (Nat.ble_eq_true_of_le (by omega)) (m286 a D0 pa HS HT HE h11 Ih11 f10 (by omega) (by omega)) ?_
              rintro x h12 ⟨Ih12, Qh12, f13, ⟨rfl, f14⟩ | ⟨rfl, f15⟩⟩
              · have Rh12 : zMR msP h h12 := Rh11.tr Qh12 (by decide +kernel)
                have zf13 := f13; unfold zP0 at zf13
                have Sh12 := f14.k Qh12
                have W26 := f14
                refine zwif_ne (q := 34) (nx := 32) (by decide +kernel) (fun c16 => ?_) (fun c16 => ?_)
                · refine zwW_p [(1, 0, 2), (0, 38, 0), (0, 0, 0)] (q := 38) (ls' := [(2, 37), (0, a)]) (st' := [(0, 0), (0, 38), (2, 37)]) (by decide +kernel) rfl ?_
                  refine zwW_cm Ih12 (op := 60) (k' := 270) (n := 2) (kd := 13) (m := 97) (nx := 41) (r := 37) (tl := [(0, 38), (0, 0)]) (st' := []) (by decide +kernel) rfl (by decide +kernel) (Nat.ble_eq_true_of_le (by omega)) (m270 h12 Ih12 38 0 (by omega) (by omega) (by omega) (by omega)) ?_
                  rintro x h20 ⟨Ih20, Qh20, rfl, f17, f18, f19⟩
                  have Rh20 : zMR msP h h20 := Rh12.tr Qh20 (by decide +kernel)
                  have Ph20 := f13.mr Qh20 (by decide +kernel)
                  have zPh20 := Ph20; unfold zP0 at zPh20
                  have Z38 : zPS h h20 := zPS_bin (by omega) (by omega) iL6_0 N21 (by omega) W26 (by omega) (zPu.of Qh20 f17 f18 f19) (by omega)
                  have Sh20 := Z38.k Rh20
                  have Th20 := Qh20.f1 42 (by decide +kernel)
                  refine zwW_p [(15, 0, 0), (24, 10, 0)] (q := 10) (ls' := [(2, 37), (0, a)]) (st' := []) (by decide +kernel) rfl ?_
                  exact IHL6 (fld h20 37 41 - fld h20 37 42).toNat (by omega) h20 rfl (Z38) (Ph20) Ih20 Rh20
                · exfalso; omega
              · have Rh12 : zMR msP h h12 := Rh11.tr Qh12 (by decide +kernel)
                have zf13 := f13; unfold zP0 at zf13
                refine zwif_ne (q := 34) (nx := 32) (by decide +kernel) (fun c21 => ?_) (fun c21 => ?_)
                · exfalso; omega
                · refine zwW_p [(0, 0, 0)] (q := 33) (ls' := [(2, 37), (0, a)]) (st' := [(0, 0)]) (by decide +kernel) rfl ?_
                  refine zwW_ret (nx := 34) (a := 1) (b := 0) (by decide +kernel) rfl (Or.inr (Or.inl ⟨rfl, by omega⟩)) ?_
                  exact ⟨Ih12, Rh12, by exact f13, Or.inr ⟨rfl, by omega⟩⟩
          · refine zwif_eq (q := 45) (nx := 20) (by decide +kernel) (fun c22 => ?_) (fun c22 => ?_)
            · have Z := iL6_0
              refine zwW_p [(0, 1, 0)] (q := 46) (ls' := [(2, 37), (0, a)]) (st' := [(0, 1)]) (by decide +kernel) rfl ?_
              refine zwW_ret (nx := 47) (a := 1) (b := 0) (by decide +kernel) rfl (Or.inr (Or.inl ⟨rfl, by omega⟩)) ?_
              exact ⟨IhL6, RhL6, by exact iL6_1, Or.inl ⟨rfl, by exact Z⟩⟩
            · exfalso; omega
      exact L6 _ h1 rfl (f3) (f2) Ih1 Rh1
    · exfalso; omega
  · have Rh1 : zMR msP h h1 := R.tr Qh1 (by decide +kernel)
    have zf2 := f2; unfold zP0 at zf2
    refine zwif_ne (q := 10) (nx := 8) (by decide +kernel) (fun c23 => ?_) (fun c23 => ?_)
    · exfalso; omega
    · refine zwW_p [(0, 0, 0)] (q := 9) (ls' := [(2, 37), (0, a)]) (st' := [(0, 0)]) (by decide +kernel) rfl ?_
      refine zwW_ret (nx := 10) (a := 1) (b := 0) (by decide +kernel) rfl (Or.inr (Or.inl ⟨rfl, by omega⟩)) ?_
      exact ⟨Ih1, Rh1, by exact f2, Or.inr ⟨rfl, by omega⟩⟩
-- WheelLandModel.either(I)Z
theorem m249 {sc : List Int} (a : Int) (D0 : Nat) (pa : 0 ≤ a ∧ a ≤ 8) (HS : a < 8 → zPX sc D0 248 (a + 1)) (HT : a < 8 → zPX sc D0 286 (a + 1)) (HE : a < 8 → zPX sc D0 249 (a + 1)) : zPX sc (D0 + 25) 249 a := by
  intro h I hP pc pk
  have hP0 := hP
  unfold zP0 at hP0
  have bk := I.b (a1 := 37) (a2 := 37) (j1 := 45) (j2 := 46) (lo := 0) (hi := 400) (by decide +kernel) (r := 37) (j := 45) (by decide) (by decide) (by decide) (by decide)
  have bt := I.b (a1 := 37) (a2 := 37) (j1 := 41) (j2 := 42) (lo := 0) (hi := 400) (by decide +kernel) (r := 37) (j := 41) (by decide) (by decide) (by decide) (by decide)
  refine zwC_of (D := D0 + 24) 2 (by decide +kernel) rfl (ls := [(2, 37), (0, a)]) rfl ?_
  have R : zMR msP h h := zMR.rf _ _
  refine zwW_p [(1, 0, 2), (1, 1, 0)] (q := 2) (ls' := [(2, 37), (0, a)]) (st' := [(0, a), (2, 37)]) (by decide +kernel) rfl ?_
  refine zwW_cm I (op := 60) (k' := 271) (n := 1) (kd := 13) (m := 97) (nx := 5) (r := 37) (tl := [(0, a)]) (st' := []) (by decide +kernel) rfl (by decide +kernel) (Nat.ble_eq_true_of_le (by omega)) (m271 a D0 pa HS HT HE h I hP (by omega) (by omega)) ?_
  rintro x h1 ⟨Ih1, Qh1, f2, ⟨rfl, f3⟩ | ⟨rfl, f4⟩⟩
  · have Rh1 : zMR msP h h1 := R.tr Qh1 (by decide +kernel)
    have zf2 := f2; unfold zP0 at zf2
    have Sh1 := f3.k Qh1
    refine zwif_ne (q := 10) (nx := 8) (by decide +kernel) (fun c5 => ?_) (fun c5 => ?_)
    · have L6 : ∀ (n : Nat) (hL6 : Hp), n = (fld hL6 37 41 - fld hL6 37 42).toNat → (zPS h hL6) → (zP0 hL6) → zI hL6 → zMR msP h hL6 → zwW sc (D0 + 24) 249 10 [(2, 37), (0, a)] [] hL6 (zwRt 0 (zPQ h)) := by
        intro n
        induction n using Nat.strongRecOn with
        | ind n IHL6 =>
          intro hL6 hnL6 iL6_0 iL6_1 IhL6 RhL6
          have ShL6 := iL6_0.k RhL6
          have yhL6 := iL6_1; unfold zP0 at yhL6
          refine zwW_p [(1, 0, 2), (0, -32, 2)] (q := 14) (ls' := [(2, 37), (0, a)]) (st' := [(2, -32), (2, 37)]) (by decide +kernel) rfl ?_
          refine zwW_cm IhL6 (op := 60) (k' := 246) (n := 1) (kd := 13) (m := 97) (nx := 17) (r := 37) (tl := [(2, -32)]) (st' := []) (by decide +kernel) rfl (by decide +kernel) (Nat.ble_eq_true_of_le (by omega)) (m246 hL6 IhL6 (-32) (by omega) iL6_1) ?_
          rintro x _ ⟨rfl, ⟨rfl, c7⟩ | ⟨rfl, c7⟩⟩
          · refine zwif_eq (q := 45) (nx := 20) (by decide +kernel) (fun c8 => ?_) (fun c8 => ?_)
            · exfalso; omega
            · refine zwW_p [(1, 0, 2)] (q := 21) (ls' := [(2, 37), (0, a)]) (st' := [(2, 37)]) (by decide +kernel) rfl ?_
              refine zwW_cmv IhL6 (op := 60) (k' := 268) (n := 0) (kd := 13) (m := 97) (nx := 24) (r := 37) (tl := []) (st' := []) (by decide +kernel) rfl (by decide +kernel) (Nat.ble_eq_true_of_le (by omega)) (m268 hL6 IhL6 iL6_1) ?_
              rintro h11 ⟨Ih11, Qh11, f9, f10⟩
              have Rh11 : zMR msP h h11 := RhL6.tr Qh11 (by decide +kernel)
              have zf10 := f10; unfold zP0 at zf10
              have Kh11 := Qh11.kp (by decide +kernel)
              have N21 : zNu hL6 h11 := zNu.mr IhL6 (by omega) Qh11 (by decide +kernel) (Qh11.f1 44 (by decide +kernel)) (by omega)
              refine zwW_p [(1, 0, 2), (1, 1, 0)] (q := 26) (ls' := [(2, 37), (0, a)]) (st' := [(0, a), (2, 37)]) (by decide +kernel) rfl ?_
              refine zwW_cm Ih11 (op := 60) (k' := 271) (n := 1) (kd := 13) (m := 97) (nx := 29) (r := 37) (tl := [(0, a)]) (st' := []) (by decide +kernel) rfl (by decide +kernel) (Nat.ble_eq_true_of_le (by omega)) (m271 a D0 pa HS HT HE h11 Ih11 f10 (by omega) (by omega)) ?_
              rintro x h12 ⟨Ih12, Qh12, f13, ⟨rfl, f14⟩ | ⟨rfl, f15⟩⟩
              · have Rh12 : zMR msP h h12 := Rh11.tr Qh12 (by decide +kernel)
                have zf13 := f13; unfold zP0 at zf13
                have Sh12 := f14.k Qh12
                have W26 := f14
                refine zwif_ne (q := 34) (nx := 32) (by decide +kernel) (fun c16 => ?_) (fun c16 => ?_)
                · refine zwW_p [(1, 0, 2), (0, 124, 0), (0, 0, 0)] (q := 38) (ls' := [(2, 37), (0, a)]) (st' := [(0, 0), (0, 124), (2, 37)]) (by decide +kernel) rfl ?_
                  refine zwW_cm Ih12 (op := 60) (k' := 270) (n := 2) (kd := 13) (m := 97) (nx := 41) (r := 37) (tl := [(0, 124), (0, 0)]) (st' := []) (by decide +kernel) rfl (by decide +kernel) (Nat.ble_eq_true_of_le (by omega)) (m270 h12 Ih12 124 0 (by omega) (by omega) (by omega) (by omega)) ?_
                  rintro x h20 ⟨Ih20, Qh20, rfl, f17, f18, f19⟩
                  have Rh20 : zMR msP h h20 := Rh12.tr Qh20 (by decide +kernel)
                  have Ph20 := f13.mr Qh20 (by decide +kernel)
                  have zPh20 := Ph20; unfold zP0 at zPh20
                  have Z38 : zPS h h20 := zPS_bin (by omega) (by omega) iL6_0 N21 (by omega) W26 (by omega) (zPu.of Qh20 f17 f18 f19) (by omega)
                  have Sh20 := Z38.k Rh20
                  have Th20 := Qh20.f1 42 (by decide +kernel)
                  refine zwW_p [(15, 0, 0), (24, 10, 0)] (q := 10) (ls' := [(2, 37), (0, a)]) (st' := []) (by decide +kernel) rfl ?_
                  exact IHL6 (fld h20 37 41 - fld h20 37 42).toNat (by omega) h20 rfl (Z38) (Ph20) Ih20 Rh20
                · exfalso; omega
              · have Rh12 : zMR msP h h12 := Rh11.tr Qh12 (by decide +kernel)
                have zf13 := f13; unfold zP0 at zf13
                refine zwif_ne (q := 34) (nx := 32) (by decide +kernel) (fun c21 => ?_) (fun c21 => ?_)
                · exfalso; omega
                · refine zwW_p [(0, 0, 0)] (q := 33) (ls' := [(2, 37), (0, a)]) (st' := [(0, 0)]) (by decide +kernel) rfl ?_
                  refine zwW_ret (nx := 34) (a := 1) (b := 0) (by decide +kernel) rfl (Or.inr (Or.inl ⟨rfl, by omega⟩)) ?_
                  exact ⟨Ih12, Rh12, by exact f13, Or.inr ⟨rfl, by omega⟩⟩
          · refine zwif_eq (q := 45) (nx := 20) (by decide +kernel) (fun c22 => ?_) (fun c22 => ?_)
            · have Z := iL6_0
              refine zwW_p [(0, 1, 0)] (q := 46) (ls' := [(2, 37), (0, a)]) (st' := [(0, 1)]) (by decide +kernel) rfl ?_
              refine zwW_ret (nx := 47) (a := 1) (b := 0) (by decide +kernel) rfl (Or.inr (Or.inl ⟨rfl, by omega⟩)) ?_
              exact ⟨IhL6, RhL6, by exact iL6_1, Or.inl ⟨rfl, by exact Z⟩⟩
            · exfalso; omega
      exact L6 _ h1 rfl (f3) (f2) Ih1 Rh1
    · exfalso; omega
  · have Rh1 : zMR msP h h1 := R.tr Qh1 (by decide +kernel)
    have zf2 := f2; unfold zP0 at zf2
    refine zwif_ne (q := 10) (nx := 8) (by decide +kernel) (fun c23 => ?_) (fun c23 => ?_)
    · exfalso; omega
    · refine zwW_p [(0, 0, 0)] (q := 9) (ls' := [(2, 37), (0, a)]) (st' := [(0, 0)]) (by decide +kernel) rfl ?_
      refine zwW_ret (nx := 10) (a := 1) (b := 0) (by decide +kernel) rfl (Or.inr (Or.inl ⟨rfl, by omega⟩)) ?_
      exact ⟨Ih1, Rh1, by exact f2, Or.inr ⟨rfl, by omega⟩⟩
