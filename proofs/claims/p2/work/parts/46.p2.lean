/-! contracts of methods -/
-- WheelLandModel.factor(I)Z
theorem m285 {sc : List Int} (a : Int) (D0 : Nat) (pa : 0 ≤ a ∧ a ≤ 8) (HS : a < 8 → zPX sc D0 248 (a + 1)) : zPX sc (D0 + 20) 285 a := by
  intro h I hP pc pk
  have hP0 := hP
  unfold zP0 at hP0
  have bk := I.b (a1 := 37) (a2 := 37) (j1 := 45) (j2 := 46) (lo := 0) (hi := 400) (by decide +kernel) (r := 37) (j := 45) (by decide) (by decide) (by decide) (by decide)
  have bt := I.b (a1 := 37) (a2 := 37) (j1 := 41) (j2 := 42) (lo := 0) (hi := 400) (by decide +kernel) (r := 37) (j := 41) (by decide) (by decide) (by decide) (by decide)
  refine zwC_of (D := D0 + 19) 3 (by decide +kernel) rfl (ls := [(2, 37), (0, a), (9, 0)]) rfl ?_
  have R : zMR msP h h := zMR.rf _ _
  refine zwW_p [(1, 0, 2), (0, 40, 0)] (q := 3) (ls' := [(2, 37), (0, a), (9, 0)]) (st' := [(0, 40), (2, 37)]) (by decide +kernel) rfl ?_
  refine zwW_cm I (op := 60) (k' := 250) (n := 1) (kd := 13) (m := 97) (nx := 6) (r := 37) (tl := [(0, 40)]) (st' := []) (by decide +kernel) rfl (by decide +kernel) (Nat.ble_eq_true_of_le (by omega)) (m250 h I 40) ?_
  rintro x _ ⟨rfl, ⟨rfl, c1⟩ | ⟨rfl, c1⟩⟩
  · refine zwif_eq (q := 56) (nx := 9) (by decide +kernel) (fun c2 => ?_) (fun c2 => ?_)
    · exfalso; omega
    · refine zwW_p [(1, 0, 2), (1, 1, 0), (0, 8, 0)] (q := 13) (ls' := [(2, 37), (0, a), (9, 0)]) (st' := [(0, 8), (0, a), (2, 37)]) (by decide +kernel) rfl ?_
      refine zwic_ge (q := 20) (nx := 16) (by decide +kernel) (fun c3 => ?_) (fun c3 => ?_)
      · refine zwW_p [(0, 0, 0)] (q := 21) (ls' := [(2, 37), (0, a), (9, 0)]) (st' := [(0, 0), (2, 37)]) (by decide +kernel) rfl ?_
        refine zwW_cm I (op := 60) (k' := 247) (n := 1) (kd := 13) (m := 97) (nx := 24) (r := 37) (tl := [(0, 0)]) (st' := []) (by decide +kernel) rfl (by decide +kernel) (Nat.ble_eq_true_of_le (by omega)) (m247 h I 0 hP) ?_
        rintro x h4 ⟨Ih4, Qh4, ⟨rfl, f5, f6, f7, f8⟩ | ⟨rfl, f9, f10, f11⟩⟩
        · have Rh4 : zMR msP h h4 := R.tr Qh4 (by decide +kernel)
          have zf6 := f6; unfold zP0 at zf6
          have Kh4 := Qh4.kp (by decide +kernel)
          have N21 : zNu h h4 := zNu.mr I pc Qh4 (by decide +kernel) (by omega) (by omega)
          have hh21 := Qh4
          refine zwif_eq (q := 54) (nx := 27) (by decide +kernel) (fun c12 => ?_) (fun c12 => ?_)
          · exfalso; omega
          · refine zwW_p [(1, 0, 2), (1, 1, 0), (0, 1, 0)] (q := 30) (ls' := [(2, 37), (0, a), (9, 0)]) (st' := [(0, 1), (0, a), (2, 37)]) (by decide +kernel) rfl ?_
            refine zwW_add (nx := 31) (by decide +kernel) ⟨by omega, by omega⟩ ?_
            refine zwW_cm Ih4 (op := 60) (k' := 248) (n := 1) (kd := 13) (m := 97) (nx := 34) (r := 37) (tl := [(0, (a + 1))]) (st' := []) (by decide +kernel) rfl (by decide +kernel) (Nat.ble_eq_true_of_le (by omega)) (HS (by omega) h4 Ih4 f6 (by omega) (by omega)) ?_
            rintro x h13 ⟨Ih13, Qh13, f14, ⟨rfl, f15⟩ | ⟨rfl, f16⟩⟩
            · have Rh13 : zMR msP h h13 := Rh4.tr Qh13 (by decide +kernel)
              have zf14 := f14; unfold zP0 at zf14
              have Sh13 := f15.k Qh13
              have W31 := f15
              refine zwif_eq (q := 54) (nx := 37) (by decide +kernel) (fun c17 => ?_) (fun c17 => ?_)
              · exfalso; omega
              · refine zwW_p [(1, 0, 2), (1, 0, 2), (0, 41, 0)] (q := 41) (ls' := [(2, 37), (0, a), (9, 0)]) (st' := [(0, 41), (2, 37), (2, 37)]) (by decide +kernel) rfl ?_
                refine zwW_cm Ih13 (op := 60) (k' := 250) (n := 1) (kd := 13) (m := 97) (nx := 44) (r := 37) (tl := [(0, 41)]) (st' := [(2, 37)]) (by decide +kernel) rfl (by decide +kernel) (Nat.ble_eq_true_of_le (by omega)) (m250 h13 Ih13 41) ?_
                rintro x _ ⟨rfl, ⟨rfl, c18⟩ | ⟨rfl, c18⟩⟩
                · refine zwW_cm Ih13 (op := 60) (k' := 247) (n := 1) (kd := 13) (m := 97) (nx := 47) (r := 37) (tl := [(0, 1)]) (st' := []) (by decide +kernel) rfl (by decide +kernel) (Nat.ble_eq_true_of_le (by omega)) (m247 h13 Ih13 1 f14) ?_
                  rintro x h19 ⟨Ih19, Qh19, ⟨rfl, f20, f21, f22, f23⟩ | ⟨rfl, f24, f25, f26⟩⟩
                  · have Rh19 : zMR msP h h19 := Rh13.tr Qh19 (by decide +kernel)
                    have zf21 := f21; unfold zP0 at zf21
                    have Kh19 := Qh19.kp (by decide +kernel)
                    have N44 : zNu h13 h19 := zNu.mr Ih13 (by omega) Qh19 (by decide +kernel) (by omega) (by omega)
                    have Z : zPS h h19 := (W31.pre N21).post (by omega) N44
                    refine zwif_eq (q := 54) (nx := 50) (by decide +kernel) (fun c27 => ?_) (fun c27 => ?_)
                    · exfalso; omega
                    · refine zwW_p [(0, 1, 0), (24, 55, 0)] (q := 55) (ls' := [(2, 37), (0, a), (9, 0)]) (st' := [(0, 1)]) (by decide +kernel) rfl ?_
                      refine zwW_ret (nx := 56) (a := 1) (b := 0) (by decide +kernel) rfl (Or.inr (Or.inl ⟨rfl, by omega⟩)) ?_
                      exact ⟨Ih19, Rh19, by exact f21, Or.inl ⟨rfl, by exact Z⟩⟩
                  · have Rh19 : zMR msP h h19 := Rh13.tr Qh19 (by decide +kernel)
                    have zf25 := f25; unfold zP0 at zf25
                    refine zwif_eq (q := 54) (nx := 50) (by decide +kernel) (fun c28 => ?_) (fun c28 => ?_)
                    · refine zwW_p [(0, 0, 0)] (q := 55) (ls' := [(2, 37), (0, a), (9, 0)]) (st' := [(0, 0)]) (by decide +kernel) rfl ?_
                      refine zwW_ret (nx := 56) (a := 1) (b := 0) (by decide +kernel) rfl (Or.inr (Or.inl ⟨rfl, by omega⟩)) ?_
                      exact ⟨Ih19, Rh19, by exact f25, Or.inr ⟨rfl, by omega⟩⟩
                    · exfalso; omega
                · refine zwW_cm Ih13 (op := 60) (k' := 247) (n := 1) (kd := 13) (m := 97) (nx := 47) (r := 37) (tl := [(0, 0)]) (st' := []) (by decide +kernel) rfl (by decide +kernel) (Nat.ble_eq_true_of_le (by omega)) (m247 h13 Ih13 0 f14) ?_
                  rintro x h29 ⟨Ih29, Qh29, ⟨rfl, f30, f31, f32, f33⟩ | ⟨rfl, f34, f35, f36⟩⟩
                  · have Rh29 : zMR msP h h29 := Rh13.tr Qh29 (by decide +kernel)
                    have zf31 := f31; unfold zP0 at zf31
                    have Kh29 := Qh29.kp (by decide +kernel)
                    have N44 : zNu h13 h29 := zNu.mr Ih13 (by omega) Qh29 (by decide +kernel) (by omega) (by omega)
                    have Z : zPS h h29 := (W31.pre N21).post (by omega) N44
                    refine zwif_eq (q := 54) (nx := 50) (by decide +kernel) (fun c37 => ?_) (fun c37 => ?_)
                    · exfalso; omega
                    · refine zwW_p [(0, 1, 0), (24, 55, 0)] (q := 55) (ls' := [(2, 37), (0, a), (9, 0)]) (st' := [(0, 1)]) (by decide +kernel) rfl ?_
                      refine zwW_ret (nx := 56) (a := 1) (b := 0) (by decide +kernel) rfl (Or.inr (Or.inl ⟨rfl, by omega⟩)) ?_
                      exact ⟨Ih29, Rh29, by exact f31, Or.inl ⟨rfl, by exact Z⟩⟩
                  · have Rh29 : zMR msP h h29 := Rh13.tr Qh29 (by decide +kernel)
                    have zf35 := f35; unfold zP0 at zf35
                    refine zwif_eq (q := 54) (nx := 50) (by decide +kernel) (fun c38 => ?_) (fun c38 => ?_)
                    · refine zwW_p [(0, 0, 0)] (q := 55) (ls' := [(2, 37), (0, a), (9, 0)]) (st' := [(0, 0)]) (by decide +kernel) rfl ?_
                      refine zwW_ret (nx := 56) (a := 1) (b := 0) (by decide +kernel) rfl (Or.inr (Or.inl ⟨rfl, by omega⟩)) ?_
                      exact ⟨Ih29, Rh29, by exact f35, Or.inr ⟨rfl, by omega⟩⟩
                    · exfalso; omega
            · have Rh13 : zMR msP h h13 := Rh4.tr Qh13 (by decide +kernel)
              have zf14 := f14; unfold zP0 at zf14
              refine zwif_eq (q := 54) (nx := 37) (by decide +kernel) (fun c39 => ?_) (fun c39 => ?_)
              · refine zwW_p [(0, 0, 0)] (q := 55) (ls' := [(2, 37), (0, a), (9, 0)]) (st' := [(0, 0)]) (by decide +kernel) rfl ?_
                refine zwW_ret (nx := 56) (a := 1) (b := 0) (by decide +kernel) rfl (Or.inr (Or.inl ⟨rfl, by omega⟩)) ?_
                exact ⟨Ih13, Rh13, by exact f14, Or.inr ⟨rfl, by omega⟩⟩
              · exfalso; omega
        · have Rh4 : zMR msP h h4 := R.tr Qh4 (by decide +kernel)
          have zf10 := f10; unfold zP0 at zf10
          refine zwif_eq (q := 54) (nx := 27) (by decide +kernel) (fun c40 => ?_) (fun c40 => ?_)
          · refine zwW_p [(0, 0, 0)] (q := 55) (ls' := [(2, 37), (0, a), (9, 0)]) (st' := [(0, 0)]) (by decide +kernel) rfl ?_
            refine zwW_ret (nx := 56) (a := 1) (b := 0) (by decide +kernel) rfl (Or.inr (Or.inl ⟨rfl, by omega⟩)) ?_
            exact ⟨Ih4, Rh4, by exact f10, Or.inr ⟨rfl, by omega⟩⟩
          · exfalso; omega
      · refine zwW_p [(0, 1, 0), (24, 21, 0)] (q := 21) (ls' := [(2, 37), (0, a), (9, 0)]) (st' := [(0, 1), (2, 37)]) (by decide +kernel) rfl ?_
        refine zwW_cm I (op := 60) (k' := 247) (n := 1) (kd := 13) (m := 97) (nx := 24) (r := 37) (tl := [(0, 1)]) (st' := []) (by decide +kernel) rfl (by decide +kernel) (Nat.ble_eq_true_of_le (by omega)) (m247 h I 1 hP) ?_
        rintro x h41 ⟨Ih41, Qh41, ⟨rfl, f42, f43, f44, f45⟩ | ⟨rfl, f46, f47, f48⟩⟩
        · have Rh41 : zMR msP h h41 := R.tr Qh41 (by decide +kernel)
          have zf43 := f43; unfold zP0 at zf43
          have Kh41 := Qh41.kp (by decide +kernel)
          have N21 : zNu h h41 := zNu.mr I pc Qh41 (by decide +kernel) (by omega) (by omega)
          have hh21 := Qh41
          refine zwif_eq (q := 54) (nx := 27) (by decide +kernel) (fun c49 => ?_) (fun c49 => ?_)
          · exfalso; omega
          · refine zwW_p [(1, 0, 2), (1, 1, 0), (0, 1, 0)] (q := 30) (ls' := [(2, 37), (0, a), (9, 0)]) (st' := [(0, 1), (0, a), (2, 37)]) (by decide +kernel) rfl ?_
            refine zwW_add (nx := 31) (by decide +kernel) ⟨by omega, by omega⟩ ?_
            refine zwW_cm Ih41 (op := 60) (k' := 248) (n := 1) (kd := 13) (m := 97) (nx := 34) (r := 37) (tl := [(0, (a + 1))]) (st' := []) (by decide +kernel) rfl (by decide +kernel) (Nat.ble_eq_true_of_le (by omega)) (HS (by omega) h41 Ih41 f43 (by omega) (by omega)) ?_
            rintro x h50 ⟨Ih50, Qh50, f51, ⟨rfl, f52⟩ | ⟨rfl, f53⟩⟩
            · have Rh50 : zMR msP h h50 := Rh41.tr Qh50 (by decide +kernel)
              have zf51 := f51; unfold zP0 at zf51
              have Sh50 := f52.k Qh50
              have W31 := f52
              refine zwif_eq (q := 54) (nx := 37) (by decide +kernel) (fun c54 => ?_) (fun c54 => ?_)
              · exfalso; omega
              · refine zwW_p [(1, 0, 2), (1, 0, 2), (0, 41, 0)] (q := 41) (ls' := [(2, 37), (0, a), (9, 0)]) (st' := [(0, 41), (2, 37), (2, 37)]) (by decide +kernel) rfl ?_
                refine zwW_cm Ih50 (op := 60) (k' := 250) (n := 1) (kd := 13) (m := 97) (nx := 44) (r := 37) (tl := [(0, 41)]) (st' := [(2, 37)]) (by decide +kernel) rfl (by decide +kernel) (Nat.ble_eq_true_of_le (by omega)) (m250 h50 Ih50 41) ?_
                rintro x _ ⟨rfl, ⟨rfl, c55⟩ | ⟨rfl, c55⟩⟩
                · refine zwW_cm Ih50 (op := 60) (k' := 247) (n := 1) (kd := 13) (m := 97) (nx := 47) (r := 37) (tl := [(0, 1)]) (st' := []) (by decide +kernel) rfl (by decide +kernel) (Nat.ble_eq_true_of_le (by omega)) (m247 h50 Ih50 1 f51) ?_
                  rintro x h56 ⟨Ih56, Qh56, ⟨rfl, f57, f58, f59, f60⟩ | ⟨rfl, f61, f62, f63⟩⟩
                  · have Rh56 : zMR msP h h56 := Rh50.tr Qh56 (by decide +kernel)
                    have zf58 := f58; unfold zP0 at zf58
                    have Kh56 := Qh56.kp (by decide +kernel)
                    have N44 : zNu h50 h56 := zNu.mr Ih50 (by omega) Qh56 (by decide +kernel) (by omega) (by omega)
                    have Z : zPS h h56 := (W31.pre N21).post (by omega) N44
                    refine zwif_eq (q := 54) (nx := 50) (by decide +kernel) (fun c64 => ?_) (fun c64 => ?_)
                    · exfalso; omega
                    · refine zwW_p [(0, 1, 0), (24, 55, 0)] (q := 55) (ls' := [(2, 37), (0, a), (9, 0)]) (st' := [(0, 1)]) (by decide +kernel) rfl ?_
                      refine zwW_ret (nx := 56) (a := 1) (b := 0) (by decide +kernel) rfl (Or.inr (Or.inl ⟨rfl, by omega⟩)) ?_
                      exact ⟨Ih56, Rh56, by exact f58, Or.inl ⟨rfl, by exact Z⟩⟩
                  · have Rh56 : zMR msP h h56 := Rh50.tr Qh56 (by decide +kernel)
                    have zf62 := f62; unfold zP0 at zf62
                    refine zwif_eq (q := 54) (nx := 50) (by decide +kernel) (fun c65 => ?_) (fun c65 => ?_)
                    · refine zwW_p [(0, 0, 0)] (q := 55) (ls' := [(2, 37), (0, a), (9, 0)]) (st' := [(0, 0)]) (by decide +kernel) rfl ?_
                      refine zwW_ret (nx := 56) (a := 1) (b := 0) (by decide +kernel) rfl (Or.inr (Or.inl ⟨rfl, by omega⟩)) ?_
                      exact ⟨Ih56, Rh56, by exact f62, Or.inr ⟨rfl, by omega⟩⟩
                    · exfalso; omega
                · refine zwW_cm Ih50 (op := 60) (k' := 247) (n := 1) (kd := 13) (m := 97) (nx := 47) (r := 37) (tl := [(0, 0)]) (st' := []) (by decide +kernel) rfl (by decide +kernel) (Nat.ble_eq_true_of_le (by omega)) (m247 h50 Ih50 0 f51) ?_
                  rintro x h66 ⟨Ih66, Qh66, ⟨rfl, f67, f68, f69, f70⟩ | ⟨rfl, f71, f72, f73⟩⟩
                  · have Rh66 : zMR msP h h66 := Rh50.tr Qh66 (by decide +kernel)
                    have zf68 := f68; unfold zP0 at zf68
                    have Kh66 := Qh66.kp (by decide +kernel)
                    have N44 : zNu h50 h66 := zNu.mr Ih50 (by omega) Qh66 (by decide +kernel) (by omega) (by omega)
                    have Z : zPS h h66 := (W31.pre N21).post (by omega) N44
                    refine zwif_eq (q := 54) (nx := 50) (by decide +kernel) (fun c74 => ?_) (fun c74 => ?_)
                    · exfalso; omega
                    · refine zwW_p [(0, 1, 0), (24, 55, 0)] (q := 55) (ls' := [(2, 37), (0, a), (9, 0)]) (st' := [(0, 1)]) (by decide +kernel) rfl ?_
                      refine zwW_ret (nx := 56) (a := 1) (b := 0) (by decide +kernel) rfl (Or.inr (Or.inl ⟨rfl, by omega⟩)) ?_
                      exact ⟨Ih66, Rh66, by exact f68, Or.inl ⟨rfl, by exact Z⟩⟩
                  · have Rh66 : zMR msP h h66 := Rh50.tr Qh66 (by decide +kernel)
                    have zf72 := f72; unfold zP0 at zf72
                    refine zwif_eq (q := 54) (nx := 50) (by decide +kernel) (fun c75 => ?_) (fun c75 => ?_)
                    · refine zwW_p [(0, 0, 0)] (q := 55) (ls' := [(2, 37), (0, a), (9, 0)]) (st' := [(0, 0)]) (by decide +kernel) rfl ?_
                      refine zwW_ret (nx := 56) (a := 1) (b := 0) (by decide +kernel) rfl (Or.inr (Or.inl ⟨rfl, by omega⟩)) ?_
                      exact ⟨Ih66, Rh66, by exact f72, Or.inr ⟨rfl, by omega⟩⟩
                    · exfalso; omega
            · have Rh50 : zMR msP h h50 := Rh41.tr Qh50 (by decide +kernel)
              have zf51 := f51; unfold zP0 at zf51
              refine zwif_eq (q := 54) (nx := 37) (by decide +kernel) (fun c76 => ?_) (fun c76 => ?_)
              · refine zwW_p [(0, 0, 0)] (q := 55) (ls' := [(2, 37), (0, a), (9, 0)]) (st' := [(0, 0)]) (by decide +kernel) rfl ?_
                refine zwW_ret (nx := 56) (a := 1) (b := 0) (by decide +kernel) rfl (Or.inr (Or.inl ⟨rfl, by omega⟩)) ?_
                exact ⟨Ih50, Rh50, by exact f51, Or.inr ⟨rfl, by omega⟩⟩
              · exfalso; omega
        · have Rh41 : zMR msP h h41 := R.tr Qh41 (by decide +kernel)
          have zf47 := f47; unfold zP0 at zf47
          refine zwif_eq (q := 54) (nx := 27) (by decide +kernel) (fun c77 => ?_) (fun c77 => ?_)
          · refine zwW_p [(0, 0, 0)] (q := 55) (ls' := [(2, 37), (0, a), (9, 0)]) (st' := [(0, 0)]) (by decide +kernel) rfl ?_
            refine zwW_ret (nx := 56) (a := 1) (b := 0) (by decide +kernel) rfl (Or.inr (Or.inl ⟨rfl, by omega⟩)) ?_
            exact ⟨Ih41, Rh41, by exact f47, Or.inr ⟨rfl, by omega⟩⟩
          · exfalso; omega
  · refine zwif_eq (q := 56) (nx := 9) (by decide +kernel) (fun c78 => ?_) (fun c78 => ?_)
    · refine zwW_p [(1, 0, 2)] (q := 57) (ls' := [(2, 37), (0, a), (9, 0)]) (st' := [(2, 37)]) (by decide +kernel) rfl ?_
      refine zwW_cm I (op := 60) (k' := 296) (n := 0) (kd := 13) (m := 97) (nx := 60) (r := 37) (tl := []) (st' := []) (by decide +kernel) rfl (by decide +kernel) (Nat.ble_eq_true_of_le (by omega)) (m296 h I hP) ?_
      rintro x h79 ⟨Ih79, Qh79, ⟨rfl, f80⟩ | rfl⟩
      · have Rh79 : zMR msP h h79 := R.tr Qh79 (by decide +kernel)
        have Ph79 := hP.mr Qh79 (by decide +kernel); have zPh79 := Ph79; unfold zP0 at zPh79
        have Kh79 := Qh79.kp (by decide +kernel)
        have N57 : zNu h h79 := zNu.mr I pc Qh79 (by decide +kernel) (Qh79.f1 44 (by decide +kernel)) (Int.le_of_eq (Qh79.f1 42 (by decide +kernel)).symm)
        have M57 := Qh79.f1 42 (by decide +kernel)
        refine zwif_eq (q := 103) (nx := 63) (by decide +kernel) (fun c81 => ?_) (fun c81 => ?_)
        · exfalso; omega
        · refine zwW_p [(1, 0, 2)] (q := 64) (ls' := [(2, 37), (0, a), (9, 0)]) (st' := [(2, 37)]) (by decide +kernel) rfl ?_
          refine zwW_gs Ih79 (kd := 13) (bn := 46) (n := 97) (t := 0) (lo := -2147483648) (hi := 2147483647) (nx := 67) (by decide +kernel) ?_
          intro v82 ev82 lv82 uv82
          refine zwW_p [(2, 2, 0), (1, 0, 2), (1, 2, 0), (0, 9999, 0)] (q := 73) (ls' := [(2, 37), (0, a), (0, v82)]) (st' := [(0, 9999), (0, v82), (2, 37)]) (by decide +kernel) rfl ?_
          refine zwic_gt (q := 80) (nx := 76) (by decide +kernel) (fun c83 => ?_) (fun c83 => ?_)
          · refine zwW_p [(0, 0, 0)] (q := 81) (ls' := [(2, 37), (0, a), (0, v82)]) (st' := [(0, 0), (2, 37)]) (by decide +kernel) rfl ?_
            refine zwW_cm Ih79 (op := 60) (k' := 247) (n := 1) (kd := 13) (m := 97) (nx := 84) (r := 37) (tl := [(0, 0)]) (st' := []) (by decide +kernel) rfl (by decide +kernel) (Nat.ble_eq_true_of_le (by omega)) (m247 h79 Ih79 0 Ph79) ?_
            rintro x h84 ⟨Ih84, Qh84, ⟨rfl, f85, f86, f87, f88⟩ | ⟨rfl, f89, f90, f91⟩⟩
            · have Rh84 : zMR msP h h84 := Rh79.tr Qh84 (by decide +kernel)
              have zf86 := f86; unfold zP0 at zf86
              have Kh84 := Qh84.kp (by decide +kernel)
              have N81 := N57.tr (zNu.mr Ih79 (by omega) Qh84 (by decide +kernel) (by omega) (by omega))
              refine zwif_eq (q := 101) (nx := 87) (by decide +kernel) (fun c92 => ?_) (fun c92 => ?_)
              · exfalso; omega
              · refine zwW_p [(1, 0, 2), (0, 110, 0), (1, 2, 0)] (q := 91) (ls' := [(2, 37), (0, a), (0, v82)]) (st' := [(0, v82), (0, 110), (2, 37)]) (by decide +kernel) rfl ?_
                refine zwW_cm Ih84 (op := 60) (k' := 270) (n := 2) (kd := 13) (m := 97) (nx := 94) (r := 37) (tl := [(0, 110), (0, v82)]) (st' := []) (by decide +kernel) rfl (by decide +kernel) (Nat.ble_eq_true_of_le (by omega)) (m270 h84 Ih84 110 v82 (by omega) (by omega) (by omega) (by omega)) ?_
                rintro x h96 ⟨Ih96, Qh96, rfl, f93, f94, f95⟩
                have Rh96 : zMR msP h h96 := Rh84.tr Qh96 (by decide +kernel)
                have Ph96 := f86.mr Qh96 (by decide +kernel); have zPh96 := Ph96; unfold zP0 at zPh96
                have Z : zPS h h96 := zPS_push (by omega) N81 (by omega) (zPu.of Qh96 f93 f94 f95) (by omega)
                refine zwif_eq (q := 101) (nx := 97) (by decide +kernel) (fun c97 => ?_) (fun c97 => ?_)
                · exfalso; omega
                · refine zwW_p [(0, 1, 0), (24, 102, 0)] (q := 102) (ls' := [(2, 37), (0, a), (0, v82)]) (st' := [(0, 1)]) (by decide +kernel) rfl ?_
                  refine zwW_ret (nx := 103) (a := 1) (b := 0) (by decide +kernel) rfl (Or.inr (Or.inl ⟨rfl, by omega⟩)) ?_
                  exact ⟨Ih96, Rh96, by exact Ph96, Or.inl ⟨rfl, by exact Z⟩⟩
            · have Rh84 : zMR msP h h84 := Rh79.tr Qh84 (by decide +kernel)
              have zf90 := f90; unfold zP0 at zf90
              refine zwif_eq (q := 101) (nx := 87) (by decide +kernel) (fun c98 => ?_) (fun c98 => ?_)
              · refine zwW_p [(0, 0, 0)] (q := 102) (ls' := [(2, 37), (0, a), (0, v82)]) (st' := [(0, 0)]) (by decide +kernel) rfl ?_
                refine zwW_ret (nx := 103) (a := 1) (b := 0) (by decide +kernel) rfl (Or.inr (Or.inl ⟨rfl, by omega⟩)) ?_
                exact ⟨Ih84, Rh84, by exact f90, Or.inr ⟨rfl, by omega⟩⟩
              · exfalso; omega
          · refine zwW_p [(0, 1, 0), (24, 81, 0)] (q := 81) (ls' := [(2, 37), (0, a), (0, v82)]) (st' := [(0, 1), (2, 37)]) (by decide +kernel) rfl ?_
            refine zwW_cm Ih79 (op := 60) (k' := 247) (n := 1) (kd := 13) (m := 97) (nx := 84) (r := 37) (tl := [(0, 1)]) (st' := []) (by decide +kernel) rfl (by decide +kernel) (Nat.ble_eq_true_of_le (by omega)) (m247 h79 Ih79 1 Ph79) ?_
            rintro x h99 ⟨Ih99, Qh99, ⟨rfl, f100, f101, f102, f103⟩ | ⟨rfl, f104, f105, f106⟩⟩
            · have Rh99 : zMR msP h h99 := Rh79.tr Qh99 (by decide +kernel)
              have zf101 := f101; unfold zP0 at zf101
              have Kh99 := Qh99.kp (by decide +kernel)
              have N81 := N57.tr (zNu.mr Ih79 (by omega) Qh99 (by decide +kernel) (by omega) (by omega))
              refine zwif_eq (q := 101) (nx := 87) (by decide +kernel) (fun c107 => ?_) (fun c107 => ?_)
              · exfalso; omega
              · refine zwW_p [(1, 0, 2), (0, 110, 0), (1, 2, 0)] (q := 91) (ls' := [(2, 37), (0, a), (0, v82)]) (st' := [(0, v82), (0, 110), (2, 37)]) (by decide +kernel) rfl ?_
                refine zwW_cm Ih99 (op := 60) (k' := 270) (n := 2) (kd := 13) (m := 97) (nx := 94) (r := 37) (tl := [(0, 110), (0, v82)]) (st' := []) (by decide +kernel) rfl (by decide +kernel) (Nat.ble_eq_true_of_le (by omega)) (m270 h99 Ih99 110 v82 (by omega) (by omega) (by omega) (by omega)) ?_
                rintro x h111 ⟨Ih111, Qh111, rfl, f108, f109, f110⟩
                have Rh111 : zMR msP h h111 := Rh99.tr Qh111 (by decide +kernel)
                have Ph111 := f101.mr Qh111 (by decide +kernel); have zPh111 := Ph111; unfold zP0 at zPh111
                have Z : zPS h h111 := zPS_push (by omega) N81 (by omega) (zPu.of Qh111 f108 f109 f110) (by omega)
                refine zwif_eq (q := 101) (nx := 97) (by decide +kernel) (fun c112 => ?_) (fun c112 => ?_)
                · exfalso; omega
                · refine zwW_p [(0, 1, 0), (24, 102, 0)] (q := 102) (ls' := [(2, 37), (0, a), (0, v82)]) (st' := [(0, 1)]) (by decide +kernel) rfl ?_
                  refine zwW_ret (nx := 103) (a := 1) (b := 0) (by decide +kernel) rfl (Or.inr (Or.inl ⟨rfl, by omega⟩)) ?_
                  exact ⟨Ih111, Rh111, by exact Ph111, Or.inl ⟨rfl, by exact Z⟩⟩
            · have Rh99 : zMR msP h h99 := Rh79.tr Qh99 (by decide +kernel)
              have zf105 := f105; unfold zP0 at zf105
              refine zwif_eq (q := 101) (nx := 87) (by decide +kernel) (fun c113 => ?_) (fun c113 => ?_)
              · refine zwW_p [(0, 0, 0)] (q := 102) (ls' := [(2, 37), (0, a), (0, v82)]) (st' := [(0, 0)]) (by decide +kernel) rfl ?_
                refine zwW_ret (nx := 103) (a := 1) (b := 0) (by decide +kernel) rfl (Or.inr (Or.inl ⟨rfl, by omega⟩)) ?_
                exact ⟨Ih99, Rh99, by exact f105, Or.inr ⟨rfl, by omega⟩⟩
              · exfalso; omega
      · have Rh79 : zMR msP h h79 := R.tr Qh79 (by decide +kernel)
        have Ph79 := hP.mr Qh79 (by decide +kernel); have zPh79 := Ph79; unfold zP0 at zPh79
        have Kh79 := Qh79.kp (by decide +kernel)
        have N57 : zNu h h79 := zNu.mr I pc Qh79 (by decide +kernel) (Qh79.f1 44 (by decide +kernel)) (Int.le_of_eq (Qh79.f1 42 (by decide +kernel)).symm)
        have M57 := Qh79.f1 42 (by decide +kernel)
        refine zwif_eq (q := 103) (nx := 63) (by decide +kernel) (fun c114 => ?_) (fun c114 => ?_)
        · refine zwW_p [(0, 0, 0), (2, 2, 0)] (q := 105) (ls' := [(2, 37), (0, a), (0, 0)]) (st' := []) (by decide +kernel) rfl ?_
          have L115 : ∀ (n : Nat) (kL115 : Int), n = ((1000 - kL115)).toNat → (0 ≤ kL115 ∧ kL115 ≤ 13) → zwW sc (D0 + 19) 285 105 [(2, 37), (0, a), (0, kL115)] [] h79 (zwRt 0 (zPQ h)) := by
            intro n
            induction n using Nat.strongRecOn with
            | ind n IHL115 =>
              intro kL115 hnL115 iL115_0
              refine zwW_p [(1, 2, 0), (0, 13, 0)] (q := 108) (ls' := [(2, 37), (0, a), (0, kL115)]) (st' := [(0, 13), (0, kL115)]) (by decide +kernel) rfl ?_
              refine zwic_ge (q := 154) (nx := 111) (by decide +kernel) (fun c116 => ?_) (fun c116 => ?_)
              · refine zwW_p [(1, 0, 2)] (q := 155) (ls' := [(2, 37), (0, a), (0, kL115)]) (st' := [(2, 37)]) (by decide +kernel) rfl ?_
                refine zwW_cm Ih79 (op := 60) (k' := 267) (n := 0) (kd := 13) (m := 97) (nx := 158) (r := 37) (tl := []) (st' := []) (by decide +kernel) rfl (by decide +kernel) (Nat.ble_eq_true_of_le (by omega)) (m267 h79 Ih79) ?_
                rintro x h118 ⟨Ih118, Qh118, rfl, f117⟩
                have Rh118 : zMR msP h h118 := Rh79.tr Qh118 (by decide +kernel)
                have Ph118 := Ph79.mr Qh118 (by decide +kernel); have zPh118 := Ph118; unfold zP0 at zPh118
                refine zwW_ret (nx := 159) (a := 1) (b := 0) (by decide +kernel) rfl (Or.inr (Or.inl ⟨rfl, by omega⟩)) ?_
                exact ⟨Ih118, Rh118, by exact Ph118, Or.inr ⟨rfl, by omega⟩⟩
              · refine zwW_p [(1, 0, 2), (1, 0, 2)] (q := 113) (ls' := [(2, 37), (0, a), (0, kL115)]) (st' := [(2, 37), (2, 37)]) (by decide +kernel) rfl ?_
                refine zwW_gc Ih79 (kd := 13) (bn := 55) (n := 97) (c := 167) (nx := 116) (by decide +kernel) ?_
                refine zwW_p [(1, 2, 0)] (q := 117) (ls' := [(2, 37), (0, a), (0, kL115)]) (st' := [(0, kL115), (2, 167), (2, 37)]) (by decide +kernel) rfl ?_
                refine zwW_wd13 Ih79 (nx := 118) (by decide +kernel) ⟨by omega, by omega⟩ ?_
                refine zwW_cm Ih79 (op := 60) (k' := 246) (n := 1) (kd := 13) (m := 97) (nx := 121) (r := 37) (tl := [(2, (-17 - kL115))]) (st' := []) (by decide +kernel) rfl (by decide +kernel) (Nat.ble_eq_true_of_le (by omega)) (m246 h79 Ih79 (-17 - kL115) (by omega) Ph79) ?_
                rintro x _ ⟨rfl, ⟨rfl, c119⟩ | ⟨rfl, c119⟩⟩
                · refine zwif_eq (q := 148) (nx := 124) (by decide +kernel) (fun c120 => ?_) (fun c120 => ?_)
                  · exfalso; omega
                  · refine zwW_p [(1, 0, 2), (0, 1, 0)] (q := 126) (ls' := [(2, 37), (0, a), (0, kL115)]) (st' := [(0, 1), (2, 37)]) (by decide +kernel) rfl ?_
                    refine zwW_cm Ih79 (op := 60) (k' := 247) (n := 1) (kd := 13) (m := 97) (nx := 129) (r := 37) (tl := [(0, 1)]) (st' := []) (by decide +kernel) rfl (by decide +kernel) (Nat.ble_eq_true_of_le (by omega)) (m247 h79 Ih79 1 Ph79) ?_
                    rintro x h121 ⟨Ih121, Qh121, ⟨rfl, f122, f123, f124, f125⟩ | ⟨rfl, f126, f127, f128⟩⟩
                    · have Rh121 : zMR msP h h121 := Rh79.tr Qh121 (by decide +kernel)
                      have zf123 := f123; unfold zP0 at zf123
                      have Kh121 := Qh121.kp (by decide +kernel)
                      have N126 : zNu h h121 := N57.tr (zNu.mr Ih79 (by omega) Qh121 (by decide +kernel) (by omega) (by omega))
                      refine zwif_eq (q := 146) (nx := 132) (by decide +kernel) (fun c129 => ?_) (fun c129 => ?_)
                      · exfalso; omega
                      · refine zwW_p [(1, 0, 2), (0, 118, 0), (1, 2, 0)] (q := 136) (ls' := [(2, 37), (0, a), (0, kL115)]) (st' := [(0, kL115), (0, 118), (2, 37)]) (by decide +kernel) rfl ?_
                        refine zwW_cm Ih121 (op := 60) (k' := 270) (n := 2) (kd := 13) (m := 97) (nx := 139) (r := 37) (tl := [(0, 118), (0, kL115)]) (st' := []) (by decide +kernel) rfl (by decide +kernel) (Nat.ble_eq_true_of_le (by omega)) (m270 h121 Ih121 118 kL115 (by omega) (by omega) (by omega) (by omega)) ?_
                        rintro x h133 ⟨Ih133, Qh133, rfl, f130, f131, f132⟩
                        have Rh133 : zMR msP h h133 := Rh121.tr Qh133 (by decide +kernel)
                        have Ph133 := f123.mr Qh133 (by decide +kernel); have zPh133 := Ph133; unfold zP0 at zPh133
                        have Z : zPS h h133 := zPS_push (by omega) N126 (by omega) (zPu.of Qh133 f130 f131 f132) (by omega)
                        refine zwif_eq (q := 146) (nx := 142) (by decide +kernel) (fun c134 => ?_) (fun c134 => ?_)
                        · exfalso; omega
                        · refine zwW_p [(0, 1, 0), (24, 147, 0)] (q := 147) (ls' := [(2, 37), (0, a), (0, kL115)]) (st' := [(0, 1)]) (by decide +kernel) rfl ?_
                          refine zwW_ret (nx := 148) (a := 1) (b := 0) (by decide +kernel) rfl (Or.inr (Or.inl ⟨rfl, by omega⟩)) ?_
                          exact ⟨Ih133, Rh133, by exact Ph133, Or.inl ⟨rfl, by exact Z⟩⟩
                    · have Rh121 : zMR msP h h121 := Rh79.tr Qh121 (by decide +kernel)
                      have zf127 := f127; unfold zP0 at zf127
                      refine zwif_eq (q := 146) (nx := 132) (by decide +kernel) (fun c135 => ?_) (fun c135 => ?_)
                      · refine zwW_p [(0, 0, 0)] (q := 147) (ls' := [(2, 37), (0, a), (0, kL115)]) (st' := [(0, 0)]) (by decide +kernel) rfl ?_
                        refine zwW_ret (nx := 148) (a := 1) (b := 0) (by decide +kernel) rfl (Or.inr (Or.inl ⟨rfl, by omega⟩)) ?_
                        exact ⟨Ih121, Rh121, by exact f127, Or.inr ⟨rfl, by omega⟩⟩
                      · exfalso; omega
                · refine zwif_eq (q := 148) (nx := 124) (by decide +kernel) (fun c136 => ?_) (fun c136 => ?_)
                  · refine zwW_inc (i := 2) (c := 1) (x := kL115) (nx := 151) (by decide +kernel) rfl ⟨by omega, by omega⟩ (ls' := [(2, 37), (0, a), (0, (kL115 + 1))]) rfl ?_
                    refine zwW_p [(24, 105, 0)] (q := 105) (ls' := [(2, 37), (0, a), (0, (kL115 + 1))]) (st' := []) (by decide +kernel) rfl ?_
                    exact IHL115 ((1000 - (kL115 + 1))).toNat (by omega) (kL115 + 1) rfl (by omega)
                  · exfalso; omega
          exact L115 _ 0 rfl (by omega)
        · exfalso; omega
    · exfalso; omega
-- WheelLandModel.product(I)Z
theorem m269 {sc : List Int} (a : Int) (D0 : Nat) (pa : 0 ≤ a ∧ a ≤ 8) (HS : a < 8 → zPX sc D0 248 (a + 1)) : zPX sc (D0 + 21) 269 a := by
  intro h I hP pc pk
  have hP0 := hP
  unfold zP0 at hP0
  have bk := I.b (a1 := 37) (a2 := 37) (j1 := 45) (j2 := 46) (lo := 0) (hi := 400) (by decide +kernel) (r := 37) (j := 45) (by decide) (by decide) (by decide) (by decide)
  have bt := I.b (a1 := 37) (a2 := 37) (j1 := 41) (j2 := 42) (lo := 0) (hi := 400) (by decide +kernel) (r := 37) (j := 41) (by decide) (by decide) (by decide) (by decide)
  refine zwC_of (D := D0 + 20) 3 (by decide +kernel) rfl (ls := [(2, 37), (0, a), (9, 0)]) rfl ?_
  have R : zMR msP h h := zMR.rf _ _
  refine zwW_p [(1, 0, 2), (1, 1, 0)] (q := 2) (ls' := [(2, 37), (0, a), (9, 0)]) (st' := [(0, a), (2, 37)]) (by decide +kernel) rfl ?_
  refine zwW_cm I (op := 60) (k' := 285) (n := 1) (kd := 13) (m := 97) (nx := 5) (r := 37) (tl := [(0, a)]) (st' := []) (by decide +kernel) rfl (by decide +kernel) (Nat.ble_eq_true_of_le (by omega)) (m285 a D0 pa HS h I hP (by omega) (by omega)) ?_
  rintro x h1 ⟨Ih1, Qh1, f2, ⟨rfl, f3⟩ | ⟨rfl, f4⟩⟩
  · have Rh1 : zMR msP h h1 := R.tr Qh1 (by decide +kernel)
    have zf2 := f2; unfold zP0 at zf2
    have Sh1 := f3.k Qh1
    refine zwif_ne (q := 10) (nx := 8) (by decide +kernel) (fun c5 => ?_) (fun c5 => ?_)
    · have L6 : ∀ (n : Nat) (w2L6 : Vl) (hL6 : Hp), n = (fld hL6 37 41 - fld hL6 37 42).toNat → (zPS h hL6) → (zP0 hL6) → zI hL6 → zMR msP h hL6 → zwW sc (D0 + 20) 269 10 [(2, 37), (0, a), w2L6] [] hL6 (zwRt 0 (zPQ h)) := by
        intro n
        induction n using Nat.strongRecOn with
        | ind n IHL6 =>
          intro w2L6 hL6 hnL6 iL6_0 iL6_1 IhL6 RhL6
          have ShL6 := iL6_0.k RhL6
          have yhL6 := iL6_1; unfold zP0 at yhL6
          refine zwW_p [(1, 0, 2), (0, 42, 0)] (q := 13) (ls' := [(2, 37), (0, a), w2L6]) (st' := [(0, 42), (2, 37)]) (by decide +kernel) rfl ?_
          refine zwW_cm IhL6 (op := 60) (k' := 250) (n := 1) (kd := 13) (m := 97) (nx := 16) (r := 37) (tl := [(0, 42)]) (st' := []) (by decide +kernel) rfl (by decide +kernel) (Nat.ble_eq_true_of_le (by omega)) (m250 hL6 IhL6 42) ?_
          rintro x _ ⟨rfl, ⟨rfl, c7⟩ | ⟨rfl, c7⟩⟩
          · refine zwif_ne (q := 28) (nx := 19) (by decide +kernel) (fun c8 => ?_) (fun c8 => ?_)
            · refine zwW_p [(1, 0, 2)] (q := 29) (ls' := [(2, 37), (0, a), w2L6]) (st' := [(2, 37)]) (by decide +kernel) rfl ?_
              refine zwW_gc IhL6 (kd := 13) (bn := 40) (n := 97) (c := 98) (nx := 32) (by decide +kernel) ?_
              refine zwW_p [(1, 0, 2)] (q := 33) (ls' := [(2, 37), (0, a), w2L6]) (st' := [(2, 37), (2, 98)]) (by decide +kernel) rfl ?_
              refine zwW_gs IhL6 (kd := 13) (bn := 42) (n := 97) (t := 0) (lo := 0) (hi := 400) (nx := 36) (by decide +kernel) ?_
              intro v9 ev9 lv9 uv9
              have X36 : v9 = fld hL6 37 42 := by omega
              refine zwW_al IhL6 (a1 := 98) (a2 := 98) (kd := 21) (n := 400) (t := 0) (lo := -128) (hi := 127) (nx := 37) (by decide +kernel) ⟨by decide, by decide⟩ ⟨by omega, by omega⟩ ?_
              intro v10 ev10 lv10 uv10
              have G37 : v10 = fld hL6 98 (fld hL6 37 42).toNat := by rw [ev10, X36]
              refine zwW_p [(2, 2, 0), (1, 0, 2)] (q := 39) (ls' := [(2, 37), (0, a), (0, v10)]) (st' := [(2, 37)]) (by decide +kernel) rfl ?_
              refine zwW_cmv IhL6 (op := 60) (k' := 268) (n := 0) (kd := 13) (m := 97) (nx := 42) (r := 37) (tl := []) (st' := []) (by decide +kernel) rfl (by decide +kernel) (Nat.ble_eq_true_of_le (by omega)) (m268 hL6 IhL6 iL6_1) ?_
              rintro h13 ⟨Ih13, Qh13, f11, f12⟩
              have Rh13 : zMR msP h h13 := RhL6.tr Qh13 (by decide +kernel)
              have zf12 := f12; unfold zP0 at zf12
              have Kh13 := Qh13.kp (by decide +kernel)
              have N39 : zNu hL6 h13 := zNu.mr IhL6 (by omega) Qh13 (by decide +kernel) (Qh13.f1 44 (by decide +kernel)) (by omega)
              refine zwW_p [(1, 0, 2), (1, 1, 0)] (q := 44) (ls' := [(2, 37), (0, a), (0, v10)]) (st' := [(0, a), (2, 37)]) (by decide +kernel) rfl ?_
              refine zwW_cm Ih13 (op := 60) (k' := 285) (n := 1) (kd := 13) (m := 97) (nx := 47) (r := 37) (tl := [(0, a)]) (st' := []) (by decide +kernel) rfl (by decide +kernel) (Nat.ble_eq_true_of_le (by omega)) (m285 a D0 pa HS h13 Ih13 f12 (by omega) (by omega)) ?_
              rintro x h14 ⟨Ih14, Qh14, f15, ⟨rfl, f16⟩ | ⟨rfl, f17⟩⟩
              · have Rh14 : zMR msP h h14 := Rh13.tr Qh14 (by decide +kernel)
                have zf15 := f15; unfold zP0 at zf15
                have Sh14 := f16.k Qh14
                have W44 := f16
                refine zwif_ne (q := 52) (nx := 50) (by decide +kernel) (fun c18 => ?_) (fun c18 => ?_)
                · refine zwW_p [(1, 0, 2), (1, 2, 0), (0, 0, 0)] (q := 55) (ls' := [(2, 37), (0, a), (0, v10)]) (st' := [(0, 0), (0, v10), (2, 37)]) (by decide +kernel) rfl ?_
                  refine zwW_cm Ih14 (op := 60) (k' := 270) (n := 2) (kd := 13) (m := 97) (nx := 58) (r := 37) (tl := [(0, v10), (0, 0)]) (st' := []) (by decide +kernel) rfl (by decide +kernel) (Nat.ble_eq_true_of_le (by omega)) (m270 h14 Ih14 v10 0 (by omega) (by omega) (by omega) (by omega)) ?_
                  rintro x h22 ⟨Ih22, Qh22, rfl, f19, f20, f21⟩
                  have Rh22 : zMR msP h h22 := Rh14.tr Qh22 (by decide +kernel)
                  have Ph22 := f15.mr Qh22 (by decide +kernel); have zPh22 := Ph22; unfold zP0 at zPh22
                  have Z55 : zPS h h22 := zPS_bin (by omega) (by omega) iL6_0 N39 (by omega) W44 (by omega) (zPu.of Qh22 f19 f20 f21) (by omega)
                  have Sh22 := Z55.k Rh22
                  have Th22 := Qh22.f1 42 (by decide +kernel)
                  refine zwW_p [(15, 0, 0), (24, 10, 0)] (q := 10) (ls' := [(2, 37), (0, a), (0, v10)]) (st' := []) (by decide +kernel) rfl ?_
                  exact IHL6 (fld h22 37 41 - fld h22 37 42).toNat (by omega) (0, v10) h22 rfl (Z55) (Ph22) Ih22 Rh22
                · exfalso; omega
              · have Rh14 : zMR msP h h14 := Rh13.tr Qh14 (by decide +kernel)
                have zf15 := f15; unfold zP0 at zf15
                refine zwif_ne (q := 52) (nx := 50) (by decide +kernel) (fun c23 => ?_) (fun c23 => ?_)
                · exfalso; omega
                · refine zwW_p [(0, 0, 0)] (q := 51) (ls' := [(2, 37), (0, a), (0, v10)]) (st' := [(0, 0)]) (by decide +kernel) rfl ?_
                  refine zwW_ret (nx := 52) (a := 1) (b := 0) (by decide +kernel) rfl (Or.inr (Or.inl ⟨rfl, by omega⟩)) ?_
                  exact ⟨Ih14, Rh14, by exact f15, Or.inr ⟨rfl, by omega⟩⟩
            · exfalso; omega
          · refine zwif_ne (q := 28) (nx := 19) (by decide +kernel) (fun c24 => ?_) (fun c24 => ?_)
            · exfalso; omega
            · refine zwW_p [(1, 0, 2), (0, 47, 0)] (q := 22) (ls' := [(2, 37), (0, a), w2L6]) (st' := [(0, 47), (2, 37)]) (by decide +kernel) rfl ?_
              refine zwW_cm IhL6 (op := 60) (k' := 250) (n := 1) (kd := 13) (m := 97) (nx := 25) (r := 37) (tl := [(0, 47)]) (st' := []) (by decide +kernel) rfl (by decide +kernel) (Nat.ble_eq_true_of_le (by omega)) (m250 hL6 IhL6 47) ?_
              rintro x _ ⟨rfl, ⟨rfl, c25⟩ | ⟨rfl, c25⟩⟩
              · refine zwif_eq (q := 62) (nx := 28) (by decide +kernel) (fun c26 => ?_) (fun c26 => ?_)
                · exfalso; omega
                · refine zwW_p [(1, 0, 2)] (q := 29) (ls' := [(2, 37), (0, a), w2L6]) (st' := [(2, 37)]) (by decide +kernel) rfl ?_
                  refine zwW_gc IhL6 (kd := 13) (bn := 40) (n := 97) (c := 98) (nx := 32) (by decide +kernel) ?_
                  refine zwW_p [(1, 0, 2)] (q := 33) (ls' := [(2, 37), (0, a), w2L6]) (st' := [(2, 37), (2, 98)]) (by decide +kernel) rfl ?_
                  refine zwW_gs IhL6 (kd := 13) (bn := 42) (n := 97) (t := 0) (lo := 0) (hi := 400) (nx := 36) (by decide +kernel) ?_
                  intro v27 ev27 lv27 uv27
                  have X36 : v27 = fld hL6 37 42 := by omega
                  refine zwW_al IhL6 (a1 := 98) (a2 := 98) (kd := 21) (n := 400) (t := 0) (lo := -128) (hi := 127) (nx := 37) (by decide +kernel) ⟨by decide, by decide⟩ ⟨by omega, by omega⟩ ?_
                  intro v28 ev28 lv28 uv28
                  have G37 : v28 = fld hL6 98 (fld hL6 37 42).toNat := by rw [ev28, X36]
                  refine zwW_p [(2, 2, 0), (1, 0, 2)] (q := 39) (ls' := [(2, 37), (0, a), (0, v28)]) (st' := [(2, 37)]) (by decide +kernel) rfl ?_
                  refine zwW_cmv IhL6 (op := 60) (k' := 268) (n := 0) (kd := 13) (m := 97) (nx := 42) (r := 37) (tl := []) (st' := []) (by decide +kernel) rfl (by decide +kernel) (Nat.ble_eq_true_of_le (by omega)) (m268 hL6 IhL6 iL6_1) ?_
                  rintro h31 ⟨Ih31, Qh31, f29, f30⟩
                  have Rh31 : zMR msP h h31 := RhL6.tr Qh31 (by decide +kernel)
                  have zf30 := f30; unfold zP0 at zf30
                  have Kh31 := Qh31.kp (by decide +kernel)
                  have N39 : zNu hL6 h31 := zNu.mr IhL6 (by omega) Qh31 (by decide +kernel) (Qh31.f1 44 (by decide +kernel)) (by omega)
                  refine zwW_p [(1, 0, 2), (1, 1, 0)] (q := 44) (ls' := [(2, 37), (0, a), (0, v28)]) (st' := [(0, a), (2, 37)]) (by decide +kernel) rfl ?_
                  refine zwW_cm Ih31 (op := 60) (k' := 285) (n := 1) (kd := 13) (m := 97) (nx := 47) (r := 37) (tl := [(0, a)]) (st' := []) (by decide +kernel) rfl (by decide +kernel) (Nat.ble_eq_true_of_le (by omega)) (m285 a D0 pa HS h31 Ih31 f30 (by omega) (by omega)) ?_
                  rintro x h32 ⟨Ih32, Qh32, f33, ⟨rfl, f34⟩ | ⟨rfl, f35⟩⟩
                  · have Rh32 : zMR msP h h32 := Rh31.tr Qh32 (by decide +kernel)
                    have zf33 := f33; unfold zP0 at zf33
                    have Sh32 := f34.k Qh32
                    have W44 := f34
                    refine zwif_ne (q := 52) (nx := 50) (by decide +kernel) (fun c36 => ?_) (fun c36 => ?_)
                    · refine zwW_p [(1, 0, 2), (1, 2, 0), (0, 0, 0)] (q := 55) (ls' := [(2, 37), (0, a), (0, v28)]) (st' := [(0, 0), (0, v28), (2, 37)]) (by decide +kernel) rfl ?_
                      refine zwW_cm Ih32 (op := 60) (k' := 270) (n := 2) (kd := 13) (m := 97) (nx := 58) (r := 37) (tl := [(0, v28), (0, 0)]) (st' := []) (by decide +kernel) rfl (by decide +kernel) (Nat.ble_eq_true_of_le (by omega)) (m270 h32 Ih32 v28 0 (by omega) (by omega) (by omega) (by omega)) ?_
                      rintro x h40 ⟨Ih40, Qh40, rfl, f37, f38, f39⟩
                      have Rh40 : zMR msP h h40 := Rh32.tr Qh40 (by decide +kernel)
                      have Ph40 := f33.mr Qh40 (by decide +kernel); have zPh40 := Ph40; unfold zP0 at zPh40
                      have Z55 : zPS h h40 := zPS_bin (by omega) (by omega) iL6_0 N39 (by omega) W44 (by omega) (zPu.of Qh40 f37 f38 f39) (by omega)
                      have Sh40 := Z55.k Rh40
                      have Th40 := Qh40.f1 42 (by decide +kernel)
                      refine zwW_p [(15, 0, 0), (24, 10, 0)] (q := 10) (ls' := [(2, 37), (0, a), (0, v28)]) (st' := []) (by decide +kernel) rfl ?_
                      exact IHL6 (fld h40 37 41 - fld h40 37 42).toNat (by omega) (0, v28) h40 rfl (Z55) (Ph40) Ih40 Rh40
                    · exfalso; omega
                  · have Rh32 : zMR msP h h32 := Rh31.tr Qh32 (by decide +kernel)
                    have zf33 := f33; unfold zP0 at zf33
                    refine zwif_ne (q := 52) (nx := 50) (by decide +kernel) (fun c41 => ?_) (fun c41 => ?_)
                    · exfalso; omega
                    · refine zwW_p [(0, 0, 0)] (q := 51) (ls' := [(2, 37), (0, a), (0, v28)]) (st' := [(0, 0)]) (by decide +kernel) rfl ?_
                      refine zwW_ret (nx := 52) (a := 1) (b := 0) (by decide +kernel) rfl (Or.inr (Or.inl ⟨rfl, by omega⟩)) ?_
                      exact ⟨Ih32, Rh32, by exact f33, Or.inr ⟨rfl, by omega⟩⟩
              · refine zwif_eq (q := 62) (nx := 28) (by decide +kernel) (fun c42 => ?_) (fun c42 => ?_)
                · have Z := iL6_0
                  refine zwW_p [(0, 1, 0)] (q := 63) (ls' := [(2, 37), (0, a), w2L6]) (st' := [(0, 1)]) (by decide +kernel) rfl ?_
                  refine zwW_ret (nx := 64) (a := 1) (b := 0) (by decide +kernel) rfl (Or.inr (Or.inl ⟨rfl, by omega⟩)) ?_
                  exact ⟨IhL6, RhL6, by exact iL6_1, Or.inl ⟨rfl, by exact Z⟩⟩
                · exfalso; omega
      exact L6 _ (9, 0) h1 rfl (f3) (f2) Ih1 Rh1
    · exfalso; omega
  · have Rh1 : zMR msP h h1 := R.tr Qh1 (by decide +kernel)
    have zf2 := f2; unfold zP0 at zf2
    refine zwif_ne (q := 10) (nx := 8) (by decide +kernel) (fun c43 => ?_) (fun c43 => ?_)
    · exfalso; omega
    · refine zwW_p [(0, 0, 0)] (q := 9) (ls' := [(2, 37), (0, a), (9, 0)]) (st' := [(0, 0)]) (by decide +kernel) rfl ?_
      refine zwW_ret (nx := 10) (a := 1) (b := 0) (by decide +kernel) rfl (Or.inr (Or.inl ⟨rfl, by omega⟩)) ?_
      exact ⟨Ih1, Rh1, by exact f2, Or.inr ⟨rfl, by omega⟩⟩
-- WheelLandModel.sum(I)Z
theorem m248 {sc : List Int} (a : Int) (D0 : Nat) (pa : 0 ≤ a ∧ a ≤ 8) (HS : a < 8 → zPX sc D0 248 (a + 1)) : zPX sc (D0 + 22) 248 a := by
  intro h I hP pc pk
  have hP0 := hP
  unfold zP0 at hP0
  have bk := I.b (a1 := 37) (a2 := 37) (j1 := 45) (j2 := 46) (lo := 0) (hi := 400) (by decide +kernel) (r := 37) (j := 45) (by decide) (by decide) (by decide) (by decide)
  have bt := I.b (a1 := 37) (a2 := 37) (j1 := 41) (j2 := 42) (lo := 0) (hi := 400) (by decide +kernel) (r := 37) (j := 41) (by decide) (by decide) (by decide) (by decide)
  refine zwC_of (D := D0 + 21) 3 (by decide +kernel) rfl (ls := [(2, 37), (0, a), (9, 0)]) rfl ?_
  have R : zMR msP h h := zMR.rf _ _
  refine zwW_p [(1, 0, 2), (1, 1, 0)] (q := 2) (ls' := [(2, 37), (0, a), (9, 0)]) (st' := [(0, a), (2, 37)]) (by decide +kernel) rfl ?_
  refine zwW_cm I (op := 60) (k' := 269) (n := 1) (kd := 13) (m := 97) (nx := 5) (r := 37) (tl := [(0, a)]) (st' := []) (by decide +kernel) rfl (by decide +kernel) (Nat.ble_eq_true_of_le (by omega)) (m269 a D0 pa HS h I hP (by omega) (by omega)) ?_
  rintro x h1 ⟨Ih1, Qh1, f2, ⟨rfl, f3⟩ | ⟨rfl, f4⟩⟩
  · have Rh1 : zMR msP h h1 := R.tr Qh1 (by decide +kernel)
    have zf2 := f2; unfold zP0 at zf2
    have Sh1 := f3.k Qh1
    refine zwif_ne (q := 10) (nx := 8) (by decide +kernel) (fun c5 => ?_) (fun c5 => ?_)
    · have L6 : ∀ (n : Nat) (w2L6 : Vl) (hL6 : Hp), n = (fld hL6 37 41 - fld hL6 37 42).toNat → (zPS h hL6) → (zP0 hL6) → zI hL6 → zMR msP h hL6 → zwW sc (D0 + 21) 248 10 [(2, 37), (0, a), w2L6] [] hL6 (zwRt 0 (zPQ h)) := by
        intro n
        induction n using Nat.strongRecOn with
        | ind n IHL6 =>
          intro w2L6 hL6 hnL6 iL6_0 iL6_1 IhL6 RhL6
          have ShL6 := iL6_0.k RhL6
          have yhL6 := iL6_1; unfold zP0 at yhL6
          refine zwW_p [(1, 0, 2), (0, 43, 0)] (q := 13) (ls' := [(2, 37), (0, a), w2L6]) (st' := [(0, 43), (2, 37)]) (by decide +kernel) rfl ?_
          refine zwW_cm IhL6 (op := 60) (k' := 250) (n := 1) (kd := 13) (m := 97) (nx := 16) (r := 37) (tl := [(0, 43)]) (st' := []) (by decide +kernel) rfl (by decide +kernel) (Nat.ble_eq_true_of_le (by omega)) (m250 hL6 IhL6 43) ?_
          rintro x _ ⟨rfl, ⟨rfl, c7⟩ | ⟨rfl, c7⟩⟩
          · refine zwif_ne (q := 28) (nx := 19) (by decide +kernel) (fun c8 => ?_) (fun c8 => ?_)
            · refine zwW_p [(1, 0, 2)] (q := 29) (ls' := [(2, 37), (0, a), w2L6]) (st' := [(2, 37)]) (by decide +kernel) rfl ?_
              refine zwW_gc IhL6 (kd := 13) (bn := 40) (n := 97) (c := 98) (nx := 32) (by decide +kernel) ?_
              refine zwW_p [(1, 0, 2)] (q := 33) (ls' := [(2, 37), (0, a), w2L6]) (st' := [(2, 37), (2, 98)]) (by decide +kernel) rfl ?_
              refine zwW_gs IhL6 (kd := 13) (bn := 42) (n := 97) (t := 0) (lo := 0) (hi := 400) (nx := 36) (by decide +kernel) ?_
              intro v9 ev9 lv9 uv9
              have X36 : v9 = fld hL6 37 42 := by omega
              refine zwW_al IhL6 (a1 := 98) (a2 := 98) (kd := 21) (n := 400) (t := 0) (lo := -128) (hi := 127) (nx := 37) (by decide +kernel) ⟨by decide, by decide⟩ ⟨by omega, by omega⟩ ?_
              intro v10 ev10 lv10 uv10
              have G37 : v10 = fld hL6 98 (fld hL6 37 42).toNat := by rw [ev10, X36]
              refine zwW_p [(2, 2, 0), (1, 0, 2)] (q := 39) (ls' := [(2, 37), (0, a), (0, v10)]) (st' := [(2, 37)]) (by decide +kernel) rfl ?_
              refine zwW_cmv IhL6 (op := 60) (k' := 268) (n := 0) (kd := 13) (m := 97) (nx := 42) (r := 37) (tl := []) (st' := []) (by decide +kernel) rfl (by decide +kernel) (Nat.ble_eq_true_of_le (by omega)) (m268 hL6 IhL6 iL6_1) ?_
              rintro h13 ⟨Ih13, Qh13, f11, f12⟩
              have Rh13 : zMR msP h h13 := RhL6.tr Qh13 (by decide +kernel)
              have zf12 := f12; unfold zP0 at zf12
              have Kh13 := Qh13.kp (by decide +kernel)
              have N39 : zNu hL6 h13 := zNu.mr IhL6 (by omega) Qh13 (by decide +kernel) (Qh13.f1 44 (by decide +kernel)) (by omega)
              refine zwW_p [(1, 0, 2), (1, 1, 0)] (q := 44) (ls' := [(2, 37), (0, a), (0, v10)]) (st' := [(0, a), (2, 37)]) (by decide +kernel) rfl ?_
              refine zwW_cm Ih13 (op := 60) (k' := 269) (n := 1) (kd := 13) (m := 97) (nx := 47) (r := 37) (tl := [(0, a)]) (st' := []) (by decide +kernel) rfl (by decide +kernel) (Nat.ble_eq_true_of_le (by omega)) (m269 a D0 pa HS h13 Ih13 f12 (by omega) (by omega)) ?_
              rintro x h14 ⟨Ih14, Qh14, f15, ⟨rfl, f16⟩ | ⟨rfl, f17⟩⟩
              · have Rh14 : zMR msP h h14 := Rh13.tr Qh14 (by decide +kernel)
                have zf15 := f15; unfold zP0 at zf15
                have Sh14 := f16.k Qh14
                have W44 := f16
                refine zwif_ne (q := 52) (nx := 50) (by decide +kernel) (fun c18 => ?_) (fun c18 => ?_)
                · refine zwW_p [(1, 0, 2), (1, 2, 0), (0, 0, 0)] (q := 55) (ls' := [(2, 37), (0, a), (0, v10)]) (st' := [(0, 0), (0, v10), (2, 37)]) (by decide +kernel) rfl ?_
                  refine zwW_cm Ih14 (op := 60) (k' := 270) (n := 2) (kd := 13) (m := 97) (nx := 58) (r := 37) (tl := [(0, v10), (0, 0)]) (st' := []) (by decide +kernel) rfl (by decide +kernel) (Nat.ble_eq_true_of_le (by omega)) (m270 h14 Ih14 v10 0 (by omega) (by omega) (by omega) (by omega)) ?_
                  rintro x h22 ⟨Ih22, Qh22, rfl, f19, f20, f21⟩
                  have Rh22 : zMR msP h h22 := Rh14.tr Qh22 (by decide +kernel)
                  have Ph22 := f15.mr Qh22 (by decide +kernel); have zPh22 := Ph22; unfold zP0 at zPh22
                  have Z55 : zPS h h22 := zPS_bin (by omega) (by omega) iL6_0 N39 (by omega) W44 (by omega) (zPu.of Qh22 f19 f20 f21) (by omega)
                  have Sh22 := Z55.k Rh22
                  have Th22 := Qh22.f1 42 (by decide +kernel)
                  refine zwW_p [(15, 0, 0), (24, 10, 0)] (q := 10) (ls' := [(2, 37), (0, a), (0, v10)]) (st' := []) (by decide +kernel) rfl ?_
                  exact IHL6 (fld h22 37 41 - fld h22 37 42).toNat (by omega) (0, v10) h22 rfl (Z55) (Ph22) Ih22 Rh22
                · exfalso; omega
              · have Rh14 : zMR msP h h14 := Rh13.tr Qh14 (by decide +kernel)
                have zf15 := f15; unfold zP0 at zf15
                refine zwif_ne (q := 52) (nx := 50) (by decide +kernel) (fun c23 => ?_) (fun c23 => ?_)
                · exfalso; omega
                · refine zwW_p [(0, 0, 0)] (q := 51) (ls' := [(2, 37), (0, a), (0, v10)]) (st' := [(0, 0)]) (by decide +kernel) rfl ?_
                  refine zwW_ret (nx := 52) (a := 1) (b := 0) (by decide +kernel) rfl (Or.inr (Or.inl ⟨rfl, by omega⟩)) ?_
                  exact ⟨Ih14, Rh14, by exact f15, Or.inr ⟨rfl, by omega⟩⟩
            · exfalso; omega
          · refine zwif_ne (q := 28) (nx := 19) (by decide +kernel) (fun c24 => ?_) (fun c24 => ?_)
            · exfalso; omega
            · refine zwW_p [(1, 0, 2), (0, 45, 0)] (q := 22) (ls' := [(2, 37), (0, a), w2L6]) (st' := [(0, 45), (2, 37)]) (by decide +kernel) rfl ?_
              refine zwW_cm IhL6 (op := 60) (k' := 250) (n := 1) (kd := 13) (m := 97) (nx := 25) (r := 37) (tl := [(0, 45)]) (st' := []) (by decide +kernel) rfl (by decide +kernel) (Nat.ble_eq_true_of_le (by omega)) (m250 hL6 IhL6 45) ?_
              rintro x _ ⟨rfl, ⟨rfl, c25⟩ | ⟨rfl, c25⟩⟩
              · refine zwif_eq (q := 62) (nx := 28) (by decide +kernel) (fun c26 => ?_) (fun c26 => ?_)
                · exfalso; omega
                · refine zwW_p [(1, 0, 2)] (q := 29) (ls' := [(2, 37), (0, a), w2L6]) (st' := [(2, 37)]) (by decide +kernel) rfl ?_
                  refine zwW_gc IhL6 (kd := 13) (bn := 40) (n := 97) (c := 98) (nx := 32) (by decide +kernel) ?_
                  refine zwW_p [(1, 0, 2)] (q := 33) (ls' := [(2, 37), (0, a), w2L6]) (st' := [(2, 37), (2, 98)]) (by decide +kernel) rfl ?_
                  refine zwW_gs IhL6 (kd := 13) (bn := 42) (n := 97) (t := 0) (lo := 0) (hi := 400) (nx := 36) (by decide +kernel) ?_
                  intro v27 ev27 lv27 uv27
                  have X36 : v27 = fld hL6 37 42 := by omega
                  refine zwW_al IhL6 (a1 := 98) (a2 := 98) (kd := 21) (n := 400) (t := 0) (lo := -128) (hi := 127) (nx := 37) (by decide +kernel) ⟨by decide, by decide⟩ ⟨by omega, by omega⟩ ?_
                  intro v28 ev28 lv28 uv28
                  have G37 : v28 = fld hL6 98 (fld hL6 37 42).toNat := by rw [ev28, X36]
                  refine zwW_p [(2, 2, 0), (1, 0, 2)] (q := 39) (ls' := [(2, 37), (0, a), (0, v28)]) (st' := [(2, 37)]) (by decide +kernel) rfl ?_
                  refine zwW_cmv IhL6 (op := 60) (k' := 268) (n := 0) (kd := 13) (m := 97) (nx := 42) (r := 37) (tl := []) (st' := []) (by decide +kernel) rfl (by decide +kernel) (Nat.ble_eq_true_of_le (by omega)) (m268 hL6 IhL6 iL6_1) ?_
                  rintro h31 ⟨Ih31, Qh31, f29, f30⟩
                  have Rh31 : zMR msP h h31 := RhL6.tr Qh31 (by decide +kernel)
                  have zf30 := f30; unfold zP0 at zf30
                  have Kh31 := Qh31.kp (by decide +kernel)
                  have N39 : zNu hL6 h31 := zNu.mr IhL6 (by omega) Qh31 (by decide +kernel) (Qh31.f1 44 (by decide +kernel)) (by omega)
                  refine zwW_p [(1, 0, 2), (1, 1, 0)] (q := 44) (ls' := [(2, 37), (0, a), (0, v28)]) (st' := [(0, a), (2, 37)]) (by decide +kernel) rfl ?_
                  refine zwW_cm Ih31 (op := 60) (k' := 269) (n := 1) (kd := 13) (m := 97) (nx := 47) (r := 37) (tl := [(0, a)]) (st' := []) (by decide +kernel) rfl (by decide +kernel) (Nat.ble_eq_true_of_le (by omega)) (m269 a D0 pa HS h31 Ih31 f30 (by omega) (by omega)) ?_
                  rintro x h32 ⟨Ih32, Qh32, f33, ⟨rfl, f34⟩ | ⟨rfl, f35⟩⟩
                  · have Rh32 : zMR msP h h32 := Rh31.tr Qh32 (by decide +kernel)
                    have zf33 := f33; unfold zP0 at zf33
                    have Sh32 := f34.k Qh32
                    have W44 := f34
                    refine zwif_ne (q := 52) (nx := 50) (by decide +kernel) (fun c36 => ?_) (fun c36 => ?_)
                    · refine zwW_p [(1, 0, 2), (1, 2, 0), (0, 0, 0)] (q := 55) (ls' := [(2, 37), (0, a), (0, v28)]) (st' := [(0, 0), (0, v28), (2, 37)]) (by decide +kernel) rfl ?_
                      refine zwW_cm Ih32 (op := 60) (k' := 270) (n := 2) (kd := 13) (m := 97) (nx := 58) (r := 37) (tl := [(0, v28), (0, 0)]) (st' := []) (by decide +kernel) rfl (by decide +kernel) (Nat.ble_eq_true_of_le (by omega)) (m270 h32 Ih32 v28 0 (by omega) (by omega) (by omega) (by omega)) ?_
                      rintro x h40 ⟨Ih40, Qh40, rfl, f37, f38, f39⟩
                      have Rh40 : zMR msP h h40 := Rh32.tr Qh40 (by decide +kernel)
                      have Ph40 := f33.mr Qh40 (by decide +kernel); have zPh40 := Ph40; unfold zP0 at zPh40
                      have Z55 : zPS h h40 := zPS_bin (by omega) (by omega) iL6_0 N39 (by omega) W44 (by omega) (zPu.of Qh40 f37 f38 f39) (by omega)
                      have Sh40 := Z55.k Rh40
                      have Th40 := Qh40.f1 42 (by decide +kernel)
                      refine zwW_p [(15, 0, 0), (24, 10, 0)] (q := 10) (ls' := [(2, 37), (0, a), (0, v28)]) (st' := []) (by decide +kernel) rfl ?_
                      exact IHL6 (fld h40 37 41 - fld h40 37 42).toNat (by omega) (0, v28) h40 rfl (Z55) (Ph40) Ih40 Rh40
                    · exfalso; omega
                  · have Rh32 : zMR msP h h32 := Rh31.tr Qh32 (by decide +kernel)
                    have zf33 := f33; unfold zP0 at zf33
                    refine zwif_ne (q := 52) (nx := 50) (by decide +kernel) (fun c41 => ?_) (fun c41 => ?_)
                    · exfalso; omega
                    · refine zwW_p [(0, 0, 0)] (q := 51) (ls' := [(2, 37), (0, a), (0, v28)]) (st' := [(0, 0)]) (by decide +kernel) rfl ?_
                      refine zwW_ret (nx := 52) (a := 1) (b := 0) (by decide +kernel) rfl (Or.inr (Or.inl ⟨rfl, by omega⟩)) ?_
                      exact ⟨Ih32, Rh32, by exact f33, Or.inr ⟨rfl, by omega⟩⟩
              · refine zwif_eq (q := 62) (nx := 28) (by decide +kernel) (fun c42 => ?_) (fun c42 => ?_)
                · have Z := iL6_0
                  refine zwW_p [(0, 1, 0)] (q := 63) (ls' := [(2, 37), (0, a), w2L6]) (st' := [(0, 1)]) (by decide +kernel) rfl ?_
                  refine zwW_ret (nx := 64) (a := 1) (b := 0) (by decide +kernel) rfl (Or.inr (Or.inl ⟨rfl, by omega⟩)) ?_
                  exact ⟨IhL6, RhL6, by exact iL6_1, Or.inl ⟨rfl, by exact Z⟩⟩
                · exfalso; omega
      exact L6 _ (9, 0) h1 rfl (f3) (f2) Ih1 Rh1
    · exfalso; omega
  · have Rh1 : zMR msP h h1 := R.tr Qh1 (by decide +kernel)
    have zf2 := f2; unfold zP0 at zf2
    refine zwif_ne (q := 10) (nx := 8) (by decide +kernel) (fun c43 => ?_) (fun c43 => ?_)
    · exfalso; omega
    · refine zwW_p [(0, 0, 0)] (q := 9) (ls' := [(2, 37), (0, a), (9, 0)]) (st' := [(0, 0)]) (by decide +kernel) rfl ?_
      refine zwW_ret (nx := 10) (a := 1) (b := 0) (by decide +kernel) rfl (Or.inr (Or.inl ⟨rfl, by omega⟩)) ?_
      exact ⟨Ih1, Rh1, by exact f2, Or.inr ⟨rfl, by omega⟩⟩
-- WheelLandModel.test(I)Z
theorem m286 {sc : List Int} (a : Int) (D0 : Nat) (pa : 0 ≤ a ∧ a ≤ 8) (HS : a < 8 → zPX sc D0 248 (a + 1)) (HT : a < 8 → zPX sc D0 286 (a + 1)) (HE : a < 8 → zPX sc D0 249 (a + 1)) : zPX sc (D0 + 23) 286 a := by
  intro h I hP pc pk
  have hP0 := hP
  unfold zP0 at hP0
  have bk := I.b (a1 := 37) (a2 := 37) (j1 := 45) (j2 := 46) (lo := 0) (hi := 400) (by decide +kernel) (r := 37) (j := 45) (by decide) (by decide) (by decide) (by decide)
  have bt := I.b (a1 := 37) (a2 := 37) (j1 := 41) (j2 := 42) (lo := 0) (hi := 400) (by decide +kernel) (r := 37) (j := 41) (by decide) (by decide) (by decide) (by decide)
  refine zwC_of (D := D0 + 22) 3 (by decide +kernel) rfl (ls := [(2, 37), (0, a), (9, 0)]) rfl ?_
  have R : zMR msP h h := zMR.rf _ _
  refine zwW_p [(1, 0, 2), (0, -30, 2)] (q := 4) (ls' := [(2, 37), (0, a), (9, 0)]) (st' := [(2, -30), (2, 37)]) (by decide +kernel) rfl ?_
  refine zwW_cm I (op := 60) (k' := 246) (n := 1) (kd := 13) (m := 97) (nx := 7) (r := 37) (tl := [(2, -30)]) (st' := []) (by decide +kernel) rfl (by decide +kernel) (Nat.ble_eq_true_of_le (by omega)) (m246 h I (-30) (by omega) hP) ?_
  rintro x _ ⟨rfl, ⟨rfl, c1⟩ | ⟨rfl, c1⟩⟩
  · refine zwif_eq (q := 54) (nx := 10) (by decide +kernel) (fun c2 => ?_) (fun c2 => ?_)
    · exfalso; omega
    · refine zwW_p [(1, 0, 2), (1, 1, 0), (0, 8, 0)] (q := 14) (ls' := [(2, 37), (0, a), (9, 0)]) (st' := [(0, 8), (0, a), (2, 37)]) (by decide +kernel) rfl ?_
      refine zwic_ge (q := 21) (nx := 17) (by decide +kernel) (fun c3 => ?_) (fun c3 => ?_)
      · refine zwW_p [(0, 0, 0)] (q := 22) (ls' := [(2, 37), (0, a), (9, 0)]) (st' := [(0, 0), (2, 37)]) (by decide +kernel) rfl ?_
        refine zwW_cm I (op := 60) (k' := 247) (n := 1) (kd := 13) (m := 97) (nx := 25) (r := 37) (tl := [(0, 0)]) (st' := []) (by decide +kernel) rfl (by decide +kernel) (Nat.ble_eq_true_of_le (by omega)) (m247 h I 0 hP) ?_
        rintro x h4 ⟨Ih4, Qh4, ⟨rfl, f5, f6, f7, f8⟩ | ⟨rfl, f9, f10, f11⟩⟩
        · have Rh4 : zMR msP h h4 := R.tr Qh4 (by decide +kernel)
          have zf6 := f6; unfold zP0 at zf6
          have Kh4 := Qh4.kp (by decide +kernel)
          have N22 : zNu h h4 := zNu.mr I pc Qh4 (by decide +kernel) (by omega) (by omega)
          refine zwif_eq (q := 52) (nx := 28) (by decide +kernel) (fun c12 => ?_) (fun c12 => ?_)
          · exfalso; omega
          · refine zwW_p [(1, 0, 2), (1, 1, 0), (0, 1, 0)] (q := 31) (ls' := [(2, 37), (0, a), (9, 0)]) (st' := [(0, 1), (0, a), (2, 37)]) (by decide +kernel) rfl ?_
            refine zwW_add (nx := 32) (by decide +kernel) ⟨by omega, by omega⟩ ?_
            refine zwW_cm Ih4 (op := 60) (k' := 286) (n := 1) (kd := 13) (m := 97) (nx := 35) (r := 37) (tl := [(0, (a + 1))]) (st' := []) (by decide +kernel) rfl (by decide +kernel) (Nat.ble_eq_true_of_le (by omega)) (HT (by omega) h4 Ih4 f6 (by omega) (by omega)) ?_
            rintro x h13 ⟨Ih13, Qh13, f14, ⟨rfl, f15⟩ | ⟨rfl, f16⟩⟩
            · have Rh13 : zMR msP h h13 := Rh4.tr Qh13 (by decide +kernel)
              have zf14 := f14; unfold zP0 at zf14
              have Sh13 := f15.k Qh13
              have W32 := f15
              refine zwif_eq (q := 52) (nx := 38) (by decide +kernel) (fun c17 => ?_) (fun c17 => ?_)
              · exfalso; omega
              · refine zwW_p [(1, 0, 2), (0, 33, 0), (0, 0, 0)] (q := 42) (ls' := [(2, 37), (0, a), (9, 0)]) (st' := [(0, 0), (0, 33), (2, 37)]) (by decide +kernel) rfl ?_
                refine zwW_cm Ih13 (op := 60) (k' := 270) (n := 2) (kd := 13) (m := 97) (nx := 45) (r := 37) (tl := [(0, 33), (0, 0)]) (st' := []) (by decide +kernel) rfl (by decide +kernel) (Nat.ble_eq_true_of_le (by omega)) (m270 h13 Ih13 33 0 (by omega) (by omega) (by omega) (by omega)) ?_
                rintro x h21 ⟨Ih21, Qh21, rfl, f18, f19, f20⟩
                have Rh21 : zMR msP h h21 := Rh13.tr Qh21 (by decide +kernel)
                have Ph21 := f14.mr Qh21 (by decide +kernel); have zPh21 := Ph21; unfold zP0 at zPh21
                have Z : zPS h h21 := zPS_not (by omega) N22 (by omega) W32 (by omega) (zPu.of Qh21 f18 f19 f20)
                refine zwif_eq (q := 52) (nx := 48) (by decide +kernel) (fun c22 => ?_) (fun c22 => ?_)
                · exfalso; omega
                · refine zwW_p [(0, 1, 0), (24, 53, 0)] (q := 53) (ls' := [(2, 37), (0, a), (9, 0)]) (st' := [(0, 1)]) (by decide +kernel) rfl ?_
                  refine zwW_ret (nx := 54) (a := 1) (b := 0) (by decide +kernel) rfl (Or.inr (Or.inl ⟨rfl, by omega⟩)) ?_
                  exact ⟨Ih21, Rh21, by exact Ph21, Or.inl ⟨rfl, by exact Z⟩⟩
            · have Rh13 : zMR msP h h13 := Rh4.tr Qh13 (by decide +kernel)
              have zf14 := f14; unfold zP0 at zf14
              refine zwif_eq (q := 52) (nx := 38) (by decide +kernel) (fun c23 => ?_) (fun c23 => ?_)
              · refine zwW_p [(0, 0, 0)] (q := 53) (ls' := [(2, 37), (0, a), (9, 0)]) (st' := [(0, 0)]) (by decide +kernel) rfl ?_
                refine zwW_ret (nx := 54) (a := 1) (b := 0) (by decide +kernel) rfl (Or.inr (Or.inl ⟨rfl, by omega⟩)) ?_
                exact ⟨Ih13, Rh13, by exact f14, Or.inr ⟨rfl, by omega⟩⟩
              · exfalso; omega
        · have Rh4 : zMR msP h h4 := R.tr Qh4 (by decide +kernel)
          have zf10 := f10; unfold zP0 at zf10
          refine zwif_eq (q := 52) (nx := 28) (by decide +kernel) (fun c24 => ?_) (fun c24 => ?_)
          · refine zwW_p [(0, 0, 0)] (q := 53) (ls' := [(2, 37), (0, a), (9, 0)]) (st' := [(0, 0)]) (by decide +kernel) rfl ?_
            refine zwW_ret (nx := 54) (a := 1) (b := 0) (by decide +kernel) rfl (Or.inr (Or.inl ⟨rfl, by omega⟩)) ?_
            exact ⟨Ih4, Rh4, by exact f10, Or.inr ⟨rfl, by omega⟩⟩
          · exfalso; omega
      · refine zwW_p [(0, 1, 0), (24, 22, 0)] (q := 22) (ls' := [(2, 37), (0, a), (9, 0)]) (st' := [(0, 1), (2, 37)]) (by decide +kernel) rfl ?_
        refine zwW_cm I (op := 60) (k' := 247) (n := 1) (kd := 13) (m := 97) (nx := 25) (r := 37) (tl := [(0, 1)]) (st' := []) (by decide +kernel) rfl (by decide +kernel) (Nat.ble_eq_true_of_le (by omega)) (m247 h I 1 hP) ?_
        rintro x h25 ⟨Ih25, Qh25, ⟨rfl, f26, f27, f28, f29⟩ | ⟨rfl, f30, f31, f32⟩⟩
        · have Rh25 : zMR msP h h25 := R.tr Qh25 (by decide +kernel)
          have zf27 := f27; unfold zP0 at zf27
          have Kh25 := Qh25.kp (by decide +kernel)
          have N22 : zNu h h25 := zNu.mr I pc Qh25 (by decide +kernel) (by omega) (by omega)
          refine zwif_eq (q := 52) (nx := 28) (by decide +kernel) (fun c33 => ?_) (fun c33 => ?_)
          · exfalso; omega
          · refine zwW_p [(1, 0, 2), (1, 1, 0), (0, 1, 0)] (q := 31) (ls' := [(2, 37), (0, a), (9, 0)]) (st' := [(0, 1), (0, a), (2, 37)]) (by decide +kernel) rfl ?_
            refine zwW_add (nx := 32) (by decide +kernel) ⟨by omega, by omega⟩ ?_
            refine zwW_cm Ih25 (op := 60) (k' := 286) (n := 1) (kd := 13) (m := 97) (nx := 35) (r := 37) (tl := [(0, (a + 1))]) (st' := []) (by decide +kernel) rfl (by decide +kernel) (Nat.ble_eq_true_of_le (by omega)) (HT (by omega) h25 Ih25 f27 (by omega) (by omega)) ?_
            rintro x h34 ⟨Ih34, Qh34, f35, ⟨rfl, f36⟩ | ⟨rfl, f37⟩⟩
            · have Rh34 : zMR msP h h34 := Rh25.tr Qh34 (by decide +kernel)
              have zf35 := f35; unfold zP0 at zf35
              have Sh34 := f36.k Qh34
              have W32 := f36
              refine zwif_eq (q := 52) (nx := 38) (by decide +kernel) (fun c38 => ?_) (fun c38 => ?_)
              · exfalso; omega
              · refine zwW_p [(1, 0, 2), (0, 33, 0), (0, 0, 0)] (q := 42) (ls' := [(2, 37), (0, a), (9, 0)]) (st' := [(0, 0), (0, 33), (2, 37)]) (by decide +kernel) rfl ?_
                refine zwW_cm Ih34 (op := 60) (k' := 270) (n := 2) (kd := 13) (m := 97) (nx := 45) (r := 37) (tl := [(0, 33), (0, 0)]) (st' := []) (by decide +kernel) rfl (by decide +kernel) (Nat.ble_eq_true_of_le (by omega)) (m270 h34 Ih34 33 0 (by omega) (by omega) (by omega) (by omega)) ?_
                rintro x h42 ⟨Ih42, Qh42, rfl, f39, f40, f41⟩
                have Rh42 : zMR msP h h42 := Rh34.tr Qh42 (by decide +kernel)
                have Ph42 := f35.mr Qh42 (by decide +kernel); have zPh42 := Ph42; unfold zP0 at zPh42
                have Z : zPS h h42 := zPS_not (by omega) N22 (by omega) W32 (by omega) (zPu.of Qh42 f39 f40 f41)
                refine zwif_eq (q := 52) (nx := 48) (by decide +kernel) (fun c43 => ?_) (fun c43 => ?_)
                · exfalso; omega
                · refine zwW_p [(0, 1, 0), (24, 53, 0)] (q := 53) (ls' := [(2, 37), (0, a), (9, 0)]) (st' := [(0, 1)]) (by decide +kernel) rfl ?_
                  refine zwW_ret (nx := 54) (a := 1) (b := 0) (by decide +kernel) rfl (Or.inr (Or.inl ⟨rfl, by omega⟩)) ?_
                  exact ⟨Ih42, Rh42, by exact Ph42, Or.inl ⟨rfl, by exact Z⟩⟩
            · have Rh34 : zMR msP h h34 := Rh25.tr Qh34 (by decide +kernel)
              have zf35 := f35; unfold zP0 at zf35
              refine zwif_eq (q := 52) (nx := 38) (by decide +kernel) (fun c44 => ?_) (fun c44 => ?_)
              · refine zwW_p [(0, 0, 0)] (q := 53) (ls' := [(2, 37), (0, a), (9, 0)]) (st' := [(0, 0)]) (by decide +kernel) rfl ?_
                refine zwW_ret (nx := 54) (a := 1) (b := 0) (by decide +kernel) rfl (Or.inr (Or.inl ⟨rfl, by omega⟩)) ?_
                exact ⟨Ih34, Rh34, by exact f35, Or.inr ⟨rfl, by omega⟩⟩
              · exfalso; omega
        · have Rh25 : zMR msP h h25 := R.tr Qh25 (by decide +kernel)
          have zf31 := f31; unfold zP0 at zf31
          refine zwif_eq (q := 52) (nx := 28) (by decide +kernel) (fun c45 => ?_) (fun c45 => ?_)
          · refine zwW_p [(0, 0, 0)] (q := 53) (ls' := [(2, 37), (0, a), (9, 0)]) (st' := [(0, 0)]) (by decide +kernel) rfl ?_
            refine zwW_ret (nx := 54) (a := 1) (b := 0) (by decide +kernel) rfl (Or.inr (Or.inl ⟨rfl, by omega⟩)) ?_
            exact ⟨Ih25, Rh25, by exact f31, Or.inr ⟨rfl, by omega⟩⟩
          · exfalso; omega
  · refine zwif_eq (q := 54) (nx := 10) (by decide +kernel) (fun c46 => ?_) (fun c46 => ?_)
    · refine zwW_p [(1, 0, 2), (0, 91, 0)] (q := 57) (ls' := [(2, 37), (0, a), (9, 0)]) (st' := [(0, 91), (2, 37)]) (by decide +kernel) rfl ?_
      refine zwW_cm I (op := 60) (k' := 250) (n := 1) (kd := 13) (m := 97) (nx := 60) (r := 37) (tl := [(0, 91)]) (st' := []) (by decide +kernel) rfl (by decide +kernel) (Nat.ble_eq_true_of_le (by omega)) (m250 h I 91) ?_
      rintro x _ ⟨rfl, ⟨rfl, c47⟩ | ⟨rfl, c47⟩⟩
      · refine zwif_eq (q := 110) (nx := 63) (by decide +kernel) (fun c48 => ?_) (fun c48 => ?_)
        · exfalso; omega
        · refine zwW_p [(1, 0, 2), (1, 1, 0), (0, 8, 0)] (q := 67) (ls' := [(2, 37), (0, a), (9, 0)]) (st' := [(0, 8), (0, a), (2, 37)]) (by decide +kernel) rfl ?_
          refine zwic_ge (q := 74) (nx := 70) (by decide +kernel) (fun c49 => ?_) (fun c49 => ?_)
          · refine zwW_p [(0, 0, 0)] (q := 75) (ls' := [(2, 37), (0, a), (9, 0)]) (st' := [(0, 0), (2, 37)]) (by decide +kernel) rfl ?_
            refine zwW_cm I (op := 60) (k' := 247) (n := 1) (kd := 13) (m := 97) (nx := 78) (r := 37) (tl := [(0, 0)]) (st' := []) (by decide +kernel) rfl (by decide +kernel) (Nat.ble_eq_true_of_le (by omega)) (m247 h I 0 hP) ?_
            rintro x h50 ⟨Ih50, Qh50, ⟨rfl, f51, f52, f53, f54⟩ | ⟨rfl, f55, f56, f57⟩⟩
            · have Rh50 : zMR msP h h50 := R.tr Qh50 (by decide +kernel)
              have zf52 := f52; unfold zP0 at zf52
              have Kh50 := Qh50.kp (by decide +kernel)
              have N75 : zNu h h50 := zNu.mr I pc Qh50 (by decide +kernel) (by omega) (by omega)
              refine zwif_eq (q := 108) (nx := 81) (by decide +kernel) (fun c58 => ?_) (fun c58 => ?_)
              · exfalso; omega
              · refine zwW_p [(1, 0, 2), (1, 1, 0), (0, 1, 0)] (q := 84) (ls' := [(2, 37), (0, a), (9, 0)]) (st' := [(0, 1), (0, a), (2, 37)]) (by decide +kernel) rfl ?_
                refine zwW_add (nx := 85) (by decide +kernel) ⟨by omega, by omega⟩ ?_
                refine zwW_cm Ih50 (op := 60) (k' := 249) (n := 1) (kd := 13) (m := 97) (nx := 88) (r := 37) (tl := [(0, (a + 1))]) (st' := []) (by decide +kernel) rfl (by decide +kernel) (Nat.ble_eq_true_of_le (by omega)) (HE (by omega) h50 Ih50 f52 (by omega) (by omega)) ?_
                rintro x h59 ⟨Ih59, Qh59, f60, ⟨rfl, f61⟩ | ⟨rfl, f62⟩⟩
                · have Rh59 : zMR msP h h59 := Rh50.tr Qh59 (by decide +kernel)
                  have zf60 := f60; unfold zP0 at zf60
                  have Sh59 := f61.k Qh59
                  have W85 := f61
                  refine zwif_eq (q := 108) (nx := 91) (by decide +kernel) (fun c63 => ?_) (fun c63 => ?_)
                  · exfalso; omega
                  · refine zwW_p [(1, 0, 2), (1, 0, 2), (0, 93, 0)] (q := 95) (ls' := [(2, 37), (0, a), (9, 0)]) (st' := [(0, 93), (2, 37), (2, 37)]) (by decide +kernel) rfl ?_
                    refine zwW_cm Ih59 (op := 60) (k' := 250) (n := 1) (kd := 13) (m := 97) (nx := 98) (r := 37) (tl := [(0, 93)]) (st' := [(2, 37)]) (by decide +kernel) rfl (by decide +kernel) (Nat.ble_eq_true_of_le (by omega)) (m250 h59 Ih59 93) ?_
                    rintro x _ ⟨rfl, ⟨rfl, c64⟩ | ⟨rfl, c64⟩⟩
                    · refine zwW_cm Ih59 (op := 60) (k' := 247) (n := 1) (kd := 13) (m := 97) (nx := 101) (r := 37) (tl := [(0, 1)]) (st' := []) (by decide +kernel) rfl (by decide +kernel) (Nat.ble_eq_true_of_le (by omega)) (m247 h59 Ih59 1 f60) ?_
                      rintro x h65 ⟨Ih65, Qh65, ⟨rfl, f66, f67, f68, f69⟩ | ⟨rfl, f70, f71, f72⟩⟩
                      · have Rh65 : zMR msP h h65 := Rh59.tr Qh65 (by decide +kernel)
                        have zf67 := f67; unfold zP0 at zf67
                        have Kh65 := Qh65.kp (by decide +kernel)
                        have N98 : zNu h59 h65 := zNu.mr Ih59 (by omega) Qh65 (by decide +kernel) (by omega) (by omega)
                        have Z : zPS h h65 := (W85.pre N75).post (by omega) N98
                        refine zwif_eq (q := 108) (nx := 104) (by decide +kernel) (fun c73 => ?_) (fun c73 => ?_)
                        · exfalso; omega
                        · refine zwW_p [(0, 1, 0), (24, 109, 0)] (q := 109) (ls' := [(2, 37), (0, a), (9, 0)]) (st' := [(0, 1)]) (by decide +kernel) rfl ?_
                          refine zwW_ret (nx := 110) (a := 1) (b := 0) (by decide +kernel) rfl (Or.inr (Or.inl ⟨rfl, by omega⟩)) ?_
                          exact ⟨Ih65, Rh65, by exact f67, Or.inl ⟨rfl, by exact Z⟩⟩
                      · have Rh65 : zMR msP h h65 := Rh59.tr Qh65 (by decide +kernel)
                        have zf71 := f71; unfold zP0 at zf71
                        refine zwif_eq (q := 108) (nx := 104) (by decide +kernel) (fun c74 => ?_) (fun c74 => ?_)
                        · refine zwW_p [(0, 0, 0)] (q := 109) (ls' := [(2, 37), (0, a), (9, 0)]) (st' := [(0, 0)]) (by decide +kernel) rfl ?_
                          refine zwW_ret (nx := 110) (a := 1) (b := 0) (by decide +kernel) rfl (Or.inr (Or.inl ⟨rfl, by omega⟩)) ?_
                          exact ⟨Ih65, Rh65, by exact f71, Or.inr ⟨rfl, by omega⟩⟩
                        · exfalso; omega
                    · refine zwW_cm Ih59 (op := 60) (k' := 247) (n := 1) (kd := 13) (m := 97) (nx := 101) (r := 37) (tl := [(0, 0)]) (st' := []) (by decide +kernel) rfl (by decide +kernel) (Nat.ble_eq_true_of_le (by omega)) (m247 h59 Ih59 0 f60) ?_
                      rintro x h75 ⟨Ih75, Qh75, ⟨rfl, f76, f77, f78, f79⟩ | ⟨rfl, f80, f81, f82⟩⟩
                      · have Rh75 : zMR msP h h75 := Rh59.tr Qh75 (by decide +kernel)
                        have zf77 := f77; unfold zP0 at zf77
                        have Kh75 := Qh75.kp (by decide +kernel)
                        have N98 : zNu h59 h75 := zNu.mr Ih59 (by omega) Qh75 (by decide +kernel) (by omega) (by omega)
                        have Z : zPS h h75 := (W85.pre N75).post (by omega) N98
                        refine zwif_eq (q := 108) (nx := 104) (by decide +kernel) (fun c83 => ?_) (fun c83 => ?_)
                        · exfalso; omega
                        · refine zwW_p [(0, 1, 0), (24, 109, 0)] (q := 109) (ls' := [(2, 37), (0, a), (9, 0)]) (st' := [(0, 1)]) (by decide +kernel) rfl ?_
                          refine zwW_ret (nx := 110) (a := 1) (b := 0) (by decide +kernel) rfl (Or.inr (Or.inl ⟨rfl, by omega⟩)) ?_
                          exact ⟨Ih75, Rh75, by exact f77, Or.inl ⟨rfl, by exact Z⟩⟩
                      · have Rh75 : zMR msP h h75 := Rh59.tr Qh75 (by decide +kernel)
                        have zf81 := f81; unfold zP0 at zf81
                        refine zwif_eq (q := 108) (nx := 104) (by decide +kernel) (fun c84 => ?_) (fun c84 => ?_)
                        · refine zwW_p [(0, 0, 0)] (q := 109) (ls' := [(2, 37), (0, a), (9, 0)]) (st' := [(0, 0)]) (by decide +kernel) rfl ?_
                          refine zwW_ret (nx := 110) (a := 1) (b := 0) (by decide +kernel) rfl (Or.inr (Or.inl ⟨rfl, by omega⟩)) ?_
                          exact ⟨Ih75, Rh75, by exact f81, Or.inr ⟨rfl, by omega⟩⟩
                        · exfalso; omega
                · have Rh59 : zMR msP h h59 := Rh50.tr Qh59 (by decide +kernel)
                  have zf60 := f60; unfold zP0 at zf60
                  refine zwif_eq (q := 108) (nx := 91) (by decide +kernel) (fun c85 => ?_) (fun c85 => ?_)
                  · refine zwW_p [(0, 0, 0)] (q := 109) (ls' := [(2, 37), (0, a), (9, 0)]) (st' := [(0, 0)]) (by decide +kernel) rfl ?_
                    refine zwW_ret (nx := 110) (a := 1) (b := 0) (by decide +kernel) rfl (Or.inr (Or.inl ⟨rfl, by omega⟩)) ?_
                    exact ⟨Ih59, Rh59, by exact f60, Or.inr ⟨rfl, by omega⟩⟩
                  · exfalso; omega
            · have Rh50 : zMR msP h h50 := R.tr Qh50 (by decide +kernel)
              have zf56 := f56; unfold zP0 at zf56
              refine zwif_eq (q := 108) (nx := 81) (by decide +kernel) (fun c86 => ?_) (fun c86 => ?_)
              · refine zwW_p [(0, 0, 0)] (q := 109) (ls' := [(2, 37), (0, a), (9, 0)]) (st' := [(0, 0)]) (by decide +kernel) rfl ?_
                refine zwW_ret (nx := 110) (a := 1) (b := 0) (by decide +kernel) rfl (Or.inr (Or.inl ⟨rfl, by omega⟩)) ?_
                exact ⟨Ih50, Rh50, by exact f56, Or.inr ⟨rfl, by omega⟩⟩
              · exfalso; omega
          · refine zwW_p [(0, 1, 0), (24, 75, 0)] (q := 75) (ls' := [(2, 37), (0, a), (9, 0)]) (st' := [(0, 1), (2, 37)]) (by decide +kernel) rfl ?_
            refine zwW_cm I (op := 60) (k' := 247) (n := 1) (kd := 13) (m := 97) (nx := 78) (r := 37) (tl := [(0, 1)]) (st' := []) (by decide +kernel) rfl (by decide +kernel) (Nat.ble_eq_true_of_le (by omega)) (m247 h I 1 hP) ?_
            rintro x h87 ⟨Ih87, Qh87, ⟨rfl, f88, f89, f90, f91⟩ | ⟨rfl, f92, f93, f94⟩⟩
            · have Rh87 : zMR msP h h87 := R.tr Qh87 (by decide +kernel)
              have zf89 := f89; unfold zP0 at zf89
              have Kh87 := Qh87.kp (by decide +kernel)
              have N75 : zNu h h87 := zNu.mr I pc Qh87 (by decide +kernel) (by omega) (by omega)
              refine zwif_eq (q := 108) (nx := 81) (by decide +kernel) (fun c95 => ?_) (fun c95 => ?_)
              · exfalso; omega
              · refine zwW_p [(1, 0, 2), (1, 1, 0), (0, 1, 0)] (q := 84) (ls' := [(2, 37), (0, a), (9, 0)]) (st' := [(0, 1), (0, a), (2, 37)]) (by decide +kernel) rfl ?_
                refine zwW_add (nx := 85) (by decide +kernel) ⟨by omega, by omega⟩ ?_
                refine zwW_cm Ih87 (op := 60) (k' := 249) (n := 1) (kd := 13) (m := 97) (nx := 88) (r := 37) (tl := [(0, (a + 1))]) (st' := []) (by decide +kernel) rfl (by decide +kernel) (Nat.ble_eq_true_of_le (by omega)) (HE (by omega) h87 Ih87 f89 (by omega) (by omega)) ?_
                rintro x h96 ⟨Ih96, Qh96, f97, ⟨rfl, f98⟩ | ⟨rfl, f99⟩⟩
                · have Rh96 : zMR msP h h96 := Rh87.tr Qh96 (by decide +kernel)
                  have zf97 := f97; unfold zP0 at zf97
                  have Sh96 := f98.k Qh96
                  have W85 := f98
                  refine zwif_eq (q := 108) (nx := 91) (by decide +kernel) (fun c100 => ?_) (fun c100 => ?_)
                  · exfalso; omega
                  · refine zwW_p [(1, 0, 2), (1, 0, 2), (0, 93, 0)] (q := 95) (ls' := [(2, 37), (0, a), (9, 0)]) (st' := [(0, 93), (2, 37), (2, 37)]) (by decide +kernel) rfl ?_
                    refine zwW_cm Ih96 (op := 60) (k' := 250) (n := 1) (kd := 13) (m := 97) (nx := 98) (r := 37) (tl := [(0, 93)]) (st' := [(2, 37)]) (by decide +kernel) rfl (by decide +kernel) (Nat.ble_eq_true_of_le (by omega)) (m250 h96 Ih96 93) ?_
                    rintro x _ ⟨rfl, ⟨rfl, c101⟩ | ⟨rfl, c101⟩⟩
                    · refine zwW_cm Ih96 (op := 60) (k' := 247) (n := 1) (kd := 13) (m := 97) (nx := 101) (r := 37) (tl := [(0, 1)]) (st' := []) (by decide +kernel) rfl (by decide +kernel) (Nat.ble_eq_true_of_le (by omega)) (m247 h96 Ih96 1 f97) ?_
                      rintro x h102 ⟨Ih102, Qh102, ⟨rfl, f103, f104, f105, f106⟩ | ⟨rfl, f107, f108, f109⟩⟩
                      · have Rh102 : zMR msP h h102 := Rh96.tr Qh102 (by decide +kernel)
                        have zf104 := f104; unfold zP0 at zf104
                        have Kh102 := Qh102.kp (by decide +kernel)
                        have N98 : zNu h96 h102 := zNu.mr Ih96 (by omega) Qh102 (by decide +kernel) (by omega) (by omega)
                        have Z : zPS h h102 := (W85.pre N75).post (by omega) N98
                        refine zwif_eq (q := 108) (nx := 104) (by decide +kernel) (fun c110 => ?_) (fun c110 => ?_)
                        · exfalso; omega
                        · refine zwW_p [(0, 1, 0), (24, 109, 0)] (q := 109) (ls' := [(2, 37), (0, a), (9, 0)]) (st' := [(0, 1)]) (by decide +kernel) rfl ?_
                          refine zwW_ret (nx := 110) (a := 1) (b := 0) (by decide +kernel) rfl (Or.inr (Or.inl ⟨rfl, by omega⟩)) ?_
                          exact ⟨Ih102, Rh102, by exact f104, Or.inl ⟨rfl, by exact Z⟩⟩
                      · have Rh102 : zMR msP h h102 := Rh96.tr Qh102 (by decide +kernel)
                        have zf108 := f108; unfold zP0 at zf108
                        refine zwif_eq (q := 108) (nx := 104) (by decide +kernel) (fun c111 => ?_) (fun c111 => ?_)
                        · refine zwW_p [(0, 0, 0)] (q := 109) (ls' := [(2, 37), (0, a), (9, 0)]) (st' := [(0, 0)]) (by decide +kernel) rfl ?_
                          refine zwW_ret (nx := 110) (a := 1) (b := 0) (by decide +kernel) rfl (Or.inr (Or.inl ⟨rfl, by omega⟩)) ?_
                          exact ⟨Ih102, Rh102, by exact f108, Or.inr ⟨rfl, by omega⟩⟩
                        · exfalso; omega
                    · refine zwW_cm Ih96 (op := 60) (k' := 247) (n := 1) (kd := 13) (m := 97) (nx := 101) (r := 37) (tl := [(0, 0)]) (st' := []) (by decide +kernel) rfl (by decide +kernel) (Nat.ble_eq_true_of_le (by omega)) (m247 h96 Ih96 0 f97) ?_
                      rintro x h112 ⟨Ih112, Qh112, ⟨rfl, f113, f114, f115, f116⟩ | ⟨rfl, f117, f118, f119⟩⟩
                      · have Rh112 : zMR msP h h112 := Rh96.tr Qh112 (by decide +kernel)
                        have zf114 := f114; unfold zP0 at zf114
                        have Kh112 := Qh112.kp (by decide +kernel)
                        have N98 : zNu h96 h112 := zNu.mr Ih96 (by omega) Qh112 (by decide +kernel) (by omega) (by omega)
                        have Z : zPS h h112 := (W85.pre N75).post (by omega) N98
                        refine zwif_eq (q := 108) (nx := 104) (by decide +kernel) (fun c120 => ?_) (fun c120 => ?_)
                        · exfalso; omega
                        · refine zwW_p [(0, 1, 0), (24, 109, 0)] (q := 109) (ls' := [(2, 37), (0, a), (9, 0)]) (st' := [(0, 1)]) (by decide +kernel) rfl ?_
                          refine zwW_ret (nx := 110) (a := 1) (b := 0) (by decide +kernel) rfl (Or.inr (Or.inl ⟨rfl, by omega⟩)) ?_
                          exact ⟨Ih112, Rh112, by exact f114, Or.inl ⟨rfl, by exact Z⟩⟩
                      · have Rh112 : zMR msP h h112 := Rh96.tr Qh112 (by decide +kernel)
                        have zf118 := f118; unfold zP0 at zf118
                        refine zwif_eq (q := 108) (nx := 104) (by decide +kernel) (fun c121 => ?_) (fun c121 => ?_)
                        · refine zwW_p [(0, 0, 0)] (q := 109) (ls' := [(2, 37), (0, a), (9, 0)]) (st' := [(0, 0)]) (by decide +kernel) rfl ?_
                          refine zwW_ret (nx := 110) (a := 1) (b := 0) (by decide +kernel) rfl (Or.inr (Or.inl ⟨rfl, by omega⟩)) ?_
                          exact ⟨Ih112, Rh112, by exact f118, Or.inr ⟨rfl, by omega⟩⟩
                        · exfalso; omega
                · have Rh96 : zMR msP h h96 := Rh87.tr Qh96 (by decide +kernel)
                  have zf97 := f97; unfold zP0 at zf97
                  refine zwif_eq (q := 108) (nx := 91) (by decide +kernel) (fun c122 => ?_) (fun c122 => ?_)
                  · refine zwW_p [(0, 0, 0)] (q := 109) (ls' := [(2, 37), (0, a), (9, 0)]) (st' := [(0, 0)]) (by decide +kernel) rfl ?_
                    refine zwW_ret (nx := 110) (a := 1) (b := 0) (by decide +kernel) rfl (Or.inr (Or.inl ⟨rfl, by omega⟩)) ?_
                    exact ⟨Ih96, Rh96, by exact f97, Or.inr ⟨rfl, by omega⟩⟩
                  · exfalso; omega
            · have Rh87 : zMR msP h h87 := R.tr Qh87 (by decide +kernel)
              have zf93 := f93; unfold zP0 at zf93
              refine zwif_eq (q := 108) (nx := 81) (by decide +kernel) (fun c123 => ?_) (fun c123 => ?_)
              · refine zwW_p [(0, 0, 0)] (q := 109) (ls' := [(2, 37), (0, a), (9, 0)]) (st' := [(0, 0)]) (by decide +kernel) rfl ?_
                refine zwW_ret (nx := 110) (a := 1) (b := 0) (by decide +kernel) rfl (Or.inr (Or.inl ⟨rfl, by omega⟩)) ?_
                exact ⟨Ih87, Rh87, by exact f93, Or.inr ⟨rfl, by omega⟩⟩
              · exfalso; omega
      · refine zwif_eq (q := 110) (nx := 63) (by decide +kernel) (fun c124 => ?_) (fun c124 => ?_)
        · refine zwW_p [(1, 0, 2), (1, 1, 0)] (q := 112) (ls' := [(2, 37), (0, a), (9, 0)]) (st' := [(0, a), (2, 37)]) (by decide +kernel) rfl ?_
          refine zwW_cm I (op := 60) (k' := 248) (n := 1) (kd := 13) (m := 97) (nx := 115) (r := 37) (tl := [(0, a)]) (st' := []) (by decide +kernel) rfl (by decide +kernel) (Nat.ble_eq_true_of_le (by omega)) (m248 a D0 pa HS h I hP (by omega) (by omega)) ?_
          rintro x h125 ⟨Ih125, Qh125, f126, ⟨rfl, f127⟩ | ⟨rfl, f128⟩⟩
          · have Rh125 : zMR msP h h125 := R.tr Qh125 (by decide +kernel)
            have zf126 := f126; unfold zP0 at zf126
            have Sh125 := f127.k Qh125
            have W112 := f127
            refine zwif_ne (q := 120) (nx := 118) (by decide +kernel) (fun c129 => ?_) (fun c129 => ?_)
            · refine zwW_p [(1, 0, 2), (0, 60, 0)] (q := 123) (ls' := [(2, 37), (0, a), (9, 0)]) (st' := [(0, 60), (2, 37)]) (by decide +kernel) rfl ?_
              refine zwW_cm Ih125 (op := 60) (k' := 250) (n := 1) (kd := 13) (m := 97) (nx := 126) (r := 37) (tl := [(0, 60)]) (st' := []) (by decide +kernel) rfl (by decide +kernel) (Nat.ble_eq_true_of_le (by omega)) (m250 h125 Ih125 60) ?_
              rintro x _ ⟨rfl, ⟨rfl, c130⟩ | ⟨rfl, c130⟩⟩
              · refine zwif_ne (q := 152) (nx := 129) (by decide +kernel) (fun c131 => ?_) (fun c131 => ?_)
                · refine zwW_p [(1, 0, 2)] (q := 153) (ls' := [(2, 37), (0, a), (9, 0)]) (st' := [(2, 37)]) (by decide +kernel) rfl ?_
                  refine zwW_gc Ih125 (kd := 13) (bn := 40) (n := 97) (c := 98) (nx := 156) (by decide +kernel) ?_
                  refine zwW_p [(1, 0, 2)] (q := 157) (ls' := [(2, 37), (0, a), (9, 0)]) (st' := [(2, 37), (2, 98)]) (by decide +kernel) rfl ?_
                  refine zwW_gs Ih125 (kd := 13) (bn := 42) (n := 97) (t := 0) (lo := 0) (hi := 400) (nx := 160) (by decide +kernel) ?_
                  intro v132 ev132 lv132 uv132
                  have X160 : v132 = fld h125 37 42 := by omega
                  refine zwW_al Ih125 (a1 := 98) (a2 := 98) (kd := 21) (n := 400) (t := 0) (lo := -128) (hi := 127) (nx := 161) (by decide +kernel) ⟨by decide, by decide⟩ ⟨by omega, by omega⟩ ?_
                  intro v133 ev133 lv133 uv133
                  have G161 : v133 = fld h125 98 (fld h125 37 42).toNat := by rw [ev133, X160]
                  refine zwW_p [(2, 2, 0), (1, 0, 2)] (q := 163) (ls' := [(2, 37), (0, a), (0, v133)]) (st' := [(2, 37)]) (by decide +kernel) rfl ?_
                  refine zwW_cmv Ih125 (op := 60) (k' := 268) (n := 0) (kd := 13) (m := 97) (nx := 166) (r := 37) (tl := []) (st' := []) (by decide +kernel) rfl (by decide +kernel) (Nat.ble_eq_true_of_le (by omega)) (m268 h125 Ih125 f126) ?_
                  rintro h136 ⟨Ih136, Qh136, f134, f135⟩
                  have Rh136 : zMR msP h h136 := Rh125.tr Qh136 (by decide +kernel)
                  have zf135 := f135; unfold zP0 at zf135
                  have Kh136 := Qh136.kp (by decide +kernel)
                  have N163 : zNu h125 h136 := zNu.mr Ih125 (by omega) Qh136 (by decide +kernel) (Qh136.f1 44 (by decide +kernel)) (by omega)
                  refine zwW_p [(1, 0, 2), (1, 1, 0)] (q := 168) (ls' := [(2, 37), (0, a), (0, v133)]) (st' := [(0, a), (2, 37)]) (by decide +kernel) rfl ?_
                  refine zwW_cm Ih136 (op := 60) (k' := 248) (n := 1) (kd := 13) (m := 97) (nx := 171) (r := 37) (tl := [(0, a)]) (st' := []) (by decide +kernel) rfl (by decide +kernel) (Nat.ble_eq_true_of_le (by omega)) (m248 a D0 pa HS h136 Ih136 f135 (by omega) (by omega)) ?_
                  rintro x h137 ⟨Ih137, Qh137, f138, ⟨rfl, f139⟩ | ⟨rfl, f140⟩⟩
                  · have Rh137 : zMR msP h h137 := Rh136.tr Qh137 (by decide +kernel)
                    have zf138 := f138; unfold zP0 at zf138
                    have Sh137 := f139.k Qh137
                    have W168 := f139
                    refine zwif_eq (q := 187) (nx := 174) (by decide +kernel) (fun c141 => ?_) (fun c141 => ?_)
                    · exfalso; omega
                    · refine zwW_p [(1, 0, 2), (1, 2, 0), (0, 0, 0)] (q := 177) (ls' := [(2, 37), (0, a), (0, v133)]) (st' := [(0, 0), (0, v133), (2, 37)]) (by decide +kernel) rfl ?_
                      refine zwW_cm Ih137 (op := 60) (k' := 270) (n := 2) (kd := 13) (m := 97) (nx := 180) (r := 37) (tl := [(0, v133), (0, 0)]) (st' := []) (by decide +kernel) rfl (by decide +kernel) (Nat.ble_eq_true_of_le (by omega)) (m270 h137 Ih137 v133 0 (by omega) (by omega) (by omega) (by omega)) ?_
                      rintro x h145 ⟨Ih145, Qh145, rfl, f142, f143, f144⟩
                      have Rh145 : zMR msP h h145 := Rh137.tr Qh145 (by decide +kernel)
                      have Ph145 := f138.mr Qh145 (by decide +kernel); have zPh145 := Ph145; unfold zP0 at zPh145
                      have Z : zPS h h145 := zPS_bin (by omega) (by omega) W112 N163 (by omega) W168 (by omega) (zPu.of Qh145 f142 f143 f144) (by omega)
                      refine zwif_eq (q := 187) (nx := 183) (by decide +kernel) (fun c146 => ?_) (fun c146 => ?_)
                      · exfalso; omega
                      · refine zwW_p [(0, 1, 0), (24, 188, 0)] (q := 188) (ls' := [(2, 37), (0, a), (0, v133)]) (st' := [(0, 1)]) (by decide +kernel) rfl ?_
                        refine zwW_ret (nx := 189) (a := 1) (b := 0) (by decide +kernel) rfl (Or.inr (Or.inl ⟨rfl, by omega⟩)) ?_
                        exact ⟨Ih145, Rh145, by exact Ph145, Or.inl ⟨rfl, by exact Z⟩⟩
                  · have Rh137 : zMR msP h h137 := Rh136.tr Qh137 (by decide +kernel)
                    have zf138 := f138; unfold zP0 at zf138
                    refine zwif_eq (q := 187) (nx := 174) (by decide +kernel) (fun c147 => ?_) (fun c147 => ?_)
                    · refine zwW_p [(0, 0, 0)] (q := 188) (ls' := [(2, 37), (0, a), (0, v133)]) (st' := [(0, 0)]) (by decide +kernel) rfl ?_
                      refine zwW_ret (nx := 189) (a := 1) (b := 0) (by decide +kernel) rfl (Or.inr (Or.inl ⟨rfl, by omega⟩)) ?_
                      exact ⟨Ih137, Rh137, by exact f138, Or.inr ⟨rfl, by omega⟩⟩
                    · exfalso; omega
                · exfalso; omega
              · refine zwif_ne (q := 152) (nx := 129) (by decide +kernel) (fun c148 => ?_) (fun c148 => ?_)
                · exfalso; omega
                · refine zwW_p [(1, 0, 2), (0, 62, 0)] (q := 132) (ls' := [(2, 37), (0, a), (9, 0)]) (st' := [(0, 62), (2, 37)]) (by decide +kernel) rfl ?_
                  refine zwW_cm Ih125 (op := 60) (k' := 250) (n := 1) (kd := 13) (m := 97) (nx := 135) (r := 37) (tl := [(0, 62)]) (st' := []) (by decide +kernel) rfl (by decide +kernel) (Nat.ble_eq_true_of_le (by omega)) (m250 h125 Ih125 62) ?_
                  rintro x _ ⟨rfl, ⟨rfl, c149⟩ | ⟨rfl, c149⟩⟩
                  · refine zwif_ne (q := 152) (nx := 138) (by decide +kernel) (fun c150 => ?_) (fun c150 => ?_)
                    · refine zwW_p [(1, 0, 2)] (q := 153) (ls' := [(2, 37), (0, a), (9, 0)]) (st' := [(2, 37)]) (by decide +kernel) rfl ?_
                      refine zwW_gc Ih125 (kd := 13) (bn := 40) (n := 97) (c := 98) (nx := 156) (by decide +kernel) ?_
                      refine zwW_p [(1, 0, 2)] (q := 157) (ls' := [(2, 37), (0, a), (9, 0)]) (st' := [(2, 37), (2, 98)]) (by decide +kernel) rfl ?_
                      refine zwW_gs Ih125 (kd := 13) (bn := 42) (n := 97) (t := 0) (lo := 0) (hi := 400) (nx := 160) (by decide +kernel) ?_
                      intro v151 ev151 lv151 uv151
                      have X160 : v151 = fld h125 37 42 := by omega
                      refine zwW_al Ih125 (a1 := 98) (a2 := 98) (kd := 21) (n := 400) (t := 0) (lo := -128) (hi := 127) (nx := 161) (by decide +kernel) ⟨by decide, by decide⟩ ⟨by omega, by omega⟩ ?_
                      intro v152 ev152 lv152 uv152
                      have G161 : v152 = fld h125 98 (fld h125 37 42).toNat := by rw [ev152, X160]
                      refine zwW_p [(2, 2, 0), (1, 0, 2)] (q := 163) (ls' := [(2, 37), (0, a), (0, v152)]) (st' := [(2, 37)]) (by decide +kernel) rfl ?_
                      refine zwW_cmv Ih125 (op := 60) (k' := 268) (n := 0) (kd := 13) (m := 97) (nx := 166) (r := 37) (tl := []) (st' := []) (by decide +kernel) rfl (by decide +kernel) (Nat.ble_eq_true_of_le (by omega)) (m268 h125 Ih125 f126) ?_
                      rintro h155 ⟨Ih155, Qh155, f153, f154⟩
                      have Rh155 : zMR msP h h155 := Rh125.tr Qh155 (by decide +kernel)
                      have zf154 := f154; unfold zP0 at zf154
                      have Kh155 := Qh155.kp (by decide +kernel)
                      have N163 : zNu h125 h155 := zNu.mr Ih125 (by omega) Qh155 (by decide +kernel) (Qh155.f1 44 (by decide +kernel)) (by omega)
                      refine zwW_p [(1, 0, 2), (1, 1, 0)] (q := 168) (ls' := [(2, 37), (0, a), (0, v152)]) (st' := [(0, a), (2, 37)]) (by decide +kernel) rfl ?_
                      refine zwW_cm Ih155 (op := 60) (k' := 248) (n := 1) (kd := 13) (m := 97) (nx := 171) (r := 37) (tl := [(0, a)]) (st' := []) (by decide +kernel) rfl (by decide +kernel) (Nat.ble_eq_true_of_le (by omega)) (m248 a D0 pa HS h155 Ih155 f154 (by omega) (by omega)) ?_
                      rintro x h156 ⟨Ih156, Qh156, f157, ⟨rfl, f158⟩ | ⟨rfl, f159⟩⟩
                      · have Rh156 : zMR msP h h156 := Rh155.tr Qh156 (by decide +kernel)
                        have zf157 := f157; unfold zP0 at zf157
                        have Sh156 := f158.k Qh156
                        have W168 := f158
                        refine zwif_eq (q := 187) (nx := 174) (by decide +kernel) (fun c160 => ?_) (fun c160 => ?_)
                        · exfalso; omega
                        · refine zwW_p [(1, 0, 2), (1, 2, 0), (0, 0, 0)] (q := 177) (ls' := [(2, 37), (0, a), (0, v152)]) (st' := [(0, 0), (0, v152), (2, 37)]) (by decide +kernel) rfl ?_
                          refine zwW_cm Ih156 (op := 60) (k' := 270) (n := 2) (kd := 13) (m := 97) (nx := 180) (r := 37) (tl := [(0, v152), (0, 0)]) (st' := []) (by decide +kernel) rfl (by decide +kernel) (Nat.ble_eq_true_of_le (by omega)) (m270 h156 Ih156 v152 0 (by omega) (by omega) (by omega) (by omega)) ?_
                          rintro x h164 ⟨Ih164, Qh164, rfl, f161, f162, f163⟩
                          have Rh164 : zMR msP h h164 := Rh156.tr Qh164 (by decide +kernel)
                          have Ph164 := f157.mr Qh164 (by decide +kernel); have zPh164 := Ph164; unfold zP0 at zPh164
                          have Z : zPS h h164 := zPS_bin (by omega) (by omega) W112 N163 (by omega) W168 (by omega) (zPu.of Qh164 f161 f162 f163) (by omega)
                          refine zwif_eq (q := 187) (nx := 183) (by decide +kernel) (fun c165 => ?_) (fun c165 => ?_)
                          · exfalso; omega
                          · refine zwW_p [(0, 1, 0), (24, 188, 0)] (q := 188) (ls' := [(2, 37), (0, a), (0, v152)]) (st' := [(0, 1)]) (by decide +kernel) rfl ?_
                            refine zwW_ret (nx := 189) (a := 1) (b := 0) (by decide +kernel) rfl (Or.inr (Or.inl ⟨rfl, by omega⟩)) ?_
                            exact ⟨Ih164, Rh164, by exact Ph164, Or.inl ⟨rfl, by exact Z⟩⟩
                      · have Rh156 : zMR msP h h156 := Rh155.tr Qh156 (by decide +kernel)
                        have zf157 := f157; unfold zP0 at zf157
                        refine zwif_eq (q := 187) (nx := 174) (by decide +kernel) (fun c166 => ?_) (fun c166 => ?_)
                        · refine zwW_p [(0, 0, 0)] (q := 188) (ls' := [(2, 37), (0, a), (0, v152)]) (st' := [(0, 0)]) (by decide +kernel) rfl ?_
                          refine zwW_ret (nx := 189) (a := 1) (b := 0) (by decide +kernel) rfl (Or.inr (Or.inl ⟨rfl, by omega⟩)) ?_
                          exact ⟨Ih156, Rh156, by exact f157, Or.inr ⟨rfl, by omega⟩⟩
                        · exfalso; omega
                    · exfalso; omega
                  · refine zwif_ne (q := 152) (nx := 138) (by decide +kernel) (fun c167 => ?_) (fun c167 => ?_)
                    · exfalso; omega
                    · refine zwW_p [(1, 0, 2), (0, 61, 0)] (q := 141) (ls' := [(2, 37), (0, a), (9, 0)]) (st' := [(0, 61), (2, 37)]) (by decide +kernel) rfl ?_
                      refine zwW_cm Ih125 (op := 60) (k' := 250) (n := 1) (kd := 13) (m := 97) (nx := 144) (r := 37) (tl := [(0, 61)]) (st' := []) (by decide +kernel) rfl (by decide +kernel) (Nat.ble_eq_true_of_le (by omega)) (m250 h125 Ih125 61) ?_
                      rintro x _ ⟨rfl, ⟨rfl, c168⟩ | ⟨rfl, c168⟩⟩
                      · refine zwif_ne (q := 152) (nx := 147) (by decide +kernel) (fun c169 => ?_) (fun c169 => ?_)
                        · refine zwW_p [(1, 0, 2)] (q := 153) (ls' := [(2, 37), (0, a), (9, 0)]) (st' := [(2, 37)]) (by decide +kernel) rfl ?_
                          refine zwW_gc Ih125 (kd := 13) (bn := 40) (n := 97) (c := 98) (nx := 156) (by decide +kernel) ?_
                          refine zwW_p [(1, 0, 2)] (q := 157) (ls' := [(2, 37), (0, a), (9, 0)]) (st' := [(2, 37), (2, 98)]) (by decide +kernel) rfl ?_
                          refine zwW_gs Ih125 (kd := 13) (bn := 42) (n := 97) (t := 0) (lo := 0) (hi := 400) (nx := 160) (by decide +kernel) ?_
                          intro v170 ev170 lv170 uv170
                          have X160 : v170 = fld h125 37 42 := by omega
                          refine zwW_al Ih125 (a1 := 98) (a2 := 98) (kd := 21) (n := 400) (t := 0) (lo := -128) (hi := 127) (nx := 161) (by decide +kernel) ⟨by decide, by decide⟩ ⟨by omega, by omega⟩ ?_
                          intro v171 ev171 lv171 uv171
                          have G161 : v171 = fld h125 98 (fld h125 37 42).toNat := by rw [ev171, X160]
                          refine zwW_p [(2, 2, 0), (1, 0, 2)] (q := 163) (ls' := [(2, 37), (0, a), (0, v171)]) (st' := [(2, 37)]) (by decide +kernel) rfl ?_
                          refine zwW_cmv Ih125 (op := 60) (k' := 268) (n := 0) (kd := 13) (m := 97) (nx := 166) (r := 37) (tl := []) (st' := []) (by decide +kernel) rfl (by decide +kernel) (Nat.ble_eq_true_of_le (by omega)) (m268 h125 Ih125 f126) ?_
                          rintro h174 ⟨Ih174, Qh174, f172, f173⟩
                          have Rh174 : zMR msP h h174 := Rh125.tr Qh174 (by decide +kernel)
                          have zf173 := f173; unfold zP0 at zf173
                          have Kh174 := Qh174.kp (by decide +kernel)
                          have N163 : zNu h125 h174 := zNu.mr Ih125 (by omega) Qh174 (by decide +kernel) (Qh174.f1 44 (by decide +kernel)) (by omega)
                          refine zwW_p [(1, 0, 2), (1, 1, 0)] (q := 168) (ls' := [(2, 37), (0, a), (0, v171)]) (st' := [(0, a), (2, 37)]) (by decide +kernel) rfl ?_
                          refine zwW_cm Ih174 (op := 60) (k' := 248) (n := 1) (kd := 13) (m := 97) (nx := 171) (r := 37) (tl := [(0, a)]) (st' := []) (by decide +kernel) rfl (by decide +kernel) (Nat.ble_eq_true_of_le (by omega)) (m248 a D0 pa HS h174 Ih174 f173 (by omega) (by omega)) ?_
                          rintro x h175 ⟨Ih175, Qh175, f176, ⟨rfl, f177⟩ | ⟨rfl, f178⟩⟩
                          · have Rh175 : zMR msP h h175 := Rh174.tr Qh175 (by decide +kernel)
                            have zf176 := f176; unfold zP0 at zf176
                            have Sh175 := f177.k Qh175
                            have W168 := f177
                            refine zwif_eq (q := 187) (nx := 174) (by decide +kernel) (fun c179 => ?_) (fun c179 => ?_)
                            · exfalso; omega
                            · refine zwW_p [(1, 0, 2), (1, 2, 0), (0, 0, 0)] (q := 177) (ls' := [(2, 37), (0, a), (0, v171)]) (st' := [(0, 0), (0, v171), (2, 37)]) (by decide +kernel) rfl ?_
                              refine zwW_cm Ih175 (op := 60) (k' := 270) (n := 2) (kd := 13) (m := 97) (nx := 180) (r := 37) (tl := [(0, v171), (0, 0)]) (st' := []) (by decide +kernel) rfl (by decide +kernel) (Nat.ble_eq_true_of_le (by omega)) (m270 h175 Ih175 v171 0 (by omega) (by omega) (by omega) (by omega)) ?_
                              rintro x h183 ⟨Ih183, Qh183, rfl, f180, f181, f182⟩
                              have Rh183 : zMR msP h h183 := Rh175.tr Qh183 (by decide +kernel)
                              have Ph183 := f176.mr Qh183 (by decide +kernel); have zPh183 := Ph183; unfold zP0 at zPh183
                              have Z : zPS h h183 := zPS_bin (by omega) (by omega) W112 N163 (by omega) W168 (by omega) (zPu.of Qh183 f180 f181 f182) (by omega)
                              refine zwif_eq (q := 187) (nx := 183) (by decide +kernel) (fun c184 => ?_) (fun c184 => ?_)
                              · exfalso; omega
                              · refine zwW_p [(0, 1, 0), (24, 188, 0)] (q := 188) (ls' := [(2, 37), (0, a), (0, v171)]) (st' := [(0, 1)]) (by decide +kernel) rfl ?_
                                refine zwW_ret (nx := 189) (a := 1) (b := 0) (by decide +kernel) rfl (Or.inr (Or.inl ⟨rfl, by omega⟩)) ?_
                                exact ⟨Ih183, Rh183, by exact Ph183, Or.inl ⟨rfl, by exact Z⟩⟩
                          · have Rh175 : zMR msP h h175 := Rh174.tr Qh175 (by decide +kernel)
                            have zf176 := f176; unfold zP0 at zf176
                            refine zwif_eq (q := 187) (nx := 174) (by decide +kernel) (fun c185 => ?_) (fun c185 => ?_)
                            · refine zwW_p [(0, 0, 0)] (q := 188) (ls' := [(2, 37), (0, a), (0, v171)]) (st' := [(0, 0)]) (by decide +kernel) rfl ?_
                              refine zwW_ret (nx := 189) (a := 1) (b := 0) (by decide +kernel) rfl (Or.inr (Or.inl ⟨rfl, by omega⟩)) ?_
                              exact ⟨Ih175, Rh175, by exact f176, Or.inr ⟨rfl, by omega⟩⟩
                            · exfalso; omega
                        · exfalso; omega
                      · refine zwif_ne (q := 152) (nx := 147) (by decide +kernel) (fun c186 => ?_) (fun c186 => ?_)
                        · exfalso; omega
                        · refine zwW_p [(1, 0, 2)] (q := 148) (ls' := [(2, 37), (0, a), (9, 0)]) (st' := [(2, 37)]) (by decide +kernel) rfl ?_
                          refine zwW_cm Ih125 (op := 60) (k' := 267) (n := 0) (kd := 13) (m := 97) (nx := 151) (r := 37) (tl := []) (st' := []) (by decide +kernel) rfl (by decide +kernel) (Nat.ble_eq_true_of_le (by omega)) (m267 h125 Ih125) ?_
                          rintro x h188 ⟨Ih188, Qh188, rfl, f187⟩
                          have Rh188 : zMR msP h h188 := Rh125.tr Qh188 (by decide +kernel)
                          have Ph188 := f126.mr Qh188 (by decide +kernel); have zPh188 := Ph188; unfold zP0 at zPh188
                          refine zwW_ret (nx := 152) (a := 1) (b := 0) (by decide +kernel) rfl (Or.inr (Or.inl ⟨rfl, by omega⟩)) ?_
                          exact ⟨Ih188, Rh188, by exact Ph188, Or.inr ⟨rfl, by omega⟩⟩
            · exfalso; omega
          · have Rh125 : zMR msP h h125 := R.tr Qh125 (by decide +kernel)
            have zf126 := f126; unfold zP0 at zf126
            refine zwif_ne (q := 120) (nx := 118) (by decide +kernel) (fun c189 => ?_) (fun c189 => ?_)
            · exfalso; omega
            · refine zwW_p [(0, 0, 0)] (q := 119) (ls' := [(2, 37), (0, a), (9, 0)]) (st' := [(0, 0)]) (by decide +kernel) rfl ?_
              refine zwW_ret (nx := 120) (a := 1) (b := 0) (by decide +kernel) rfl (Or.inr (Or.inl ⟨rfl, by omega⟩)) ?_
              exact ⟨Ih125, Rh125, by exact f126, Or.inr ⟨rfl, by omega⟩⟩
        · exfalso; omega
    · exfalso; omega
-- WheelLandModel.each(I)Z
theorem m271 {sc : List Int} (a : Int) (D0 : Nat) (pa : 0 ≤ a ∧ a ≤ 8) (HS : a < 8 → zPX sc D0 248 (a + 1)) (HT : a < 8 → zPX sc D0 286 (a + 1)) (HE : a < 8 → zPX sc D0 249 (a + 1)) : zPX sc (D0 + 24) 271 a := by
  intro h I hP pc pk
  have hP0 := hP
  unfold zP0 at hP0
  have bk := I.b (a1 := 37) (a2 := 37) (j1 := 45) (j2 := 46) (lo := 0) (hi := 400) (by decide +kernel) (r := 37) (j := 45) (by decide) (by decide) (by decide) (by decide)
  have bt := I.b (a1 := 37) (a2 := 37) (j1 := 41) (j2 := 42) (lo := 0) (hi := 400) (by decide +kernel) (r := 37) (j := 41) (by decide) (by decide) (by decide) (by decide)
  refine zwC_of (D := D0 + 23) 2 (by decide +kernel) rfl (ls := [(2, 37), (0, a)]) rfl ?_
  have R : zMR msP h h := zMR.rf _ _
  refine zwW_p [(1, 0, 2), (1, 1, 0)] (q := 2) (ls' := [(2, 37), (0, a)]) (st' := [(0, a), (2, 37)]) (by decide +kernel) rfl ?_
  refine zwW_cm I (op := 60) (k' := 286) (n := 1) (kd := 13) (m := 97) (nx := 5) (r := 37) (tl := [(0, a)]) (st' := []) (by decide +kernel) rfl (by decide +kernel) (Nat.ble_eq_true_of_le (by omega)) (m286 a D0 pa HS HT HE h I hP (by omega) (by omega)) ?_
  rintro x h1 ⟨Ih1, Qh1, f2, ⟨rfl, f3⟩ | ⟨rfl, f4⟩⟩
  · have Rh1 : zMR msP h h1 := R.tr Qh1 (by decide +kernel)
    have zf2 := f2; unfold zP0 at zf2
    have Sh1 := f3.k Qh1
    refine zwif_ne (q := 10) (nx := 8) (by decide +kernel) (fun c5 => ?_) (fun c5 => ?_)
    · have L6 : ∀ (n : Nat) (hL6 : Hp), n = (fld hL6 37 41 - fld hL6 37 42).toNat → (zPS h hL6) → (zP0 hL6) → zI hL6 → zMR msP h hL6 → zwW sc (D0 + 23) 271 10 [(2, 37), (0, a)] [] hL6 (zwRt 0 (zPQ h)) := by
        intro n
        induction n using Nat.strongRecOn with
        | ind n IHL6 =>
          intro hL6 hnL6 iL6_0 iL6_1 IhL6 RhL6
          have ShL6 := iL6_0.k RhL6
          have yhL6 := iL6_1; unfold zP0 at yhL6
          refine zwW_p [(1, 0, 2), (0, -31, 2)] (q := 14) (ls' := [(2, 37), (0, a)]) (st' := [(2, -31), (2, 37)]) (by decide +kernel) rfl ?_
          refine zwW_cm IhL6 (op := 60) (k' := 246) (n := 1) (kd := 13) (m := 97) (nx := 17) (r := 37) (tl := [(2, -31)]) (st' := []) (by decide +kernel) rfl (by decide +kernel) (Nat.ble_eq_true_of_le (by omega)) (m246 hL6 IhL6 (-31) (by omega) iL6_1) ?_
          rintro x _ ⟨rfl, ⟨rfl, c7⟩ | ⟨rfl, c7⟩⟩
          · refine zwif_eq (q := 45) (nx := 20) (by decide +kernel) (fun c8 => ?_) (fun c8 => ?_)
            · exfalso; omega
            · refine zwW_p [(1, 0, 2)] (q := 21) (ls' := [(2, 37), (0, a)]) (st' := [(2, 37)]) (by decide +kernel) rfl ?_
              refine zwW_cmv IhL6 (op := 60) (k' := 268) (n := 0) (kd := 13) (m := 97) (nx := 24) (r := 37) (tl := []) (st' := []) (by decide +kernel) rfl (by decide +kernel) (Nat.ble_eq_true_of_le (by omega)) (m268 hL6 IhL6 iL6_1) ?_
              rintro h11 ⟨Ih11, Qh11, f9, f10⟩
              have Rh11 : zMR msP h h11 := RhL6.tr Qh11 (by decide +kernel)
              have zf10 := f10; unfold zP0 at zf10
              have Kh11 := Qh11.kp (by decide +kernel)
              have N21 : zNu hL6 h11 := zNu.mr IhL6 (by omega) Qh11 (by decide +kernel) (Qh11.f1 44 (by decide +kernel)) (by omega)
              refine zwW_p [(1, 0, 2), (1, 1, 0)] (q := 26) (ls' := [(2, 37), (0, a)]) (st' := [(0, a), (2, 37)]) (by decide +kernel) rfl ?_
              refine zwW_cm Ih11 (op := 60) (k' := 286) (n := 1) (kd := 13) (m := 97) (nx := 29) (r := 37) (tl := [(0, a)]) (st' := []) (by decide +kernel) rfl (by decide +kernel) (Nat.ble_eq_true_of_le (by omega)) (m286 a D0 pa HS HT HE h11 Ih11 f10 (by omega) (by omega)) ?_
              rintro x h12 ⟨Ih12, Qh12, f13, ⟨rfl, f14⟩ | ⟨rfl, f15⟩⟩
              · have Rh12 : zMR msP h h12 := Rh11.tr Qh12 (by decide +kernel)
                have zf13 := f13; unfold zP0 at zf13
                have Sh12 := f14.k Qh12
                have W26 := f14
                refine zwif_ne (q := 34) (nx := 32) (by decide +kernel) (fun c16 => ?_) (fun c16 => ?_)
                · refine zwW_p [(1, 0, 2), (0, 38, 0), (0, 0, 0)] (q := 38) (ls' := [(2, 37), (0, a)]) (st' := [(0, 0), (0, 38), (2, 37)]) (by decide +kernel) rfl ?_
                  refine zwW_cm Ih12 (op := 60) (k' := 270) (n := 2) (kd := 13) (m := 97) (nx := 41) (r := 37) (tl := [(0, 38), (0, 0)]) (st' := []) (by decide +kernel) rfl (by decide +kernel) (Nat.ble_eq_true_of_le (by omega)) (m270 h12 Ih12 38 0 (by omega) (by omega) (by omega) (by omega)) ?_
                  rintro x h20 ⟨Ih20, Qh20, rfl, f17, f18, f19⟩
                  have Rh20 : zMR msP h h20 := Rh12.tr Qh20 (by decide +kernel)
                  have Ph20 := f13.mr Qh20 (by decide +kernel); have zPh20 := Ph20; unfold zP0 at zPh20
                  have Z38 : zPS h h20 := zPS_bin (by omega) (by omega) iL6_0 N21 (by omega) W26 (by omega) (zPu.of Qh20 f17 f18 f19) (by omega)
                  have Sh20 := Z38.k Rh20
                  have Th20 := Qh20.f1 42 (by decide +kernel)
                  refine zwW_p [(15, 0, 0), (24, 10, 0)] (q := 10) (ls' := [(2, 37), (0, a)]) (st' := []) (by decide +kernel) rfl ?_
                  exact IHL6 (fld h20 37 41 - fld h20 37 42).toNat (by omega) h20 rfl (Z38) (Ph20) Ih20 Rh20
                · exfalso; omega
              · have Rh12 : zMR msP h h12 := Rh11.tr Qh12 (by decide +kernel)
                have zf13 := f13; unfold zP0 at zf13
                refine zwif_ne (q := 34) (nx := 32) (by decide +kernel) (fun c21 => ?_) (fun c21 => ?_)
                · exfalso; omega
                · refine zwW_p [(0, 0, 0)] (q := 33) (ls' := [(2, 37), (0, a)]) (st' := [(0, 0)]) (by decide +kernel) rfl ?_
                  refine zwW_ret (nx := 34) (a := 1) (b := 0) (by decide +kernel) rfl (Or.inr (Or.inl ⟨rfl, by omega⟩)) ?_
                  exact ⟨Ih12, Rh12, by exact f13, Or.inr ⟨rfl, by omega⟩⟩
          · refine zwif_eq (q := 45) (nx := 20) (by decide +kernel) (fun c22 => ?_) (fun c22 => ?_)
            · have Z := iL6_0
              refine zwW_p [(0, 1, 0)] (q := 46) (ls' := [(2, 37), (0, a)]) (st' := [(0, 1)]) (by decide +kernel) rfl ?_
              refine zwW_ret (nx := 47) (a := 1) (b := 0) (by decide +kernel) rfl (Or.inr (Or.inl ⟨rfl, by omega⟩)) ?_
              exact ⟨IhL6, RhL6, by exact iL6_1, Or.inl ⟨rfl, by exact Z⟩⟩
            · exfalso; omega
      exact L6 _ h1 rfl (f3) (f2) Ih1 Rh1
    · exfalso; omega
  · have Rh1 : zMR msP h h1 := R.tr Qh1 (by decide +kernel)
    have zf2 := f2; unfold zP0 at zf2
    refine zwif_ne (q := 10) (nx := 8) (by decide +kernel) (fun c23 => ?_) (fun c23 => ?_)
    · exfalso; omega
    · refine zwW_p [(0, 0, 0)] (q := 9) (ls' := [(2, 37), (0, a)]) (st' := [(0, 0)]) (by decide +kernel) rfl ?_
      refine zwW_ret (nx := 10) (a := 1) (b := 0) (by decide +kernel) rfl (Or.inr (Or.inl ⟨rfl, by omega⟩)) ?_
      exact ⟨Ih1, Rh1, by exact f2, Or.inr ⟨rfl, by omega⟩⟩
-- WheelLandModel.either(I)Z
theorem m249 {sc : List Int} (a : Int) (D0 : Nat) (pa : 0 ≤ a ∧ a ≤ 8) (HS : a < 8 → zPX sc D0 248 (a + 1)) (HT : a < 8 → zPX sc D0 286 (a + 1)) (HE : a < 8 → zPX sc D0 249 (a + 1)) : zPX sc (D0 + 25) 249 a := by
  intro h I hP pc pk
  have hP0 := hP
  unfold zP0 at hP0
  have bk := I.b (a1 := 37) (a2 := 37) (j1 := 45) (j2 := 46) (lo := 0) (hi := 400) (by decide +kernel) (r := 37) (j := 45) (by decide) (by decide) (by decide) (by decide)
  have bt := I.b (a1 := 37) (a2 := 37) (j1 := 41) (j2 := 42) (lo := 0) (hi := 400) (by decide +kernel) (r := 37) (j := 41) (by decide) (by decide) (by decide) (by decide)
  refine zwC_of (D := D0 + 24) 2 (by decide +kernel) rfl (ls := [(2, 37), (0, a)]) rfl ?_
  have R : zMR msP h h := zMR.rf _ _
  refine zwW_p [(1, 0, 2), (1, 1, 0)] (q := 2) (ls' := [(2, 37), (0, a)]) (st' := [(0, a), (2, 37)]) (by decide +kernel) rfl ?_
  refine zwW_cm I (op := 60) (k' := 271) (n := 1) (kd := 13) (m := 97) (nx := 5) (r := 37) (tl := [(0, a)]) (st' := []) (by decide +kernel) rfl (by decide +kernel) (Nat.ble_eq_true_of_le (by omega)) (m271 a D0 pa HS HT HE h I hP (by omega) (by omega)) ?_
  rintro x h1 ⟨Ih1, Qh1, f2, ⟨rfl, f3⟩ | ⟨rfl, f4⟩⟩
  · have Rh1 : zMR msP h h1 := R.tr Qh1 (by decide +kernel)
    have zf2 := f2; unfold zP0 at zf2
    have Sh1 := f3.k Qh1
    refine zwif_ne (q := 10) (nx := 8) (by decide +kernel) (fun c5 => ?_) (fun c5 => ?_)
    · have L6 : ∀ (n : Nat) (hL6 : Hp), n = (fld hL6 37 41 - fld hL6 37 42).toNat → (zPS h hL6) → (zP0 hL6) → zI hL6 → zMR msP h hL6 → zwW sc (D0 + 24) 249 10 [(2, 37), (0, a)] [] hL6 (zwRt 0 (zPQ h)) := by
        intro n
        induction n using Nat.strongRecOn with
        | ind n IHL6 =>
          intro hL6 hnL6 iL6_0 iL6_1 IhL6 RhL6
          have ShL6 := iL6_0.k RhL6
          have yhL6 := iL6_1; unfold zP0 at yhL6
          refine zwW_p [(1, 0, 2), (0, -32, 2)] (q := 14) (ls' := [(2, 37), (0, a)]) (st' := [(2, -32), (2, 37)]) (by decide +kernel) rfl ?_
          refine zwW_cm IhL6 (op := 60) (k' := 246) (n := 1) (kd := 13) (m := 97) (nx := 17) (r := 37) (tl := [(2, -32)]) (st' := []) (by decide +kernel) rfl (by decide +kernel) (Nat.ble_eq_true_of_le (by omega)) (m246 hL6 IhL6 (-32) (by omega) iL6_1) ?_
          rintro x _ ⟨rfl, ⟨rfl, c7⟩ | ⟨rfl, c7⟩⟩
          · refine zwif_eq (q := 45) (nx := 20) (by decide +kernel) (fun c8 => ?_) (fun c8 => ?_)
            · exfalso; omega
            · refine zwW_p [(1, 0, 2)] (q := 21) (ls' := [(2, 37), (0, a)]) (st' := [(2, 37)]) (by decide +kernel) rfl ?_
              refine zwW_cmv IhL6 (op := 60) (k' := 268) (n := 0) (kd := 13) (m := 97) (nx := 24) (r := 37) (tl := []) (st' := []) (by decide +kernel) rfl (by decide +kernel) (Nat.ble_eq_true_of_le (by omega)) (m268 hL6 IhL6 iL6_1) ?_
              rintro h11 ⟨Ih11, Qh11, f9, f10⟩
              have Rh11 : zMR msP h h11 := RhL6.tr Qh11 (by decide +kernel)
              have zf10 := f10; unfold zP0 at zf10
              have Kh11 := Qh11.kp (by decide +kernel)
              have N21 : zNu hL6 h11 := zNu.mr IhL6 (by omega) Qh11 (by decide +kernel) (Qh11.f1 44 (by decide +kernel)) (by omega)
              refine zwW_p [(1, 0, 2), (1, 1, 0)] (q := 26) (ls' := [(2, 37), (0, a)]) (st' := [(0, a), (2, 37)]) (by decide +kernel) rfl ?_
              refine zwW_cm Ih11 (op := 60) (k' := 271) (n := 1) (kd := 13) (m := 97) (nx := 29) (r := 37) (tl := [(0, a)]) (st' := []) (by decide +kernel) rfl (by decide +kernel) (Nat.ble_eq_true_of_le (by omega)) (m271 a D0 pa HS HT HE h11 Ih11 f10 (by omega) (by omega)) ?_
              rintro x h12 ⟨Ih12, Qh12, f13, ⟨rfl, f14⟩ | ⟨rfl, f15⟩⟩
              · have Rh12 : zMR msP h h12 := Rh11.tr Qh12 (by decide +kernel)
                have zf13 := f13; unfold zP0 at zf13
                have Sh12 := f14.k Qh12
                have W26 := f14
                refine zwif_ne (q := 34) (nx := 32) (by decide +kernel) (fun c16 => ?_) (fun c16 => ?_)
                · refine zwW_p [(1, 0, 2), (0, 124, 0), (0, 0, 0)] (q := 38) (ls' := [(2, 37), (0, a)]) (st' := [(0, 0), (0, 124), (2, 37)]) (by decide +kernel) rfl ?_
                  refine zwW_cm Ih12 (op := 60) (k' := 270) (n := 2) (kd := 13) (m := 97) (nx := 41) (r := 37) (tl := [(0, 124), (0, 0)]) (st' := []) (by decide +kernel) rfl (by decide +kernel) (Nat.ble_eq_true_of_le (by omega)) (m270 h12 Ih12 124 0 (by omega) (by omega) (by omega) (by omega)) ?_
                  rintro x h20 ⟨Ih20, Qh20, rfl, f17, f18, f19⟩
                  have Rh20 : zMR msP h h20 := Rh12.tr Qh20 (by decide +kernel)
                  have Ph20 := f13.mr Qh20 (by decide +kernel); have zPh20 := Ph20; unfold zP0 at zPh20
                  have Z38 : zPS h h20 := zPS_bin (by omega) (by omega) iL6_0 N21 (by omega) W26 (by omega) (zPu.of Qh20 f17 f18 f19) (by omega)
                  have Sh20 := Z38.k Rh20
                  have Th20 := Qh20.f1 42 (by decide +kernel)
                  refine zwW_p [(15, 0, 0), (24, 10, 0)] (q := 10) (ls' := [(2, 37), (0, a)]) (st' := []) (by decide +kernel) rfl ?_
                  exact IHL6 (fld h20 37 41 - fld h20 37 42).toNat (by omega) h20 rfl (Z38) (Ph20) Ih20 Rh20
                · exfalso; omega
              · have Rh12 : zMR msP h h12 := Rh11.tr Qh12 (by decide +kernel)
                have zf13 := f13; unfold zP0 at zf13
                refine zwif_ne (q := 34) (nx := 32) (by decide +kernel) (fun c21 => ?_) (fun c21 => ?_)
                · exfalso; omega
                · refine zwW_p [(0, 0, 0)] (q := 33) (ls' := [(2, 37), (0, a)]) (st' := [(0, 0)]) (by decide +kernel) rfl ?_
                  refine zwW_ret (nx := 34) (a := 1) (b := 0) (by decide +kernel) rfl (Or.inr (Or.inl ⟨rfl, by omega⟩)) ?_
                  exact ⟨Ih12, Rh12, by exact f13, Or.inr ⟨rfl, by omega⟩⟩
          · refine zwif_eq (q := 45) (nx := 20) (by decide +kernel) (fun c22 => ?_) (fun c22 => ?_)
            · have Z := iL6_0
              refine zwW_p [(0, 1, 0)] (q := 46) (ls' := [(2, 37), (0, a)]) (st' := [(0, 1)]) (by decide +kernel) rfl ?_
              refine zwW_ret (nx := 47) (a := 1) (b := 0) (by decide +kernel) rfl (Or.inr (Or.inl ⟨rfl, by omega⟩)) ?_
              exact ⟨IhL6, RhL6, by exact iL6_1, Or.inl ⟨rfl, by exact Z⟩⟩
            · exfalso; omega
      exact L6 _ h1 rfl (f3) (f2) Ih1 Rh1
    · exfalso; omega
  · have Rh1 : zMR msP h h1 := R.tr Qh1 (by decide +kernel)
    have zf2 := f2; unfold zP0 at zf2
    refine zwif_ne (q := 10) (nx := 8) (by decide +kernel) (fun c23 => ?_) (fun c23 => ?_)
    · exfalso; omega
    · refine zwW_p [(0, 0, 0)] (q := 9) (ls' := [(2, 37), (0, a)]) (st' := [(0, 0)]) (by decide +kernel) rfl ?_
      refine zwW_ret (nx := 10) (a := 1) (b := 0) (by decide +kernel) rfl (Or.inr (Or.inl ⟨rfl, by omega⟩)) ?_
      exact ⟨Ih1, Rh1, by exact f2, Or.inr ⟨rfl, by omega⟩⟩
