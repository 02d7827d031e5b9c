/-! contracts of methods -/
-- WheelLandModel.factor(I)Z
theorem m285 {sc : List Int} (a : Int) (D0 : Nat) (pa : 0 ≤ a ∧ a ≤ 8) (HS : a < 8 → zPX sc D0 248 (a + 1)) : zPX sc (D0 + 20) 285 a := by
  intro h I hP pc pk
  have hP0 := hP
  unfold zP0 at hP0
  have bk := I.b (a1 := 37) (a2 := 37) (j1 := 45) (j2 := 46) (lo := 0) (hi := 400) (by decide +kernel) (r := 37) (j := 45) (by decide) (by decide) (by decide) (by decide)
  have bt := I.b (a1 := 37) (a2 := 37) (j1 := 41) (j2 := 42) (lo := 0) (hi := 400) (by decide +kernel) (r := 37) (j := 41) (by decide) (by decide) (by decide) (by decide)
  refine zwC_of (D := D0 + 19) 3 (by decide +kernel) rfl (ls := [(2, 37), (0, a), (9, 0)]) rfl ?_
  have R : zMR msP h h := zMR.rf _ _
  refine zwW_p [(1, 0, 2), (0, 40, 0)] (q := 3) (ls' := [(2, 37), (0, a), (9, 0)]) (st' := [(0, 40), (2, 37)]) (by decide +kernel) rfl ?_
  refine zwW_cm I (op := 60) (k' := 250) (n := 1) (kd := 13) (m := 97) (nx := 6) (r := 37) (tl := [(0, 40)]) (st' := []) (by decide +kernel) rfl (by decide +kernel) (Nat.ble_eq_true_of_le (by omega)) (m250 h I 40) ?_
  rintro x _ ⟨rfl, ⟨rfl, c1⟩ | ⟨rfl, c1⟩⟩
  · refine zwif_eq (q := 56) (nx := 9) (by decide +kernel) (fun c2 => ?_) (fun c2 => ?_)
    · exfalso; omega
    · refine zwW_p [(1, 0, 2), (1, 1, 0), (0, 8, 0)] (q := 13) (ls' := [(2, 37), (0, a), (9, 0)]) (st' := [(0, 8), (0, a), (2, 37)]) (by decide +kernel) rfl ?_
      refine zwic_ge (q := 20) (nx := 16) (by decide +kernel) (fun c3 => ?_) (fun c3 => ?_)
      · refine zwW_p [(0, 0, 0)] (q := 21) (ls' := [(2, 37), (0, a), (9, 0)]) (st' := [(0, 0), (2, 37)]) (by decide +kernel) rfl ?_
        refine zwW_cm I (op := 60) (k' := 247) (n := 1) (kd := 13) (m := 97) (nx := 24) (r := 37) (tl := [(0, 0)]) (st' := []) (by decide +kernel) rfl (by decide +kernel) (Nat.ble_eq_true_of_le (by omega)) (m247 h I 0 hP) ?_
        rintro x h4 ⟨Ih4, Qh4, ⟨rfl, f5, f6, f7, f8⟩ | ⟨rfl, f9, f10, f11⟩⟩
        · have Rh4 : zMR msP h h4 := R.tr Qh4 (by decide +kernel)
          have zf6 := f6; unfold zP0 at zf6
          have Kh4 := Qh4.kp (by decide +kernel)
          have N21 : zNu h h4 := zNu.mr I pc Qh4 (by decide +kernel) (by omega) (by omega)
          have hh21 := Qh4
          refine zwif_eq (q := 54) (nx := 27) (by decide +kernel) (fun c12 => ?_) (fun c12 => ?_)
          · exfalso; omega
          · refine zwW_p [(1, 0, 2), (1, 1, 0), (0, 1, 0)] (q := 30) (ls' := [(2, 37), (0, a), (9, 0)]) (st' := [(0, 1), (0, a), (2, 37)]) (by decide +kernel) rfl ?_
            refine zwW_add (nx := 31) (by decide +kernel) ⟨by omega, by omega⟩ ?_
            refine zwW_cm Ih4 (op := 60) (k' := 248) (n := 1) (kd := 13) (m := 97) (nx := 34) (r := 37) (tl := [(0, (a + 1))]) (st' := []) (by decide +kernel) rfl (by decide +kernel) (Nat.ble_eq_true_of_le (by omega)) (HS (by omega) h4 Ih4 f6 (by omega) (by omega)) ?_
            rintro x h13 ⟨Ih13, Qh13, f14, ⟨rfl, f15⟩ | ⟨rfl, f16⟩⟩
            · have Rh13 : zMR msP h h13 := Rh4.tr Qh13 (by decide +kernel)
              have zf14 := f14; unfold zP0 at zf14
              have Sh13 := f15.k Qh13
              have W31 := f15
              refine zwif_eq (q := 54) (nx := 37) (by decide +kernel) (fun c17 => ?_) (fun c17 => ?_)
              · exfalso; omega
              · refine zwW_p [(1, 0, 2), (1, 0, 2), (0, 41, 0)] (q := 41) (ls' := [(2, 37), (0, a), (9, 0)]) (st' := [(0, 41), (2, 37), (2, 37)]) (by decide +kernel) rfl ?_
                refine zwW_cm Ih13 (op := 60) (k' := 250) (n := 1) (kd := 13) (m := 97) (nx := 44) (r := 37) (tl := [(0, 41)]) (st' := [(2, 37)]) (by decide +kernel) rfl (by decide +kernel) (Nat.ble_eq_true_of_le (by omega)) (m250 h13 Ih13 41) ?_
                rintro x _ ⟨rfl, ⟨rfl, c18⟩ | ⟨rfl, c18⟩⟩
                · refine zwW_cm Ih13 (op := 60) (k' := 247) (n := 1) (kd := 13) (m := 97) (nx := 47) (r := 37) (tl := [(0, 1)]) (st' := []) (by decide +kernel) rfl (by decide +kernel) (Nat.ble_eq_true_of_le (by omega)) (m247 h13 Ih13 1 f14) ?_
                  rintro x h19 ⟨Ih19, Qh19, ⟨rfl, f20, f21, f22, f23⟩ | ⟨rfl, f24, f25, f26⟩⟩
                  · have Rh19 : zMR msP h h19 := Rh13.tr Qh19 (by decide +kernel)
                    have zf21 := f21; unfold zP0 at zf21
                    have Kh19 := Qh19.kp (by decide +kernel)
                    have N44 : zNu h13 h19 := zNu.mr Ih13 (by omega) Qh19 (by decide +kernel) (by omega) (by omega)
                    have Z : zPS h h19 := (W31.pre N21).post (by omega) N44
                    refine zwif_eq (q := 54) (nx := 50) (by decide +kernel) (fun c27 => ?_) (fun c27 => ?_)
                    · exfalso; omega
                    · refine zwW_p [(0, 1, 0), (24, 55, 0)] (q := 55) (ls' := [(2, 37), (0, a), (9, 0)]) (st' := [(0, 1)]) (by decide +kernel) rfl ?_
                      refine zwW_ret (nx := 56) (a := 1) (b := 0) (by decide +kernel) rfl (Or.inr (Or.inl ⟨rfl, by omega⟩)) ?_
                      exact ⟨Ih19, Rh19, by exact f21, Or.inl ⟨rfl, by exact Z⟩⟩
                  · have Rh19 : zMR msP h h19 := Rh13.tr Qh19 (by decide +kernel)
                    have zf25 := f25; unfold zP0 at zf25
                    refine zwif_eq (q := 54) (nx := 50) (by decide +kernel) (fun c28 => ?_) (fun c28 => ?_)
                    · refine zwW_p [(0, 0, 0)] (q := 55) (ls' := [(2, 37), (0, a), (9, 0)]) (st' := [(0, 0)]) (by decide +kernel) rfl ?_
                      refine zwW_ret (nx := 56) (a := 1) (b := 0) (by decide +kernel) rfl (Or.inr (Or.inl ⟨rfl, by omega⟩)) ?_
                      exact ⟨Ih19, Rh19, by exact f25, Or.inr ⟨rfl, by omega⟩⟩
                    · exfalso; omega
                · refine zwW_cm Ih13 (op := 60) (k' := 247) (n := 1) (kd := 13) (m := 97) (nx := 47) (r := 37) (tl := [(0, 0)]) (st' := []) (by decide +kernel) rfl (by decide +kernel) (Nat.ble_eq_true_of_le (by omega)) (m247 h13 Ih13 0 f14) ?_
                  rintro x h29 ⟨Ih29, Qh29, ⟨rfl, f30, f31, f32, f33⟩ | ⟨rfl, f34, f35, f36⟩⟩
                  · have Rh29 : zMR msP h h29 := Rh13.tr Qh29 (by decide +kernel)
                    have zf31 := f31; unfold zP0 at zf31
                    have Kh29 := Qh29.kp (by decide +kernel)
                    have N44 : zNu h13 h29 := zNu.mr Ih13 (by omega) Qh29 (by decide +kernel) (by omega) (by omega)
                    have Z : zPS h h29 := (W31.pre N21).post (by omega) N44
                    refine zwif_eq (q := 54) (nx := 50) (by decide +kernel) (fun c37 => ?_) (fun c37 => ?_)
                    · exfalso; omega
                    · refine zwW_p [(0, 1, 0), (24, 55, 0)] (q := 55) (ls' := [(2, 37), (0, a), (9, 0)]) (st' := [(0, 1)]) (by decide +kernel) rfl ?_
                      refine zwW_ret (nx := 56) (a := 1) (b := 0) (by decide +kernel) rfl (Or.inr (Or.inl ⟨rfl, by omega⟩)) ?_
                      exact ⟨Ih29, Rh29, by exact f31, Or.inl ⟨rfl, by exact Z⟩⟩
                  · have Rh29 : zMR msP h h29 := Rh13.tr Qh29 (by decide +kernel)
                    have zf35 := f35; unfold zP0 at zf35
                    refine zwif_eq (q := 54) (nx := 50) (by decide +kernel) (fun c38 => ?_) (fun c38 => ?_)
                    · refine zwW_p [(0, 0, 0)] (q := 55) (ls' := [(2, 37), (0, a), (9, 0)]) (st' := [(0, 0)]) (by decide +kernel) rfl ?_
                      refine zwW_ret (nx := 56) (a := 1) (b := 0) (by decide +kernel) rfl (Or.inr (Or.inl ⟨rfl, by omega⟩)) ?_
                      exact ⟨Ih29, Rh29, by exact f35, Or.inr ⟨rfl, by omega⟩⟩
                    · exfalso; omega
            · have Rh13 : zMR msP h h13 := Rh4.tr Qh13 (by decide +kernel)
              have zf14 := f14; unfold zP0 at zf14
              refine zwif_eq (q := 54) (nx := 37) (by decide +kernel) (fun c39 => ?_) (fun c39 => ?_)
              · refine zwW_p [(0, 0, 0)] (q := 55) (ls' := [(2, 37), (0, a), (9, 0)]) (st' := [(0, 0)]) (by decide +kernel) rfl ?_
                refine zwW_ret (nx := 56) (a := 1) (b := 0) (by decide +kernel) rfl (Or.inr (Or.inl ⟨rfl, by omega⟩)) ?_
                exact ⟨Ih13, Rh13, by exact f14, Or.inr ⟨rfl, by omega⟩⟩
              · exfalso; omega
        · have Rh4 : zMR msP h h4 := R.tr Qh4 (by decide +kernel)
          have zf10 := f10; unfold zP0 at zf10
          refine zwif_eq (q := 54) (nx := 27) (by decide +kernel) (fun c40 => ?_) (fun c40 => ?_)
          · refine zwW_p [(0, 0, 0)] (q := 55) (ls' := [(2, 37), (0, a), (9, 0)]) (st' := [(0, 0)]) (by decide +kernel) rfl ?_
            refine zwW_ret (nx := 56) (a := 1) (b := 0) (by decide +kernel) rfl (Or.inr (Or.inl ⟨rfl, by omega⟩)) ?_
            exact ⟨Ih4, Rh4, by exact f10, Or.inr ⟨rfl, by omega⟩⟩
          · exfalso; omega
      · refine zwW_p [(0, 1, 0), (24, 21, 0)] (q := 21) (ls' := [(2, 37), (0, a), (9, 0)]) (st' := [(0, 1), (2, 37)]) (by decide +kernel) rfl ?_
        refine zwW_cm I (op := 60) (k' := 247) (n := 1) (kd := 13) (m := 97) (nx := 24) (r := 37) (tl := [(0, 1)]) (st' := []) (by decide +kernel) rfl (by decide +kernel) (Nat.ble_eq_true_of_le (by omega)) (m247 h I 1 hP) ?_
        rintro x h41 ⟨Ih41, Qh41, ⟨rfl, f42, f43, f44, f45⟩ | ⟨rfl, f46, f47, f48⟩⟩
        · have Rh41 : zMR msP h h41 := R.tr Qh41 (by decide +kernel)
          have zf43 := f43; unfold zP0 at zf43
          have Kh41 := Qh41.kp (by decide +kernel)
          have N21 : zNu h h41 := zNu.mr I pc Qh41 (by decide +kernel) (by omega) (by omega)
          have hh21 := Qh41
          refine zwif_eq (q := 54) (nx := 27) (by decide +kernel) (fun c49 => ?_) (fun c49 => ?_)
          · exfalso; omega
          · refine zwW_p [(1, 0, 2), (1, 1, 0), (0, 1, 0)] (q := 30) (ls' := [(2, 37), (0, a), (9, 0)]) (st' := [(0, 1), (0, a), (2, 37)]) (by decide +kernel) rfl ?_
            refine zwW_add (nx := 31) (by decide +kernel) ⟨by omega, by omega⟩ ?_
            refine zwW_cm Ih41 (op := 60) (k' := 248) (n := 1) (kd := 13) (m := 97) (nx := 34) (r := 37) (tl := [(0, (a + 1))]) (st' := []) (by decide +kernel) rfl (by decide +kernel) (Nat.ble_eq_true_of_le (by omega)) (HS (by omega) h41 Ih41 f43 (by omega) (by omega)) ?_
            rintro x h50 ⟨Ih50, Qh50, f51, ⟨rfl, f52⟩ | ⟨rfl, f53⟩⟩
            · have Rh50 : zMR msP h h50 := Rh41.tr Qh50 (by decide +kernel)
              have zf51 := f51; unfold zP0 at zf51
              have Sh50 := f52.k Qh50
              have W31 := f52
              refine zwif_eq (q := 54) (nx := 37) (by decide +kernel) (fun c54 => ?_) (fun c54 => ?_)
              · exfalso; omega
              · refine zwW_p [(1, 0, 2), (1, 0, 2), (0, 41, 0)] (q := 41) (ls' := [(2, 37), (0, a), (9, 0)]) (st' := [(0, 41), (2, 37), (2, 37)]) (by decide +kernel) rfl ?_
                refine zwW_cm Ih50 (op := 60) (k' := 250) (n := 1) (kd := 13) (m := 97) (nx := 44) (r := 37) (tl := [(0, 41)]) (st' := [(2, 37)]) (by decide +kernel) rfl (by decide +kernel) (Nat.ble_eq_true_of_le (by omega)) (m250 h50 Ih50 41) ?_
                rintro x _ ⟨rfl, ⟨rfl, c55⟩ | ⟨rfl, c55⟩⟩
                · refine zwW_cm Ih50 (op := 60) (k' := 247) (n := 1) (kd := 13) (m := 97) (nx := 47) (r := 37) (tl := [(0, 1)]) (st' := []) (by decide +kernel) rfl (by decide +kernel) (Nat.ble_eq_true_of_le (by omega)) (m247 h50 Ih50 1 f51) ?_
                  rintro x h56 ⟨Ih56, Qh56, ⟨rfl, f57, f58, f59, f60⟩ | ⟨rfl, f61, f62, f63⟩⟩
                  · have Rh56 : zMR msP h h56 := Rh50.tr Qh56 (by decide +kernel)
                    have zf58 := f58; unfold zP0 at zf58
                    have Kh56 := Qh56.kp (by decide +kernel)
                    have N44 : zNu h50 h56 := zNu.mr Ih50 (by omega) Qh56 (by decide +kernel) (by omega) (by omega)
                    have Z : zPS h h56 := (W31.pre N21).post (by omega) N44
                    refine zwif_eq (q := 54) (nx := 50) (by decide +kernel) (fun c64 => ?_) (fun c64 => ?_)
                    · exfalso; omega
                    · refine zwW_p [(0, 1, 0), (24, 55, 0)] (q := 55) (ls' := [(2, 37), (0, a), (9, 0)]) (st' := [(0, 1)]) (by decide +kernel) rfl ?_
                      refine zwW_ret (nx := 56) (a := 1) (b := 0) (by decide +kernel) rfl (Or.inr (Or.inl ⟨rfl, by omega⟩)) ?_
                      exact ⟨Ih56, Rh56, by exact f58, Or.inl ⟨rfl, by exact Z⟩⟩
                  · have Rh56 : zMR msP h h56 := Rh50.tr Qh56 (by decide +kernel)
                    have zf62 := f62; unfold zP0 at zf62
                    refine zwif_eq (q := 54) (nx := 50) (by decide +kernel) (fun c65 => ?_) (fun c65 => ?_)
                    · refine zwW_p [(0, 0, 0)] (q := 55) (ls' := [(2, 37), (0, a), (9, 0)]) (st' := [(0, 0)]) (by decide +kernel) rfl ?_
                      refine zwW_ret (nx := 56) (a := 1) (b := 0) (by decide +kernel) rfl (Or.inr (Or.inl ⟨rfl, by omega⟩)) ?_
                      exact ⟨Ih56, Rh56, by exact f62, Or.inr ⟨rfl, by omega⟩⟩
                    · exfalso; omega
                · refine zwW_cm Ih50 (op := 60) (k' := 247) (n := 1) (kd := 13) (m := 97) (nx := 47) (r := 37) (tl := [(0, 0)]) (st' := []) (by decide +kernel) rfl (by decide +kernel) (Nat.ble_eq_true_of_le (by omega)) (m247 h50 Ih50 0 f51) ?_
                  rintro x h66 ⟨Ih66, Qh66, ⟨rfl, f67, f68, f69, f70⟩ | ⟨rfl, f71, f72, f73⟩⟩
                  · have Rh66 : zMR msP h h66 := Rh50.tr Qh66 (by decide +kernel)
                    have zf68 := f68; unfold zP0 at zf68
                    have Kh66 := Qh66.kp (by decide +kernel)
                    have N44 : zNu h50 h66 := zNu.mr Ih50 (by omega) Qh66 (by decide +kernel) (by omega) (by omega)
                    have Z : zPS h h66 := (W31.pre N21).post (by omega) N44
                    refine zwif_eq (q := 54) (nx := 50) (by decide +kernel) (fun c74 => ?_) (fun c74 => ?_)
                    · exfalso; omega
                    · refine zwW_p [(0, 1, 0), (24, 55, 0)] (q := 55) (ls' := [(2, 37), (0, a), (9, 0)]) (st' := [(0, 1)]) (by decide +kernel) rfl ?_
                      refine zwW_ret (nx := 56) (a := 1) (b := 0) (by decide +kernel) rfl (Or.inr (Or.inl ⟨rfl, by omega⟩)) ?_
                      exact ⟨Ih66, Rh66, by exact f68, Or.inl ⟨rfl, by exact Z⟩⟩
                  · have Rh66 : zMR msP h h66 := Rh50.tr Qh66 (by decide +kernel)
                    have zf72 := f72; unfold zP0 at zf72
                    refine zwif_eq (q := 54) (nx := 50) (by decide +kernel) (fun c75 => ?_) (fun c75 => ?_)
                    · refine zwW_p [(0, 0, 0)] (q := 55) (ls' := [(2, 37), (0, a), (9, 0)]) (st' := [(0, 0)]) (by decide +kernel) rfl ?_
                      refine zwW_ret (nx := 56) (a := 1) (b := 0) (by decide +kernel) rfl (Or.inr (Or.inl ⟨rfl, by omega⟩)) ?_
                      exact ⟨Ih66, Rh66, by exact f72, Or.inr ⟨rfl, by omega⟩⟩
                    · exfalso; omega
            · have Rh50 : zMR msP h h50 := Rh41.tr Qh50 (by decide +kernel)
              have zf51 := f51; unfold zP0 at zf51
              refine zwif_eq (q := 54) (nx := 37) (by decide +kernel) (fun c76 => ?_) (fun c76 => ?_)
              · refine zwW_p [(0, 0, 0)] (q := 55) (ls' := [(2, 37), (0, a), (9, 0)]) (st' := [(0, 0)]) (by decide +kernel) rfl ?_
                refine zwW_ret (nx := 56) (a := 1) (b := 0) (by decide +kernel) rfl (Or.inr (Or.inl ⟨rfl, by omega⟩)) ?_
                exact ⟨Ih50, Rh50, by exact f51, Or.inr ⟨rfl, by omega⟩⟩
              · exfalso; omega
        · have Rh41 : zMR msP h h41 := R.tr Qh41 (by decide +kernel)
          have zf47 := f47; unfold zP0 at zf47
          refine zwif_eq (q := 54) (nx := 27) (by decide +kernel) (fun c77 => ?_) (fun c77 => ?_)
          · refine zwW_p [(0, 0, 0)] (q := 55) (ls' := [(2, 37), (0, a), (9, 0)]) (st' := [(0, 0)]) (by decide +kernel) rfl ?_
            refine zwW_ret (nx := 56) (a := 1) (b := 0) (by decide +kernel) rfl (Or.inr (Or.inl ⟨rfl, by omega⟩)) ?_
            exact ⟨Ih41, Rh41, by exact f47, Or.inr ⟨rfl, by omega⟩⟩
          · exfalso; omega
  · refine zwif_eq (q := 56) (nx := 9) (by decide +kernel) (fun c78 => ?_) (fun c78 => ?_)
    · refine zwW_p [(1, 0, 2)] (q := 57) (ls' := [(2, 37), (0, a), (9, 0)]) (st' := [(2, 37)]) (by decide +kernel) rfl ?_
      refine zwW_cm I (op := 60) (k' := 296) (n := 0) (kd := 13) (m := 97) (nx := 60) (r := 37) (tl := []) (st' := []) (by decide +kernel) rfl (by decide +kernel) (Nat.ble_eq_true_of_le (by omega)) (m296 h I hP) ?_
      rintro x h79 ⟨Ih79, Qh79, ⟨rfl, f80⟩ | rfl⟩
      · have Rh79 : zMR msP h h79 := R.tr Qh79 (by decide +kernel)
        have Ph79 := hP.mr Qh79 (by decide +kernel); have zPh79 := Ph79; unfold zP0 at zPh79
        have Kh79 := Qh79.kp (by decide +kernel)
        have N57 : zNu h h79 := zNu.mr I pc Qh79 (by decide +kernel) (Qh79.f1 44 (by decide +kernel)) (Int.le_of_eq (Qh79.f1 42 (by decide +kernel)).symm)
        have M57 := Qh79.f1 42 (by decide +kernel)
        refine zwif_eq (q := 103) (nx := 63) (by decide +kernel) (fun c81 => ?_) (fun c81 => ?_)
        · exfalso; omega
        · refine zwW_p [(1, 0, 2)] (q := 64) (ls' := [(2, 37), (0, a), (9, 0)]) (st' := [(2, 37)]) (by decide +kernel) rfl ?_
          refine zwW_gs Ih79 (kd := 13) (bn := 46) (n := 97) (t := 0) (lo := -2147483648) (hi := 2147483647) (nx := 67) (by decide +kernel) ?_
          intro v82 ev82 lv82 uv82
          refine zwW_p [(2, 2, 0), (1, 0, 2), (1, 2, 0), (0, 9999, 0)] (q := 73) (ls' := [(2, 37), (0, a), (0, v82)]) (st' := [(0, 9999), (0, v82), (2, 37)]) (by decide +kernel) rfl ?_
          refine zwic_gt (q := 80) (nx := 76) (by decide +kernel) (fun c83 => ?_) (fun c83 => ?_)
          · refine zwW_p [(0, 0, 0)] (q := 81) (ls' := [(2, 37), (0, a), (0, v82)]) (st' := [(0, 0), (2, 37)]) (by decide +kernel) rfl ?_
            refine zwW_cm Ih79 (op := 60) (k' := 247) (n := 1) (kd := 13) (m := 97) (nx := 84) (r := 37) (tl := [(0, 0)]) (st' := []) (by decide +kernel) rfl (by decide +kernel) (Nat.ble_eq_true_of_le (by omega)) (m247 h79 Ih79 0 Ph79) ?_
            rintro x h84 ⟨Ih84, Qh84, ⟨rfl, f85, f86, f87, f88⟩ | ⟨rfl, f89, f90, f91⟩⟩
            · have Rh84 : zMR msP h h84 := Rh79.tr Qh84 (by decide +kernel)
              have zf86 := f86; unfold zP0 at zf86
              have Kh84 := Qh84.kp (by decide +kernel)
              have N81 := N57.tr (zNu.mr Ih79 (by omega) Qh84 (by decide +kernel) (by omega) (by omega))
              refine zwif_eq (q := 101) (nx := 87) (by decide +kernel) (fun c92 => ?_) (fun c92 => ?_)
              · exfalso; omega
              · refine zwW_p [(1, 0, 2), (0, 110, 0), (1, 2, 0)] (q := 91) (ls' := [(2, 37), (0, a), (0, v82)]) (st' := [(0, v82), (0, 110), (2, 37)]) (by decide +kernel) rfl ?_
                refine zwW_cm Ih84 (op := 60) (k' := 270) (n := 2) (kd := 13) (m := 97) (nx := 94) (r := 37) (tl := [(0, 110), (0, v82)]) (st' := []) (by decide +kernel) rfl (by decide +kernel) (Nat.ble_eq_true_of_le (by omega)) (m270 h84 Ih84 110 v82 (by omega) (by omega) (by omega) (by omega)) ?_
                rintro x h95 ⟨Ih95, Qh95, rfl, f93, f94⟩
                have Rh95 : zMR msP h h95 := Rh84.tr Qh95 (by decide +kernel)
                have Ph95 := f86.mr Qh95 (by decide +kernel); have zPh95 := Ph95; unfold zP0 at zPh95
                have Z : zPS h h95 := zPS_push (by omega) N81 (by omega) (zPu.of Qh95 f93 f94) (by omega)
                refine zwif_eq (q := 101) (nx := 97) (by decide +kernel) (fun c96 => ?_) (fun c96 => ?_)
                · exfalso; omega
                · refine zwW_p [(0, 1, 0), (24, 102, 0)] (q := 102) (ls' := [(2, 37), (0, a), (0, v82)]) (st' := [(0, 1)]) (by decide +kernel) rfl ?_
                  refine zwW_ret (nx := 103) (a := 1) (b := 0) (by decide +kernel) rfl (Or.inr (Or.inl ⟨rfl, by omega⟩)) ?_
                  exact ⟨Ih95, Rh95, by exact Ph95, Or.inl ⟨rfl, by exact Z⟩⟩
            · have Rh84 : zMR msP h h84 := Rh79.tr Qh84 (by decide +kernel)
              have zf90 := f90; unfold zP0 at zf90
              refine zwif_eq (q := 101) (nx := 87) (by decide +kernel) (fun c97 => ?_) (fun c97 => ?_)
              · refine zwW_p [(0, 0, 0)] (q := 102) (ls' := [(2, 37), (0, a), (0, v82)]) (st' := [(0, 0)]) (by decide +kernel) rfl ?_
                refine zwW_ret (nx := 103) (a := 1) (b := 0) (by decide +kernel) rfl (Or.inr (Or.inl ⟨rfl, by omega⟩)) ?_
                exact ⟨Ih84, Rh84, by exact f90, Or.inr ⟨rfl, by omega⟩⟩
              · exfalso; omega
          · refine zwW_p [(0, 1, 0), (24, 81, 0)] (q := 81) (ls' := [(2, 37), (0, a), (0, v82)]) (st' := [(0, 1), (2, 37)]) (by decide +kernel) rfl ?_
            refine zwW_cm Ih79 (op := 60) (k' := 247) (n := 1) (kd := 13) (m := 97) (nx := 84) (r := 37) (tl := [(0, 1)]) (st' := []) (by decide +kernel) rfl (by decide +kernel) (Nat.ble_eq_true_of_le (by omega)) (m247 h79 Ih79 1 Ph79) ?_
            rintro x h98 ⟨Ih98, Qh98, ⟨rfl, f99, f100, f101, f102⟩ | ⟨rfl, f103, f104, f105⟩⟩
            · have Rh98 : zMR msP h h98 := Rh79.tr Qh98 (by decide +kernel)
              have zf100 := f100; unfold zP0 at zf100
              have Kh98 := Qh98.kp (by decide +kernel)
              have N81 := N57.tr (zNu.mr Ih79 (by omega) Qh98 (by decide +kernel) (by omega) (by omega))
              refine zwif_eq (q := 101) (nx := 87) (by decide +kernel) (fun c106 => ?_) (fun c106 => ?_)
              · exfalso; omega
              · refine zwW_p [(1, 0, 2), (0, 110, 0), (1, 2, 0)] (q := 91) (ls' := [(2, 37), (0, a), (0, v82)]) (st' := [(0, v82), (0, 110), (2, 37)]) (by decide +kernel) rfl ?_
                refine zwW_cm Ih98 (op := 60) (k' := 270) (n := 2) (kd := 13) (m := 97) (nx := 94) (r := 37) (tl := [(0, 110), (0, v82)]) (st' := []) (by decide +kernel) rfl (by decide +kernel) (Nat.ble_eq_true_of_le (by omega)) (m270 h98 Ih98 110 v82 (by omega) (by omega) (by omega) (by omega)) ?_
                rintro x h109 ⟨Ih109, Qh109, rfl, f107, f108⟩
                have Rh109 : zMR msP h h109 := Rh98.tr Qh109 (by decide +kernel)
                have Ph109 := f100.mr Qh109 (by decide +kernel); have zPh109 := Ph109; unfold zP0 at zPh109
                have Z : zPS h h109 := zPS_push (by omega) N81 (by omega) (zPu.of Qh109 f107 f108) (by omega)
                refine zwif_eq (q := 101) (nx := 97) (by decide +kernel) (fun c110 => ?_) (fun c110 => ?_)
                · exfalso; omega
                · refine zwW_p [(0, 1, 0), (24, 102, 0)] (q := 102) (ls' := [(2, 37), (0, a), (0, v82)]) (st' := [(0, 1)]) (by decide +kernel) rfl ?_
                  refine zwW_ret (nx := 103) (a := 1) (b := 0) (by decide +kernel) rfl (Or.inr (Or.inl ⟨rfl, by omega⟩)) ?_
                  exact ⟨Ih109, Rh109, by exact Ph109, Or.inl ⟨rfl, by exact Z⟩⟩
            · have Rh98 : zMR msP h h98 := Rh79.tr Qh98 (by decide +kernel)
              have zf104 := f104; unfold zP0 at zf104
              refine zwif_eq (q := 101) (nx := 87) (by decide +kernel) (fun c111 => ?_) (fun c111 => ?_)
              · refine zwW_p [(0, 0, 0)] (q := 102) (ls' := [(2, 37), (0, a), (0, v82)]) (st' := [(0, 0)]) (by decide +kernel) rfl ?_
                refine zwW_ret (nx := 103) (a := 1) (b := 0) (by decide +kernel) rfl (Or.inr (Or.inl ⟨rfl, by omega⟩)) ?_
                exact ⟨Ih98, Rh98, by exact f104, Or.inr ⟨rfl, by omega⟩⟩
              · exfalso; omega
      · have Rh79 : zMR msP h h79 := R.tr Qh79 (by decide +kernel)
        have Ph79 := hP.mr Qh79 (by decide +kernel); have zPh79 := Ph79; unfold zP0 at zPh79
        have Kh79 := Qh79.kp (by decide +kernel)
        have N57 : zNu h h79 := zNu.mr I pc Qh79 (by decide +kernel) (Qh79.f1 44 (by decide +kernel)) (Int.le_of_eq (Qh79.f1 42 (by decide +kernel)).symm)
        have M57 := Qh79.f1 42 (by decide +kernel)
        refine zwif_eq (q := 103) (nx := 63) (by decide +kernel) (fun c112 => ?_) (fun c112 => ?_)
        · refine zwW_p [(0, 0, 0), (2, 2, 0)] (q := 105) (ls' := [(2, 37), (0, a), (0, 0)]) (st' := []) (by decide +kernel) rfl ?_
          have L113 : ∀ (n : Nat) (kL113 : Int), n = ((1000 - kL113)).toNat → (0 ≤ kL113 ∧ kL113 ≤ 13) → zwW sc (D0 + 19) 285 105 [(2, 37), (0, a), (0, kL113)] [] h79 (zwRt 0 (zPQ h)) := by
            intro n
            induction n using Nat.strongRecOn with
            | ind n IHL113 =>
              intro kL113 hnL113 iL113_0
              refine zwW_p [(1, 2, 0), (0, 13, 0)] (q := 108) (ls' := [(2, 37), (0, a), (0, kL113)]) (st' := [(0, 13), (0, kL113)]) (by decide +kernel) rfl ?_
              refine zwic_ge (q := 154) (nx := 111) (by decide +kernel) (fun c114 => ?_) (fun c114 => ?_)
              · refine zwW_p [(1, 0, 2)] (q := 155) (ls' := [(2, 37), (0, a), (0, kL113)]) (st' := [(2, 37)]) (by decide +kernel) rfl ?_
                refine zwW_cm Ih79 (op := 60) (k' := 267) (n := 0) (kd := 13) (m := 97) (nx := 158) (r := 37) (tl := []) (st' := []) (by decide +kernel) rfl (by decide +kernel) (Nat.ble_eq_true_of_le (by omega)) (m267 h79 Ih79) ?_
                rintro x h116 ⟨Ih116, Qh116, rfl, f115⟩
                have Rh116 : zMR msP h h116 := Rh79.tr Qh116 (by decide +kernel)
                have Ph116 := Ph79.mr Qh116 (by decide +kernel); have zPh116 := Ph116; unfold zP0 at zPh116
                refine zwW_ret (nx := 159) (a := 1) (b := 0) (by decide +kernel) rfl (Or.inr (Or.inl ⟨rfl, by omega⟩)) ?_
                exact ⟨Ih116, Rh116, by exact Ph116, Or.inr ⟨rfl, by omega⟩⟩
              · refine zwW_p [(1, 0, 2), (1, 0, 2)] (q := 113) (ls' := [(2, 37), (0, a), (0, kL113)]) (st' := [(2, 37), (2, 37)]) (by decide +kernel) rfl ?_
                refine zwW_gc Ih79 (kd := 13) (bn := 55) (n := 97) (c := 167) (nx := 116) (by decide +kernel) ?_
                refine zwW_p [(1, 2, 0)] (q := 117) (ls' := [(2, 37), (0, a), (0, kL113)]) (st' := [(0, kL113), (2, 167), (2, 37)]) (by decide +kernel) rfl ?_
                refine zwW_wd13 Ih79 (nx := 118) (by decide +kernel) ⟨by omega, by omega⟩ ?_
                refine zwW_cm Ih79 (op := 60) (k' := 246) (n := 1) (kd := 13) (m := 97) (nx := 121) (r := 37) (tl := [(2, (-17 - kL113))]) (st' := []) (by decide +kernel) rfl (by decide +kernel) (Nat.ble_eq_true_of_le (by omega)) (m246 h79 Ih79 (-17 - kL113) (by omega) Ph79) ?_
                rintro x _ ⟨rfl, ⟨rfl, c117⟩ | ⟨rfl, c117⟩⟩
                · refine zwif_eq (q := 148) (nx := 124) (by decide +kernel) (fun c118 => ?_) (fun c118 => ?_)
                  · exfalso; omega
                  · refine zwW_p [(1, 0, 2), (0, 1, 0)] (q := 126) (ls' := [(2, 37), (0, a), (0, kL113)]) (st' := [(0, 1), (2, 37)]) (by decide +kernel) rfl ?_
                    refine zwW_cm Ih79 (op := 60) (k' := 247) (n := 1) (kd := 13) (m := 97) (nx := 129) (r := 37) (tl := [(0, 1)]) (st' := []) (by decide +kernel) rfl (by decide +kernel) (Nat.ble_eq_true_of_le (by omega)) (m247 h79 Ih79 1 Ph79) ?_
                    rintro x h119 ⟨Ih119, Qh119, ⟨rfl, f120, f121, f122, f123⟩ | ⟨rfl, f124, f125, f126⟩⟩
                    · have Rh119 : zMR msP h h119 := Rh79.tr Qh119 (by decide +kernel)
                      have zf121 := f121; unfold zP0 at zf121
                      have Kh119 := Qh119.kp (by decide +kernel)
                      have N126 : zNu h h119 := N57.tr (zNu.mr Ih79 (by omega) Qh119 (by decide +kernel) (by omega) (by omega))
                      refine zwif_eq (q := 146) (nx := 132) (by decide +kernel) (fun c127 => ?_) (fun c127 => ?_)
                      · exfalso; omega
                      · refine zwW_p [(1, 0, 2), (0, 118, 0), (1, 2, 0)] (q := 136) (ls' := [(2, 37), (0, a), (0, kL113)]) (st' := [(0, kL113), (0, 118), (2, 37)]) (by decide +kernel) rfl ?_
                        refine zwW_cm Ih119 (op := 60) (k' := 270) (n := 2) (kd := 13) (m := 97) (nx := 139) (r := 37) (tl := [(0, 118), (0, kL113)]) (st' := []) (by decide +kernel) rfl (by decide +kernel) (Nat.ble_eq_true_of_le (by omega)) (m270 h119 Ih119 118 kL113 (by omega) (by omega) (by omega) (by omega)) ?_
                        rintro x h130 ⟨Ih130, Qh130, rfl, f128, f129⟩
                        have Rh130 : zMR msP h h130 := Rh119.tr Qh130 (by decide +kernel)
                        have Ph130 := f121.mr Qh130 (by decide +kernel); have zPh130 := Ph130; unfold zP0 at zPh130
                        have Z : zPS h h130 := zPS_push (by omega) N126 (by omega) (zPu.of Qh130 f128 f129) (by omega)
                        refine zwif_eq (q := 146) (nx := 142) (by decide +kernel) (fun c131 => ?_) (fun c131 => ?_)
                        · exfalso; omega
                        · refine zwW_p [(0, 1, 0), (24, 147, 0)] (q := 147) (ls' := [(2, 37), (0, a), (0, kL113)]) (st' := [(0, 1)]) (by decide +kernel) rfl ?_
                          refine zwW_ret (nx := 148) (a := 1) (b := 0) (by decide +kernel) rfl (Or.inr (Or.inl ⟨rfl, by omega⟩)) ?_
                          exact ⟨Ih130, Rh130, by exact Ph130, Or.inl ⟨rfl, by exact Z⟩⟩
                    · have Rh119 : zMR msP h h119 := Rh79.tr Qh119 (by decide +kernel)
                      have zf125 := f125; unfold zP0 at zf125
                      refine zwif_eq (q := 146) (nx := 132) (by decide +kernel) (fun c132 => ?_) (fun c132 => ?_)
                      · refine zwW_p [(0, 0, 0)] (q := 147) (ls' := [(2, 37), (0, a), (0, kL113)]) (st' := [(0, 0)]) (by decide +kernel) rfl ?_
                        refine zwW_ret (nx := 148) (a := 1) (b := 0) (by decide +kernel) rfl (Or.inr (Or.inl ⟨rfl, by omega⟩)) ?_
                        exact ⟨Ih119, Rh119, by exact f125, Or.inr ⟨rfl, by omega⟩⟩
                      · exfalso; omega
                · refine zwif_eq (q := 148) (nx := 124) (by decide +kernel) (fun c133 => ?_) (fun c133 => ?_)
                  · refine zwW_inc (i := 2) (c := 1) (x := kL113) (nx := 151) (by decide +kernel) rfl ⟨by omega, by omega⟩ (ls' := [(2, 37), (0, a), (0, (kL113 + 1))]) rfl ?_
                    refine zwW_p [(24, 105, 0)] (q := 105) (ls' := [(2, 37), (0, a), (0, (kL113 + 1))]) (st' := []) (by decide +kernel) rfl ?_
                    exact IHL113 ((1000 - (kL113 + 1))).toNat (by omega) (kL113 + 1) rfl (by omega)
                  · exfalso; omega
          exact L113 _ 0 rfl (by omega)
        · exfalso; omega
    · exfalso; omega
-- WheelLandModel.product(I)Z
theorem m269 {sc : List Int} (a : Int) (D0 : Nat) (pa : 0 ≤ a ∧ a ≤ 8) (HS : a < 8 → zPX sc D0 248 (a + 1)) : zPX sc (D0 + 21) 269 a := by
  intro h I hP pc pk
  have hP0 := hP
  unfold zP0 at hP0
  have bk := I.b (a1 := 37) (a2 := 37) (j1 := 45) (j2 := 46) (lo := 0) (hi := 400) (by decide +kernel) (r := 37) (j := 45) (by decide) (by decide) (by decide) (by decide)
  have bt := I.b (a1 := 37) (a2 := 37) (j1 := 41) (j2 := 42) (lo := 0) (hi := 400) (by decide +kernel) (r := 37) (j := 41) (by decide) (by decide) (by decide) (by decide)
  refine zwC_of (D := D0 + 20) 3 (by decide +kernel) rfl (ls := [(2, 37), (0, a), (9, 0)]) rfl ?_
  have R : zMR msP h h := zMR.rf _ _
  refine zwW_p [(1, 0, 2), (1, 1, 0)] (q := 2) (ls' := [(2, 37), (0, a), (9, 0)]) (st' := [(0, a), (2, 37)]) (by decide +kernel) rfl ?_
  refine zwW_cm I (op := 60) (k' := 285) (n := 1) (kd := 13) (m := 97) (nx := 5) (r := 37) (tl := [(0, a)]) (st' := []) (by decide +kernel) rfl (by decide +kernel) (Nat.ble_eq_true_of_le (by omega)) (m285 a D0 pa HS h I hP (by omega) (by omega)) ?_
  rintro x h1 ⟨Ih1, Qh1, f2, ⟨rfl, f3⟩ | ⟨rfl, f4⟩⟩
  · have Rh1 : zMR msP h h1 := R.tr Qh1 (by decide +kernel)
    have zf2 := f2; unfold zP0 at zf2
    have Sh1 := f3.k Qh1
    refine zwif_ne (q := 10) (nx := 8) (by decide +kernel) (fun c5 => ?_) (fun c5 => ?_)
    · have L6 : ∀ (n : Nat) (w2L6 : Vl) (hL6 : Hp), n = (fld hL6 37 41 - fld hL6 37 42).toNat → (zPS h hL6) → (zP0 hL6) → zI hL6 → zMR msP h hL6 → zwW sc (D0 + 20) 269 10 [(2, 37), (0, a), w2L6] [] hL6 (zwRt 0 (zPQ h)) := by
        intro n
        induction n using Nat.strongRecOn with
        | ind n IHL6 =>
          intro w2L6 hL6 hnL6 iL6_0 iL6_1 IhL6 RhL6
          have ShL6 := iL6_0.k RhL6
          have yhL6 := iL6_1; unfold zP0 at yhL6
          refine zwW_p [(1, 0, 2), (0, 42, 0)] (q := 13) (ls' := [(2, 37), (0, a), w2L6]) (st' := [(0, 42), (2, 37)]) (by decide +kernel) rfl ?_
          refine zwW_cm IhL6 (op := 60) (k' := 250) (n := 1) (kd := 13) (m := 97) (nx := 16) (r := 37) (tl := [(0, 42)]) (st' := []) (by decide +kernel) rfl (by decide +kernel) (Nat.ble_eq_true_of_le (by omega)) (m250 hL6 IhL6 42) ?_
          rintro x _ ⟨rfl, ⟨rfl, c7⟩ | ⟨rfl, c7⟩⟩
          · refine zwif_ne (q := 28) (nx := 19) (by decide +kernel) (fun c8 => ?_) (fun c8 => ?_)
            · refine zwW_p [(1, 0, 2)] (q := 29) (ls' := [(2, 37), (0, a), w2L6]) (st' := [(2, 37)]) (by decide +kernel) rfl ?_
              refine zwW_gc IhL6 (kd := 13) (bn := 40) (n := 97) (c := 98) (nx := 32) (by decide +kernel) ?_
              refine zwW_p [(1, 0, 2)] (q := 33) (ls' := [(2, 37), (0, a), w2L6]) (st' := [(2, 37), (2, 98)]) (by decide +kernel) rfl ?_
              refine zwW_gs IhL6 (kd := 13) (bn := 42) (n := 97) (t := 0) (lo := 0) (hi := 400) (nx := 36) (by decide +kernel) ?_
              intro v9 ev9 lv9 uv9
              have X36 : v9 = fld hL6 37 42 := by omega
              refine zwW_al IhL6 (a1 := 98) (a2 := 98) (kd := 21) (n := 400) (t := 0) (lo := -128) (hi := 127) (nx := 37) (by decide +kernel) ⟨by decide, by decide⟩ ⟨by omega, by omega⟩ ?_
              intro v10 ev10 lv10 uv10
              have G37 : v10 = fld hL6 98 (fld hL6 37 42).toNat := by rw [ev10, X36]
              refine zwW_p [(2, 2, 0), (1, 0, 2)] (q := 39) (ls' := [(2, 37), (0, a), (0, v10)]) (st' := [(2, 37)]) (by decide +kernel) rfl ?_
              refine zwW_cmv IhL6 (op := 60) (k' := 268) (n := 0) (kd := 13) (m := 97) (nx := 42) (r := 37) (tl := []) (st' := []) (by decide +kernel) rfl (by decide +kernel) (Nat.ble_eq_true_of_le (by omega)) (m268 hL6 IhL6 iL6_1) ?_
              rintro h13 ⟨Ih13, Qh13, f11, f12⟩
              have Rh13 : zMR msP h h13 := RhL6.tr Qh13 (by decide +kernel)
              have zf12 := f12; unfold zP0 at zf12
              have Kh13 := Qh13.kp (by decide +kernel)
              have N39 : zNu hL6 h13 := zNu.mr IhL6 (by omega) Qh13 (by decide +kernel) (Qh13.f1 44 (by decide +kernel)) (by omega)
              refine zwW_p [(1, 0, 2), (1, 1, 0)] (q := 44) (ls' := [(2, 37), (0, a), (0, v10)]) (st' := [(0, a), (2, 37)]) (by decide +kernel) rfl ?_
              refine zwW_cm Ih13 (op := 60) (k' := 285) (n := 1) (kd := 13) (m := 97) (nx := 47) (r := 37) (tl := [(0, a)]) (st' := []) (by decide +kernel) rfl (by decide +kernel) (Nat.ble_eq_true_of_le (by omega)) (m285 a D0 pa HS h13 Ih13 f12 (by omega) (by omega)) ?_
              rintro x h14 ⟨Ih14, Qh14, f15, ⟨rfl, f16⟩ | ⟨rfl, f17⟩⟩
              · have Rh14 : zMR msP h h14 := Rh13.tr Qh14 (by decide +kernel)
                have zf15 := f15; unfold zP0 at zf15
                have Sh14 := f16.k Qh14
                have W44 := f16
                refine zwif_ne (q := 52) (nx := 50) (by decide +kernel) (fun c18 => ?_) (fun c18 => ?_)
                · refine zwW_p [(1, 0, 2), (1, 2, 0), (0, 0, 0)] (q := 55) (ls' := [(2, 37), (0, a), (0, v10)]) (st' := [(0, 0), (0, v10), (2, 37)]) (by decide +kernel) rfl ?_
                  refine zwW_cm Ih14 (op := 60) (k' := 270) (n := 2) (kd := 13) (m := 97) (nx := 58) (r := 37) (tl := [(0, v10), (0, 0)]) (st' := []) (by decide +kernel) rfl (by decide +kernel) (Nat.ble_eq_true_of_le (by omega)) (m270 h14 Ih14 v10 0 (by omega) (by omega) (by omega) (by omega)) ?_
                  rintro x h21 ⟨Ih21, Qh21, rfl, f19, f20⟩
                  have Rh21 : zMR msP h h21 := Rh14.tr Qh21 (by decide +kernel)
                  have Ph21 := f15.mr Qh21 (by decide +kernel); have zPh21 := Ph21; unfold zP0 at zPh21
                  have Z55 : zPS h h21 := zPS_bin (by omega) (by omega) iL6_0 N39 (by omega) W44 (by omega) (zPu.of Qh21 f19 f20) (by omega)
                  have Sh21 := Z55.k Rh21
                  have Th21 := Qh21.f1 42 (by decide +kernel)
                  refine zwW_p [(15, 0, 0), (24, 10, 0)] (q := 10) (ls' := [(2, 37), (0, a), (0, v10)]) (st' := []) (by decide +kernel) rfl ?_
                  exact IHL6 (fld h21 37 41 - fld h21 37 42).toNat (by omega) (0, v10) h21 rfl (Z55) (Ph21) Ih21 Rh21
                · exfalso; omega
              · have Rh14 : zMR msP h h14 := Rh13.tr Qh14 (by decide +kernel)
                have zf15 := f15; unfold zP0 at zf15
                refine zwif_ne (q := 52) (nx := 50) (by decide +kernel) (fun c22 => ?_) (fun c22 => ?_)
                · exfalso; omega
                · refine zwW_p [(0, 0, 0)] (q := 51) (ls' := [(2, 37), (0, a), (0, v10)]) (st' := [(0, 0)]) (by decide +kernel) rfl ?_
                  refine zwW_ret (nx := 52) (a := 1) (b := 0) (by decide +kernel) rfl (Or.inr (Or.inl ⟨rfl, by omega⟩)) ?_
                  exact ⟨Ih14, Rh14, by exact f15, Or.inr ⟨rfl, by omega⟩⟩
            · exfalso; omega
          · refine zwif_ne (q := 28) (nx := 19) (by decide +kernel) (fun c23 => ?_) (fun c23 => ?_)
            · exfalso; omega
            · refine zwW_p [(1, 0, 2), (0, 47, 0)] (q := 22) (ls' := [(2, 37), (0, a), w2L6]) (st' := [(0, 47), (2, 37)]) (by decide +kernel) rfl ?_
              refine zwW_cm IhL6 (op := 60) (k' := 250) (n := 1) (kd := 13) (m := 97) (nx := 25) (r := 37) (tl := [(0, 47)]) (st' := []) (by decide +kernel) rfl (by decide +kernel) (Nat.ble_eq_true_of_le (by omega)) (m250 hL6 IhL6 47) ?_
              rintro x _ ⟨rfl, ⟨rfl, c24⟩ | ⟨rfl, c24⟩⟩
              · refine zwif_eq (q := 62) (nx := 28) (by decide +kernel) (fun c25 => ?_) (fun c25 => ?_)
                · exfalso; omega
                · refine zwW_p [(1, 0, 2)] (q := 29) (ls' := [(2, 37), (0, a), w2L6]) (st' := [(2, 37)]) (by decide +kernel) rfl ?_
                  refine zwW_gc IhL6 (kd := 13) (bn := 40) (n := 97) (c := 98) (nx := 32) (by decide +kernel) ?_
                  refine zwW_p [(1, 0, 2)] (q := 33) (ls' := [(2, 37), (0, a), w2L6]) (st' := [(2, 37), (2, 98)]) (by decide +kernel) rfl ?_
                  refine zwW_gs IhL6 (kd := 13) (bn := 42) (n := 97) (t := 0) (lo := 0) (hi := 400) (nx := 36) (by decide +kernel) ?_
                  intro v26 ev26 lv26 uv26
                  have X36 : v26 = fld hL6 37 42 := by omega
                  refine zwW_al IhL6 (a1 := 98) (a2 := 98) (kd := 21) (n := 400) (t := 0) (lo := -128) (hi := 127) (nx := 37) (by decide +kernel) ⟨by decide, by decide⟩ ⟨by omega, by omega⟩ ?_
                  intro v27 ev27 lv27 uv27
                  have G37 : v27 = fld hL6 98 (fld hL6 37 42).toNat := by rw [ev27, X36]
                  refine zwW_p [(2, 2, 0), (1, 0, 2)] (q := 39) (ls' := [(2, 37), (0, a), (0, v27)]) (st' := [(2, 37)]) (by decide +kernel) rfl ?_
                  refine zwW_cmv IhL6 (op := 60) (k' := 268) (n := 0) (kd := 13) (m := 97) (nx := 42) (r := 37) (tl := []) (st' := []) (by decide +kernel) rfl (by decide +kernel) (Nat.ble_eq_true_of_le (by omega)) (m268 hL6 IhL6 iL6_1) ?_
                  rintro h30 ⟨Ih30, Qh30, f28, f29⟩
                  have Rh30 : zMR msP h h30 := RhL6.tr Qh30 (by decide +kernel)
                  have zf29 := f29; unfold zP0 at zf29
                  have Kh30 := Qh30.kp (by decide +kernel)
                  have N39 : zNu hL6 h30 := zNu.mr IhL6 (by omega) Qh30 (by decide +kernel) (Qh30.f1 44 (by decide +kernel)) (by omega)
                  refine zwW_p [(1, 0, 2), (1, 1, 0)] (q := 44) (ls' := [(2, 37), (0, a), (0, v27)]) (st' := [(0, a), (2, 37)]) (by decide +kernel) rfl ?_
                  refine zwW_cm Ih30 (op := 60) (k' := 285) (n := 1) (kd := 13) (m := 97) (nx := 47) (r := 37) (tl := [(0, a)]) (st' := []) (by decide +kernel) rfl (by decide +kernel) (Nat.ble_eq_true_of_le (by omega)) (m285 a D0 pa HS h30 Ih30 f29 (by omega) (by omega)) ?_
                  rintro x h31 ⟨Ih31, Qh31, f32, ⟨rfl, f33⟩ | ⟨rfl, f34⟩⟩
                  · have Rh31 : zMR msP h h31 := Rh30.tr Qh31 (by decide +kernel)
                    have zf32 := f32; unfold zP0 at zf32
                    have Sh31 := f33.k Qh31
                    have W44 := f33
                    refine zwif_ne (q := 52) (nx := 50) (by decide +kernel) (fun c35 => ?_) (fun c35 => ?_)
                    · refine zwW_p [(1, 0, 2), (1, 2, 0), (0, 0, 0)] (q := 55) (ls' := [(2, 37), (0, a), (0, v27)]) (st' := [(0, 0), (0, v27), (2, 37)]) (by decide +kernel) rfl ?_
                      refine zwW_cm Ih31 (op := 60) (k' := 270) (n := 2) (kd := 13) (m := 97) (nx := 58) (r := 37) (tl := [(0, v27), (0, 0)]) (st' := []) (by decide +kernel) rfl (by decide +kernel) (Nat.ble_eq_true_of_le (by omega)) (m270 h31 Ih31 v27 0 (by omega) (by omega) (by omega) (by omega)) ?_
                      rintro x h38 ⟨Ih38, Qh38, rfl, f36, f37⟩
                      have Rh38 : zMR msP h h38 := Rh31.tr Qh38 (by decide +kernel)
                      have Ph38 := f32.mr Qh38 (by decide +kernel); have zPh38 := Ph38; unfold zP0 at zPh38
                      have Z55 : zPS h h38 := zPS_bin (by omega) (by omega) iL6_0 N39 (by omega) W44 (by omega) (zPu.of Qh38 f36 f37) (by omega)
                      have Sh38 := Z55.k Rh38
                      have Th38 := Qh38.f1 42 (by decide +kernel)
                      refine zwW_p [(15, 0, 0), (24, 10, 0)] (q := 10) (ls' := [(2, 37), (0, a), (0, v27)]) (st' := []) (by decide +kernel) rfl ?_
                      exact IHL6 (fld h38 37 41 - fld h38 37 42).toNat (by omega) (0, v27) h38 rfl (Z55) (Ph38) Ih38 Rh38
                    · exfalso; omega
                  · have Rh31 : zMR msP h h31 := Rh30.tr Qh31 (by decide +kernel)
                    have zf32 := f32; unfold zP0 at zf32
                    refine zwif_ne (q := 52) (nx := 50) (by decide +kernel) (fun c39 => ?_) (fun c39 => ?_)
                    · exfalso; omega
                    · refine zwW_p [(0, 0, 0)] (q := 51) (ls' := [(2, 37), (0, a), (0, v27)]) (st' := [(0, 0)]) (by decide +kernel) rfl ?_
                      refine zwW_ret (nx := 52) (a := 1) (b := 0) (by decide +kernel) rfl (Or.inr (Or.inl ⟨rfl, by omega⟩)) ?_
                      exact ⟨Ih31, Rh31, by exact f32, Or.inr ⟨rfl, by omega⟩⟩
              · refine zwif_eq (q := 62) (nx := 28) (by decide +kernel) (fun c40 => ?_) (fun c40 => ?_)
                · have Z := iL6_0
                  refine zwW_p [(0, 1, 0)] (q := 63) (ls' := [(2, 37), (0, a), w2L6]) (st' := [(0, 1)]) (by decide +kernel) rfl ?_
                  refine zwW_ret (nx := 64) (a := 1) (b := 0) (by decide +kernel) rfl (Or.inr (Or.inl ⟨rfl, by omega⟩)) ?_
                  exact ⟨IhL6, RhL6, by exact iL6_1, Or.inl ⟨rfl, by exact Z⟩⟩
                · exfalso; omega
      exact L6 _ (9, 0) h1 rfl (f3) (f2) Ih1 Rh1
    · exfalso; omega
  · have Rh1 : zMR msP h h1 := R.tr Qh1 (by decide +kernel)
    have zf2 := f2; unfold zP0 at zf2
    refine zwif_ne (q := 10) (nx := 8) (by decide +kernel) (fun c41 => ?_) (fun c41 => ?_)
    · exfalso; omega
    · refine zwW_p [(0, 0, 0)] (q := 9) (ls' := [(2, 37), (0, a), (9, 0)]) (st' := [(0, 0)]) (by decide +kernel) rfl ?_
      refine zwW_ret (nx := 10) (a := 1) (b := 0) (by decide +kernel) rfl (Or.inr (Or.inl ⟨rfl, by omega⟩)) ?_
      exact ⟨Ih1, Rh1, by exact f2, Or.inr ⟨rfl, by omega⟩⟩
-- WheelLandModel.sum(I)Z
theorem m248 {sc : List Int} (a : Int) (D0 : Nat) (pa : 0 ≤ a ∧ a ≤ 8) (HS : a < 8 → zPX sc D0 248 (a + 1)) : zPX sc (D0 + 22) 248 a := by
  intro h I hP pc pk
  have hP0 := hP
  unfold zP0 at hP0
  have bk := I.b (a1 := 37) (a2 := 37) (j1 := 45) (j2 := 46) (lo := 0) (hi := 400) (by decide +kernel) (r := 37) (j := 45) (by decide) (by decide) (by decide) (by decide)
  have bt := I.b (a1 := 37) (a2 := 37) (j1 := 41) (j2 := 42) (lo := 0) (hi := 400) (by decide +kernel) (r := 37) (j := 41) (by decide) (by decide) (by decide) (by decide)
  refine zwC_of (D := D0 + 21) 3 (by decide +kernel) rfl (ls := [(2, 37), (0, a), (9, 0)]) rfl ?_
  have R : zMR msP h h := zMR.rf _ _
  refine zwW_p [(1, 0, 2), (1, 1, 0)] (q := 2) (ls' := [(2, 37), (0, a), (9, 0)]) (st' := [(0, a), (2, 37)]) (by decide +kernel) rfl ?_
  refine zwW_cm I (op := 60) (k' := 269) (n := 1) (kd := 13) (m := 97) (nx := 5) (r := 37) (tl := [(0, a)]) (st' := []) (by decide +kernel) rfl (by decide +kernel) (Nat.ble_eq_true_of_le (by omega)) (m269 a D0 pa HS h I hP (by omega) (by omega)) ?_
  rintro x h1 ⟨Ih1, Qh1, f2, ⟨rfl, f3⟩ | ⟨rfl, f4⟩⟩
  · have Rh1 : zMR msP h h1 := R.tr Qh1 (by decide +kernel)
    have zf2 := f2; unfold zP0 at zf2
    have Sh1 := f3.k Qh1
    refine zwif_ne (q := 10) (nx := 8) (by decide +kernel) (fun c5 => ?_) (fun c5 => ?_)
    · have L6 : ∀ (n : Nat) (w2L6 : Vl) (hL6 : Hp), n = (fld hL6 37 41 - fld hL6 37 42).toNat → (zPS h hL6) → (zP0 hL6) → zI hL6 → zMR msP h hL6 → zwW sc (D0 + 21) 248 10 [(2, 37), (0, a), w2L6] [] hL6 (zwRt 0 (zPQ h)) := by
        intro n
        induction n using Nat.strongRecOn with
        | ind n IHL6 =>
          intro w2L6 hL6 hnL6 iL6_0 iL6_1 IhL6 RhL6
          have ShL6 := iL6_0.k RhL6
          have yhL6 := iL6_1; unfold zP0 at yhL6
          refine zwW_p [(1, 0, 2), (0, 43, 0)] (q := 13) (ls' := [(2, 37), (0, a), w2L6]) (st' := [(0, 43), (2, 37)]) (by decide +kernel) rfl ?_
          refine zwW_cm IhL6 (op := 60) (k' := 250) (n := 1) (kd := 13) (m := 97) (nx := 16) (r := 37) (tl := [(0, 43)]) (st' := []) (by decide +kernel) rfl (by decide +kernel) (Nat.ble_eq_true_of_le (by omega)) (m250 hL6 IhL6 43) ?_
          rintro x _ ⟨rfl, ⟨rfl, c7⟩ | ⟨rfl, c7⟩⟩
          · refine zwif_ne (q := 28) (nx := 19) (by decide +kernel) (fun c8 => ?_) (fun c8 => ?_)
            · refine zwW_p [(1, 0, 2)] (q := 29) (ls' := [(2, 37), (0, a), w2L6]) (st' := [(2, 37)]) (by decide +kernel) rfl ?_
              refine zwW_gc IhL6 (kd := 13) (bn := 40) (n := 97) (c := 98) (nx := 32) (by decide +kernel) ?_
              refine zwW_p [(1, 0, 2)] (q := 33) (ls' := [(2, 37), (0, a), w2L6]) (st' := [(2, 37), (2, 98)]) (by decide +kernel) rfl ?_
              refine zwW_gs IhL6 (kd := 13) (bn := 42) (n := 97) (t := 0) (lo := 0) (hi := 400) (nx := 36) (by decide +kernel) ?_
              intro v9 ev9 lv9 uv9
              have X36 : v9 = fld hL6 37 42 := by omega
              refine zwW_al IhL6 (a1 := 98) (a2 := 98) (kd := 21) (n := 400) (t := 0) (lo := -128) (hi := 127) (nx := 37) (by decide +kernel) ⟨by decide, by decide⟩ ⟨by omega, by omega⟩ ?_
              intro v10 ev10 lv10 uv10
              have G37 : v10 = fld hL6 98 (fld hL6 37 42).toNat := by rw [ev10, X36]
              refine zwW_p [(2, 2, 0), (1, 0, 2)] (q := 39) (ls' := [(2, 37), (0, a), (0, v10)]) (st' := [(2, 37)]) (by decide +kernel) rfl ?_
              refine zwW_cmv IhL6 (op := 60) (k' := 268) (n := 0) (kd := 13) (m := 97) (nx := 42) (r := 37) (tl := []) (st' := []) (by decide +kernel) rfl (by decide +kernel) (Nat.ble_eq_true_of_le (by omega)) (m268 hL6 IhL6 iL6_1) ?_
              rintro h13 ⟨Ih13, Qh13, f11, f12⟩
              have Rh13 : zMR msP h h13 := RhL6.tr Qh13 (by decide +kernel)
              have zf12 := f12; unfold zP0 at zf12
              have Kh13 := Qh13.kp (by decide +kernel)
              have N39 : zNu hL6 h13 := zNu.mr IhL6 (by omega) Qh13 (by decide +kernel) (Qh13.f1 44 (by decide +kernel)) (by omega)
              refine zwW_p [(1, 0, 2), (1, 1, 0)] (q := 44) (ls' := [(2, 37), (0, a), (0, v10)]) (st' := [(0, a), (2, 37)]) (by decide +kernel) rfl ?_
              refine zwW_cm Ih13 (op := 60) (k' := 269) (n := 1) (kd := 13) (m := 97) (nx := 47) (r := 37) (tl := [(0, a)]) (st' := []) (by decide +kernel) rfl (by decide +kernel) (Nat.ble_eq_true_of_le (by omega)) (m269 a D0 pa HS h13 Ih13 f12 (by omega) (by omega)) ?_
              rintro x h14 ⟨Ih14, Qh14, f15, ⟨rfl, f16⟩ | ⟨rfl, f17⟩⟩
              · have Rh14 : zMR msP h h14 := Rh13.tr Qh14 (by decide +kernel)
                have zf15 := f15; unfold zP0 at zf15
                have Sh14 := f16.k Qh14
                have W44 := f16
                refine zwif_ne (q := 52) (nx := 50) (by decide +kernel) (fun c18 => ?_) (fun c18 => ?_)
                · refine zwW_p [(1, 0, 2), (1, 2, 0), (0, 0, 0)] (q := 55) (ls' := [(2, 37), (0, a), (0, v10)]) (st' := [(0, 0), (0, v10), (2, 37)]) (by decide +kernel) rfl ?_
                  refine zwW_cm Ih14 (op := 60) (k' := 270) (n := 2) (kd := 13) (m := 97) (nx := 58) (r := 37) (tl := [(0, v10), (0, 0)]) (st' := []) (by decide +kernel) rfl (by decide +kernel) (Nat.ble_eq_true_of_le (by omega)) (m270 h14 Ih14 v10 0 (by omega) (by omega) (by omega) (by omega)) ?_
                  rintro x h21 ⟨Ih21, Qh21, rfl, f19, f20⟩
                  have Rh21 : zMR msP h h21 := Rh14.tr Qh21 (by decide +kernel)
                  have Ph21 := f15.mr Qh21 (by decide +kernel); have zPh21 := Ph21; unfold zP0 at zPh21
                  have Z55 : zPS h h21 := zPS_bin (by omega) (by omega) iL6_0 N39 (by omega) W44 (by omega) (zPu.of Qh21 f19 f20) (by omega)
                  have Sh21 := Z55.k Rh21
                  have Th21 := Qh21.f1 42 (by decide +kernel)
                  refine zwW_p [(15, 0, 0), (24, 10, 0)] (q := 10) (ls' := [(2, 37), (0, a), (0, v10)]) (st' := []) (by decide +kernel) rfl ?_
                  exact IHL6 (fld h21 37 41 - fld h21 37 42).toNat (by omega) (0, v10) h21 rfl (Z55) (Ph21) Ih21 Rh21
                · exfalso; omega
              · have Rh14 : zMR msP h h14 := Rh13.tr Qh14 (by decide +kernel)
                have zf15 := f15; unfold zP0 at zf15
                refine zwif_ne (q := 52) (nx := 50) (by decide +kernel) (fun c22 => ?_) (fun c22 => ?_)
                · exfalso; omega
                · refine zwW_p [(0, 0, 0)] (q := 51) (ls' := [(2, 37), (0, a), (0, v10)]) (st' := [(0, 0)]) (by decide +kernel) rfl ?_
                  refine zwW_ret (nx := 52) (a := 1) (b := 0) (by decide +kernel) rfl (Or.inr (Or.inl ⟨rfl, by omega⟩)) ?_
                  exact ⟨Ih14, Rh14, by exact f15, Or.inr ⟨rfl, by omega⟩⟩
            · exfalso; omega
          · refine zwif_ne (q := 28) (nx := 19) (by decide +kernel) (fun c23 => ?_) (fun c23 => ?_)
            · exfalso; omega
            · refine zwW_p [(1, 0, 2), (0, 45, 0)] (q := 22) (ls' := [(2, 37), (0, a), w2L6]) (st' := [(0, 45), (2, 37)]) (by decide +kernel) rfl ?_
              refine zwW_cm IhL6 (op := 60) (k' := 250) (n := 1) (kd := 13) (m := 97) (nx := 25) (r := 37) (tl := [(0, 45)]) (st' := []) (by decide +kernel) rfl (by decide +kernel) (Nat.ble_eq_true_of_le (by omega)) (m250 hL6 IhL6 45) ?_
              rintro x _ ⟨rfl, ⟨rfl, c24⟩ | ⟨rfl, c24⟩⟩
              · refine zwif_eq (q := 62) (nx := 28) (by decide +kernel) (fun c25 => ?_) (fun c25 => ?_)
                · exfalso; omega
                · refine zwW_p [(1, 0, 2)] (q := 29) (ls' := [(2, 37), (0, a), w2L6]) (st' := [(2, 37)]) (by decide +kernel) rfl ?_
                  refine zwW_gc IhL6 (kd := 13) (bn := 40) (n := 97) (c := 98) (nx := 32) (by decide +kernel) ?_
                  refine zwW_p [(1, 0, 2)] (q := 33) (ls' := [(2, 37), (0, a), w2L6]) (st' := [(2, 37), (2, 98)]) (by decide +kernel) rfl ?_
                  refine zwW_gs IhL6 (kd := 13) (bn := 42) (n := 97) (t := 0) (lo := 0) (hi := 400) (nx := 36) (by decide +kernel) ?_
                  intro v26 ev26 lv26 uv26
                  have X36 : v26 = fld hL6 37 42 := by omega
                  refine zwW_al IhL6 (a1 := 98) (a2 := 98) (kd := 21) (n := 400) (t := 0) (lo := -128) (hi := 127) (nx := 37) (by decide +kernel) ⟨by decide, by decide⟩ ⟨by omega, by omega⟩ ?_
                  intro v27 ev27 lv27 uv27
                  have G37 : v27 = fld hL6 98 (fld hL6 37 42).toNat := by rw [ev27, X36]
                  refine zwW_p [(2, 2, 0), (1, 0, 2)] (q := 39) (ls' := [(2, 37), (0, a), (0, v27)]) (st' := [(2, 37)]) (by decide +kernel) rfl ?_
                  refine zwW_cmv IhL6 (op := 60) (k' := 268) (n := 0) (kd := 13) (m := 97) (nx := 42) (r := 37) (tl := []) (st' := []) (by decide +kernel) rfl (by decide +kernel) (Nat.ble_eq_true_of_le (by omega)) (m268 hL6 IhL6 iL6_1) ?_
                  rintro h30 ⟨Ih30, Qh30, f28, f29⟩
                  have Rh30 : zMR msP h h30 := RhL6.tr Qh30 (by decide +kernel)
                  have zf29 := f29; unfold zP0 at zf29
                  have Kh30 := Qh30.kp (by decide +kernel)
                  have N39 : zNu hL6 h30 := zNu.mr IhL6 (by omega) Qh30 (by decide +kernel) (Qh30.f1 44 (by decide +kernel)) (by omega)
                  refine zwW_p [(1, 0, 2), (1, 1, 0)] (q := 44) (ls' := [(2, 37), (0, a), (0, v27)]) (st' := [(0, a), (2, 37)]) (by decide +kernel) rfl ?_
                  refine zwW_cm Ih30 (op := 60) (k' := 269) (n := 1) (kd := 13) (m := 97) (nx := 47) (r := 37) (tl := [(0, a)]) (st' := []) (by decide +kernel) rfl (by decide +kernel) (Nat.ble_eq_true_of_le (by omega)) (m269 a D0 pa HS h30 Ih30 f29 (by omega) (by omega)) ?_
                  rintro x h31 ⟨Ih31, Qh31, f32, ⟨rfl, f33⟩ | ⟨rfl, f34⟩⟩
                  · have Rh31 : zMR msP h h31 := Rh30.tr Qh31 (by decide +kernel)
                    have zf32 := f32; unfold zP0 at zf32
                    have Sh31 := f33.k Qh31
                    have W44 := f33
                    refine zwif_ne (q := 52) (nx := 50) (by decide +kernel) (fun c35 => ?_) (fun c35 => ?_)
                    · refine zwW_p [(1, 0, 2), (1, 2, 0), (0, 0, 0)] (q := 55) (ls' := [(2, 37), (0, a), (0, v27)]) (st' := [(0, 0), (0, v27), (2, 37)]) (by decide +kernel) rfl ?_
                      refine zwW_cm Ih31 (op := 60) (k' := 270) (n := 2) (kd := 13) (m := 97) (nx := 58) (r := 37) (tl := [(0, v27), (0, 0)]) (st' := []) (by decide +kernel) rfl (by decide +kernel) (Nat.ble_eq_true_of_le (by omega)) (m270 h31 Ih31 v27 0 (by omega) (by omega) (by omega) (by omega)) ?_
                      rintro x h38 ⟨Ih38, Qh38, rfl, f36, f37⟩
                      have Rh38 : zMR msP h h38 := Rh31.tr Qh38 (by decide +kernel)
                      have Ph38 := f32.mr Qh38 (by decide +kernel); have zPh38 := Ph38; unfold zP0 at zPh38
                      have Z55 : zPS h h38 := zPS_bin (by omega) (by omega) iL6_0 N39 (by omega) W44 (by omega) (zPu.of Qh38 f36 f37) (by omega)
                      have Sh38 := Z55.k Rh38
                      have Th38 := Qh38.f1 42 (by decide +kernel)
                      refine zwW_p [(15, 0, 0), (24, 10, 0)] (q := 10) (ls' := [(2, 37), (0, a), (0, v27)]) (st' := []) (by decide +kernel) rfl ?_
                      exact IHL6 (fld h38 37 41 - fld h38 37 42).toNat (by omega) (0, v27) h38 rfl (Z55) (Ph38) Ih38 Rh38
                    · exfalso; omega
                  · have Rh31 : zMR msP h h31 := Rh30.tr Qh31 (by decide +kernel)
                    have zf32 := f32; unfold zP0 at zf32
                    refine zwif_ne (q := 52) (nx := 50) (by decide +kernel) (fun c39 => ?_) (fun c39 => ?_)
                    · exfalso; omega
                    · refine zwW_p [(0, 0, 0)] (q := 51) (ls' := [(2, 37), (0, a), (0, v27)]) (st' := [(0, 0)]) (by decide +kernel) rfl ?_
                      refine zwW_ret (nx := 52) (a := 1) (b := 0) (by decide +kernel) rfl (Or.inr (Or.inl ⟨rfl, by omega⟩)) ?_
                      exact ⟨Ih31, Rh31, by exact f32, Or.inr ⟨rfl, by omega⟩⟩
              · refine zwif_eq (q := 62) (nx := 28) (by decide +kernel) (fun c40 => ?_) (fun c40 => ?_)
                · have Z := iL6_0
                  refine zwW_p [(0, 1, 0)] (q := 63) (ls' := [(2, 37), (0, a), w2L6]) (st' := [(0, 1)]) (by decide +kernel) rfl ?_
                  refine zwW_ret (nx := 64) (a := 1) (b := 0) (by decide +kernel) rfl (Or.inr (Or.inl ⟨rfl, by omega⟩)) ?_
                  exact ⟨IhL6, RhL6, by exact iL6_1, Or.inl ⟨rfl, by exact Z⟩⟩
                · exfalso; omega
      exact L6 _ (9, 0) h1 rfl (f3) (f2) Ih1 Rh1
    · exfalso; omega
  · have Rh1 : zMR msP h h1 := R.tr Qh1 (by decide +kernel)
    have zf2 := f2; unfold zP0 at zf2
    refine zwif_ne (q := 10) (nx := 8) (by decide +kernel) (fun c41 => ?_) (fun c41 => ?_)
    · exfalso; omega
    · refine zwW_p [(0, 0, 0)] (q := 9) (ls' := [(2, 37), (0, a), (9, 0)]) (st' := [(0, 0)]) (by decide +kernel) rfl ?_
      refine zwW_ret (nx := 10) (a := 1) (b := 0) (by decide +kernel) rfl (Or.inr (Or.inl ⟨rfl, by omega⟩)) ?_
      exact ⟨Ih1, Rh1, by exact f2, Or.inr ⟨rfl, by omega⟩⟩
-- WheelLandModel.test(I)Z
theorem m286 {sc : List Int} (a : Int) (D0 : Nat) (pa : 0 ≤ a ∧ a ≤ 8) (HS : a < 8 → zPX sc D0 248 (a + 1)) (HT : a < 8 → zPX sc D0 286 (a + 1)) (HE : a < 8 → zPX sc D0 249 (a + 1)) : zPX sc (D0 + 23) 286 a := by
  intro h I hP pc pk
  have hP0 := hP
  unfold zP0 at hP0
  have bk := I.b (a1 := 37) (a2 := 37) (j1 := 45) (j2 := 46) (lo := 0) (hi := 400) (by decide +kernel) (r := 37) (j := 45) (by decide) (by decide) (by decide) (by decide)
  have bt := I.b (a1 := 37) (a2 := 37) (j1 := 41) (j2 := 42) (lo := 0) (hi := 400) (by decide +kernel) (r := 37) (j := 41) (by decide) (by decide) (by decide) (by decide)
  refine zwC_of (D := D0 + 22) 3 (by decide +kernel) rfl (ls := [(2, 37), (0, a), (9, 0)]) rfl ?_
  have R : zMR msP h h := zMR.rf _ _
  refine zwW_p [(1, 0, 2), (0, -30, 2)] (q := 4) (ls' := [(2, 37), (0, a), (9, 0)]) (st' := [(2, -30), (2, 37)]) (by decide +kernel) rfl ?_
  refine zwW_cm I (op := 60) (k' := 246) (n := 1) (kd := 13) (m := 97) (nx := 7) (r := 37) (tl := [(2, -30)]) (st' := []) (by decide +kernel) rfl (by decide +kernel) (Nat.ble_eq_true_of_le (by omega)) (m246 h I (-30) (by omega) hP) ?_
  rintro x _ ⟨rfl, ⟨rfl, c1⟩ | ⟨rfl, c1⟩⟩
  · refine zwif_eq (q := 54) (nx := 10) (by decide +kernel) (fun c2 => ?_) (fun c2 => ?_)
    · exfalso; omega
    · refine zwW_p [(1, 0, 2), (1, 1, 0), (0, 8, 0)] (q := 14) (ls' := [(2, 37), (0, a), (9, 0)]) (st' := [(0, 8), (0, a), (2, 37)]) (by decide +kernel) rfl ?_
      refine zwic_ge (q := 21) (nx := 17) (by decide +kernel) (fun c3 => ?_) (fun c3 => ?_)
      · refine zwW_p [(0, 0, 0)] (q := 22) (ls' := [(2, 37), (0, a), (9, 0)]) (st' := [(0, 0), (2, 37)]) (by decide +kernel) rfl ?_
        refine zwW_cm I (op := 60) (k' := 247) (n := 1) (kd := 13) (m := 97) (nx := 25) (r := 37) (tl := [(0, 0)]) (st' := []) (by decide +kernel) rfl (by decide +kernel) (Nat.ble_eq_true_of_le (by omega)) (m247 h I 0 hP) ?_
        rintro x h4 ⟨Ih4, Qh4, ⟨rfl, f5, f6, f7, f8⟩ | ⟨rfl, f9, f10, f11⟩⟩
        · have Rh4 : zMR msP h h4 := R.tr Qh4 (by decide +kernel)
          have zf6 := f6; unfold zP0 at zf6
          have Kh4 := Qh4.kp (by decide +kernel)
          have N22 : zNu h h4 := zNu.mr I pc Qh4 (by decide +kernel) (by omega) (by omega)
          refine zwif_eq (q := 52) (nx := 28) (by decide +kernel) (fun c12 => ?_) (fun c12 => ?_)
          · exfalso; omega
          · refine zwW_p [(1, 0, 2), (1, 1, 0), (0, 1, 0)] (q := 31) (ls' := [(2, 37), (0, a), (9, 0)]) (st' := [(0, 1), (0, a), (2, 37)]) (by decide +kernel) rfl ?_
            refine zwW_add (nx := 32) (by decide +kernel) ⟨by omega, by omega⟩ ?_
            refine zwW_cm Ih4 (op := 60) (k' := 286) (n := 1) (kd := 13) (m := 97) (nx := 35) (r := 37) (tl := [(0, (a + 1))]) (st' := []) (by decide +kernel) rfl (by decide +kernel) (Nat.ble_eq_true_of_le (by omega)) (HT (by omega) h4 Ih4 f6 (by omega) (by omega)) ?_
            rintro x h13 ⟨Ih13, Qh13, f14, ⟨rfl, f15⟩ | ⟨rfl, f16⟩⟩
            · have Rh13 : zMR msP h h13 := Rh4.tr Qh13 (by decide +kernel)
              have zf14 := f14; unfold zP0 at zf14
              have Sh13 := f15.k Qh13
              have W32 := f15
              refine zwif_eq (q := 52) (nx := 38) (by decide +kernel) (fun c17 => ?_) (fun c17 => ?_)
              · exfalso; omega
              · refine zwW_p [(1, 0, 2), (0, 33, 0), (0, 0, 0)] (q := 42) (ls' := [(2, 37), (0, a), (9, 0)]) (st' := [(0, 0), (0, 33), (2, 37)]) (by decide +kernel) rfl ?_
                refine zwW_cm Ih13 (op := 60) (k' := 270) (n := 2) (kd := 13) (m := 97) (nx := 45) (r := 37) (tl := [(0, 33), (0, 0)]) (st' := []) (by decide +kernel) rfl (by decide +kernel) (Nat.ble_eq_true_of_le (by omega)) (m270 h13 Ih13 33 0 (by omega) (by omega) (by omega) (by omega)) ?_
                rintro x h20 ⟨Ih20, Qh20, rfl, f18, f19⟩
                have Rh20 : zMR msP h h20 := Rh13.tr Qh20 (by decide +kernel)
                have Ph20 := f14.mr Qh20 (by decide +kernel); have zPh20 := Ph20; unfold zP0 at zPh20
                have Z : zPS h h20 := zPS_not (by omega) N22 (by omega) W32 (by omega) (zPu.of Qh20 f18 f19)
                refine zwif_eq (q := 52) (nx := 48) (by decide +kernel) (fun c21 => ?_) (fun c21 => ?_)
                · exfalso; omega
                · refine zwW_p [(0, 1, 0), (24, 53, 0)] (q := 53) (ls' := [(2, 37), (0, a), (9, 0)]) (st' := [(0, 1)]) (by decide +kernel) rfl ?_
                  refine zwW_ret (nx := 54) (a := 1) (b := 0) (by decide +kernel) rfl (Or.inr (Or.inl ⟨rfl, by omega⟩)) ?_
                  exact ⟨Ih20, Rh20, by exact Ph20, Or.inl ⟨rfl, by exact Z⟩⟩
            · have Rh13 : zMR msP h h13 := Rh4.tr Qh13 (by decide +kernel)
              have zf14 := f14; unfold zP0 at zf14
              refine zwif_eq (q := 52) (nx := 38) (by decide +kernel) (fun c22 => ?_) (fun c22 => ?_)
              · refine zwW_p [(0, 0, 0)] (q := 53) (ls' := [(2, 37), (0, a), (9, 0)]) (st' := [(0, 0)]) (by decide +kernel) rfl ?_
                refine zwW_ret (nx := 54) (a := 1) (b := 0) (by decide +kernel) rfl (Or.inr (Or.inl ⟨rfl, by omega⟩)) ?_
                exact ⟨Ih13, Rh13, by exact f14, Or.inr ⟨rfl, by omega⟩⟩
              · exfalso; omega
        · have Rh4 : zMR msP h h4 := R.tr Qh4 (by decide +kernel)
          have zf10 := f10; unfold zP0 at zf10
          refine zwif_eq (q := 52) (nx := 28) (by decide +kernel) (fun c23 => ?_) (fun c23 => ?_)
          · refine zwW_p [(0, 0, 0)] (q := 53) (ls' := [(2, 37), (0, a), (9, 0)]) (st' := [(0, 0)]) (by decide +kernel) rfl ?_
            refine zwW_ret (nx := 54) (a := 1) (b := 0) (by decide +kernel) rfl (Or.inr (Or.inl ⟨rfl, by omega⟩)) ?_
            exact ⟨Ih4, Rh4, by exact f10, Or.inr ⟨rfl, by omega⟩⟩
          · exfalso; omega
      · refine zwW_p [(0, 1, 0), (24, 22, 0)] (q := 22) (ls' := [(2, 37), (0, a), (9, 0)]) (st' := [(0, 1), (2, 37)]) (by decide +kernel) rfl ?_
        refine zwW_cm I (op := 60) (k' := 247) (n := 1) (kd := 13) (m := 97) (nx := 25) (r := 37) (tl := [(0, 1)]) (st' := []) (by decide +kernel) rfl (by decide +kernel) (Nat.ble_eq_true_of_le (by omega)) (m247 h I 1 hP) ?_
        rintro x h24 ⟨Ih24, Qh24, ⟨rfl, f25, f26, f27, f28⟩ | ⟨rfl, f29, f30, f31⟩⟩
        · have Rh24 : zMR msP h h24 := R.tr Qh24 (by decide +kernel)
          have zf26 := f26; unfold zP0 at zf26
          have Kh24 := Qh24.kp (by decide +kernel)
          have N22 : zNu h h24 := zNu.mr I pc Qh24 (by decide +kernel) (by omega) (by omega)
          refine zwif_eq (q := 52) (nx := 28) (by decide +kernel) (fun c32 => ?_) (fun c32 => ?_)
          · exfalso; omega
          · refine zwW_p [(1, 0, 2), (1, 1, 0), (0, 1, 0)] (q := 31) (ls' := [(2, 37), (0, a), (9, 0)]) (st' := [(0, 1), (0, a), (2, 37)]) (by decide +kernel) rfl ?_
            refine zwW_add (nx := 32) (by decide +kernel) ⟨by omega, by omega⟩ ?_
            refine zwW_cm Ih24 (op := 60) (k' := 286) (n := 1) (kd := 13) (m := 97) (nx := 35) (r := 37) (tl := [(0, (a + 1))]) (st' := []) (by decide +kernel) rfl (by decide +kernel) (Nat.ble_eq_true_of_le (by omega)) (HT (by omega) h24 Ih24 f26 (by omega) (by omega)) ?_
            rintro x h33 ⟨Ih33, Qh33, f34, ⟨rfl, f35⟩ | ⟨rfl, f36⟩⟩
            · have Rh33 : zMR msP h h33 := Rh24.tr Qh33 (by decide +kernel)
              have zf34 := f34; unfold zP0 at zf34
              have Sh33 := f35.k Qh33
              have W32 := f35
              refine zwif_eq (q := 52) (nx := 38) (by decide +kernel) (fun c37 => ?_) (fun c37 => ?_)
              · exfalso; omega
              · refine zwW_p [(1, 0, 2), (0, 33, 0), (0, 0, 0)] (q := 42) (ls' := [(2, 37), (0, a), (9, 0)]) (st' := [(0, 0), (0, 33), (2, 37)]) (by decide +kernel) rfl ?_
                refine zwW_cm Ih33 (op := 60) (k' := 270) (n := 2) (kd := 13) (m := 97) (nx := 45) (r := 37) (tl := [(0, 33), (0, 0)]) (st' := []) (by decide +kernel) rfl (by decide +kernel) (Nat.ble_eq_true_of_le (by omega)) (m270 h33 Ih33 33 0 (by omega) (by omega) (by omega) (by omega)) ?_
                rintro x h40 ⟨Ih40, Qh40, rfl, f38, f39⟩
                have Rh40 : zMR msP h h40 := Rh33.tr Qh40 (by decide +kernel)
                have Ph40 := f34.mr Qh40 (by decide +kernel); have zPh40 := Ph40; unfold zP0 at zPh40
                have Z : zPS h h40 := zPS_not (by omega) N22 (by omega) W32 (by omega) (zPu.of Qh40 f38 f39)
                refine zwif_eq (q := 52) (nx := 48) (by decide +kernel) (fun c41 => ?_) (fun c41 => ?_)
                · exfalso; omega
                · refine zwW_p [(0, 1, 0), (24, 53, 0)] (q := 53) (ls' := [(2, 37), (0, a), (9, 0)]) (st' := [(0, 1)]) (by decide +kernel) rfl ?_
                  refine zwW_ret (nx := 54) (a := 1) (b := 0) (by decide +kernel) rfl (Or.inr (Or.inl ⟨rfl, by omega⟩)) ?_
                  exact ⟨Ih40, Rh40, by exact Ph40, Or.inl ⟨rfl, by exact Z⟩⟩
            · have Rh33 : zMR msP h h33 := Rh24.tr Qh33 (by decide +kernel)
              have zf34 := f34; unfold zP0 at zf34
              refine zwif_eq (q := 52) (nx := 38) (by decide +kernel) (fun c42 => ?_) (fun c42 => ?_)
              · refine zwW_p [(0, 0, 0)] (q := 53) (ls' := [(2, 37), (0, a), (9, 0)]) (st' := [(0, 0)]) (by decide +kernel) rfl ?_
                refine zwW_ret (nx := 54) (a := 1) (b := 0) (by decide +kernel) rfl (Or.inr (Or.inl ⟨rfl, by omega⟩)) ?_
                exact ⟨Ih33, Rh33, by exact f34, Or.inr ⟨rfl, by omega⟩⟩
              · exfalso; omega
        · have Rh24 : zMR msP h h24 := R.tr Qh24 (by decide +kernel)
          have zf30 := f30; unfold zP0 at zf30
          refine zwif_eq (q := 52) (nx := 28) (by decide +kernel) (fun c43 => ?_) (fun c43 => ?_)
          · refine zwW_p [(0, 0, 0)] (q := 53) (ls' := [(2, 37), (0, a), (9, 0)]) (st' := [(0, 0)]) (by decide +kernel) rfl ?_
            refine zwW_ret (nx := 54) (a := 1) (b := 0) (by decide +kernel) rfl (Or.inr (Or.inl ⟨rfl, by omega⟩)) ?_
            exact ⟨Ih24, Rh24, by exact f30, Or.inr ⟨rfl, by omega⟩⟩
          · exfalso; omega
  · refine zwif_eq (q := 54) (nx := 10) (by decide +kernel) (fun c44 => ?_) (fun c44 => ?_)
    · refine zwW_p [(1, 0, 2), (0, 91, 0)] (q := 57) (ls' := [(2, 37), (0, a), (9, 0)]) (st' := [(0, 91), (2, 37)]) (by decide +kernel) rfl ?_
      refine zwW_cm I (op := 60) (k' := 250) (n := 1) (kd := 13) (m := 97) (nx := 60) (r := 37) (tl := [(0, 91)]) (st' := []) (by decide +kernel) rfl (by decide +kernel) (Nat.ble_eq_true_of_le (by omega)) (m250 h I 91) ?_
      rintro x _ ⟨rfl, ⟨rfl, c45⟩ | ⟨rfl, c45⟩⟩
      · refine zwif_eq (q := 110) (nx := 63) (by decide +kernel) (fun c46 => ?_) (fun c46 => ?_)
        · exfalso; omega
        · refine zwW_p [(1, 0, 2), (1, 1, 0), (0, 8, 0)] (q := 67) (ls' := [(2, 37), (0, a), (9, 0)]) (st' := [(0, 8), (0, a), (2, 37)]) (by decide +kernel) rfl ?_
          refine zwic_ge (q := 74) (nx := 70) (by decide +kernel) (fun c47 => ?_) (fun c47 => ?_)
          · refine zwW_p [(0, 0, 0)] (q := 75) (ls' := [(2, 37), (0, a), (9, 0)]) (st' := [(0, 0), (2, 37)]) (by decide +kernel) rfl ?_
            refine zwW_cm I (op := 60) (k' := 247) (n := 1) (kd := 13) (m := 97) (nx := 78) (r := 37) (tl := [(0, 0)]) (st' := []) (by decide +kernel) rfl (by decide +kernel) (Nat.ble_eq_true_of_le (by omega)) (m247 h I 0 hP) ?_
            rintro x h48 ⟨Ih48, Qh48, ⟨rfl, f49, f50, f51, f52⟩ | ⟨rfl, f53, f54, f55⟩⟩
            · have Rh48 : zMR msP h h48 := R.tr Qh48 (by decide +kernel)
              have zf50 := f50; unfold zP0 at zf50
              have Kh48 := Qh48.kp (by decide +kernel)
              have N75 : zNu h h48 := zNu.mr I pc Qh48 (by decide +kernel) (by omega) (by omega)
              refine zwif_eq (q := 108) (nx := 81) (by decide +kernel) (fun c56 => ?_) (fun c56 => ?_)
              · exfalso; omega
              · refine zwW_p [(1, 0, 2), (1, 1, 0), (0, 1, 0)] (q := 84) (ls' := [(2, 37), (0, a), (9, 0)]) (st' := [(0, 1), (0, a), (2, 37)]) (by decide +kernel) rfl ?_
                refine zwW_add (nx := 85) (by decide +kernel) ⟨by omega, by omega⟩ ?_
                refine zwW_cm Ih48 (op := 60) (k' := 249) (n := 1) (kd := 13) (m := 97) (nx := 88) (r := 37) (tl := [(0, (a + 1))]) (st' := []) (by decide +kernel) rfl (by decide +kernel) (Nat.ble_eq_true_of_le (by omega)) (HE (by omega) h48 Ih48 f50 (by omega) (by omega)) ?_
                rintro x h57 ⟨Ih57, Qh57, f58, ⟨rfl, f59⟩ | ⟨rfl, f60⟩⟩
                · have Rh57 : zMR msP h h57 := Rh48.tr Qh57 (by decide +kernel)
                  have zf58 := f58; unfold zP0 at zf58
                  have Sh57 := f59.k Qh57
                  have W85 := f59
                  refine zwif_eq (q := 108) (nx := 91) (by decide +kernel) (fun c61 => ?_) (fun c61 => ?_)
                  · exfalso; omega
                  · refine zwW_p [(1, 0, 2), (1, 0, 2), (0, 93, 0)] (q := 95) (ls' := [(2, 37), (0, a), (9, 0)]) (st' := [(0, 93), (2, 37), (2, 37)]) (by decide +kernel) rfl ?_
                    refine zwW_cm Ih57 (op := 60) (k' := 250) (n := 1) (kd := 13) (m := 97) (nx := 98) (r := 37) (tl := [(0, 93)]) (st' := [(2, 37)]) (by decide +kernel) rfl (by decide +kernel) (Nat.ble_eq_true_of_le (by omega)) (m250 h57 Ih57 93) ?_
                    rintro x _ ⟨rfl, ⟨rfl, c62⟩ | ⟨rfl, c62⟩⟩
                    · refine zwW_cm Ih57 (op := 60) (k' := 247) (n := 1) (kd := 13) (m := 97) (nx := 101) (r := 37) (tl := [(0, 1)]) (st' := []) (by decide +kernel) rfl (by decide +kernel) (Nat.ble_eq_true_of_le (by omega)) (m247 h57 Ih57 1 f58) ?_
                      rintro x h63 ⟨Ih63, Qh63, ⟨rfl, f64, f65, f66, f67⟩ | ⟨rfl, f68, f69, f70⟩⟩
                      · have Rh63 : zMR msP h h63 := Rh57.tr Qh63 (by decide +kernel)
                        have zf65 := f65; unfold zP0 at zf65
                        have Kh63 := Qh63.kp (by decide +kernel)
                        have N98 : zNu h57 h63 := zNu.mr Ih57 (by omega) Qh63 (by decide +kernel) (by omega) (by omega)
                        have Z : zPS h h63 := (W85.pre N75).post (by omega) N98
                        refine zwif_eq (q := 108) (nx := 104) (by decide +kernel) (fun c71 => ?_) (fun c71 => ?_)
                        · exfalso; omega
                        · refine zwW_p [(0, 1, 0), (24, 109, 0)] (q := 109) (ls' := [(2, 37), (0, a), (9, 0)]) (st' := [(0, 1)]) (by decide +kernel) rfl ?_
                          refine zwW_ret (nx := 110) (a := 1) (b := 0) (by decide +kernel) rfl (Or.inr (Or.inl ⟨rfl, by omega⟩)) ?_
                          exact ⟨Ih63, Rh63, by exact f65, Or.inl ⟨rfl, by exact Z⟩⟩
                      · have Rh63 : zMR msP h h63 := Rh57.tr Qh63 (by decide +kernel)
                        have zf69 := f69; unfold zP0 at zf69
                        refine zwif_eq (q := 108) (nx := 104) (by decide +kernel) (fun c72 => ?_) (fun c72 => ?_)
                        · refine zwW_p [(0, 0, 0)] (q := 109) (ls' := [(2, 37), (0, a), (9, 0)]) (st' := [(0, 0)]) (by decide +kernel) rfl ?_
                          refine zwW_ret (nx := 110) (a := 1) (b := 0) (by decide +kernel) rfl (Or.inr (Or.inl ⟨rfl, by omega⟩)) ?_
                          exact ⟨Ih63, Rh63, by exact f69, Or.inr ⟨rfl, by omega⟩⟩
                        · exfalso; omega
                    · refine zwW_cm Ih57 (op := 60) (k' := 247) (n := 1) (kd := 13) (m := 97) (nx := 101) (r := 37) (tl := [(0, 0)]) (st' := []) (by decide +kernel) rfl (by decide +kernel) (Nat.ble_eq_true_of_le (by omega)) (m247 h57 Ih57 0 f58) ?_
                      rintro x h73 ⟨Ih73, Qh73, ⟨rfl, f74, f75, f76, f77⟩ | ⟨rfl, f78, f79, f80⟩⟩
                      · have Rh73 : zMR msP h h73 := Rh57.tr Qh73 (by decide +kernel)
                        have zf75 := f75; unfold zP0 at zf75
                        have Kh73 := Qh73.kp (by decide +kernel)
                        have N98 : zNu h57 h73 := zNu.mr Ih57 (by omega) Qh73 (by decide +kernel) (by omega) (by omega)
                        have Z : zPS h h73 := (W85.pre N75).post (by omega) N98
                        refine zwif_eq (q := 108) (nx := 104) (by decide +kernel) (fun c81 => ?_) (fun c81 => ?_)
                        · exfalso; omega
                        · refine zwW_p [(0, 1, 0), (24, 109, 0)] (q := 109) (ls' := [(2, 37), (0, a), (9, 0)]) (st' := [(0, 1)]) (by decide +kernel) rfl ?_
                          refine zwW_ret (nx := 110) (a := 1) (b := 0) (by decide +kernel) rfl (Or.inr (Or.inl ⟨rfl, by omega⟩)) ?_
                          exact ⟨Ih73, Rh73, by exact f75, Or.inl ⟨rfl, by exact Z⟩⟩
                      · have Rh73 : zMR msP h h73 := Rh57.tr Qh73 (by decide +kernel)
                        have zf79 := f79; unfold zP0 at zf79
                        refine zwif_eq (q := 108) (nx := 104) (by decide +kernel) (fun c82 => ?_) (fun c82 => ?_)
                        · refine zwW_p [(0, 0, 0)] (q := 109) (ls' := [(2, 37), (0, a), (9, 0)]) (st' := [(0, 0)]) (by decide +kernel) rfl ?_
                          refine zwW_ret (nx := 110) (a := 1) (b := 0) (by decide +kernel) rfl (Or.inr (Or.inl ⟨rfl, by omega⟩)) ?_
                          exact ⟨Ih73, Rh73, by exact f79, Or.inr ⟨rfl, by omega⟩⟩
                        · exfalso; omega
                · have Rh57 : zMR msP h h57 := Rh48.tr Qh57 (by decide +kernel)
                  have zf58 := f58; unfold zP0 at zf58
                  refine zwif_eq (q := 108) (nx := 91) (by decide +kernel) (fun c83 => ?_) (fun c83 => ?_)
                  · refine zwW_p [(0, 0, 0)] (q := 109) (ls' := [(2, 37), (0, a), (9, 0)]) (st' := [(0, 0)]) (by decide +kernel) rfl ?_
                    refine zwW_ret (nx := 110) (a := 1) (b := 0) (by decide +kernel) rfl (Or.inr (Or.inl ⟨rfl, by omega⟩)) ?_
                    exact ⟨Ih57, Rh57, by exact f58, Or.inr ⟨rfl, by omega⟩⟩
                  · exfalso; omega
            · have Rh48 : zMR msP h h48 := R.tr Qh48 (by decide +kernel)
              have zf54 := f54; unfold zP0 at zf54
              refine zwif_eq (q := 108) (nx := 81) (by decide +kernel) (fun c84 => ?_) (fun c84 => ?_)
              · refine zwW_p [(0, 0, 0)] (q := 109) (ls' := [(2, 37), (0, a), (9, 0)]) (st' := [(0, 0)]) (by decide +kernel) rfl ?_
                refine zwW_ret (nx := 110) (a := 1) (b := 0) (by decide +kernel) rfl (Or.inr (Or.inl ⟨rfl, by omega⟩)) ?_
                exact ⟨Ih48, Rh48, by exact f54, Or.inr ⟨rfl, by omega⟩⟩
              · exfalso; omega
          · refine zwW_p [(0, 1, 0), (24, 75, 0)] (q := 75) (ls' := [(2, 37), (0, a), (9, 0)]) (st' := [(0, 1), (2, 37)]) (by decide +kernel) rfl ?_
            refine zwW_cm I (op := 60) (k' := 247) (n := 1) (kd := 13) (m := 97) (nx := 78) (r := 37) (tl := [(0, 1)]) (st' := []) (by decide +kernel) rfl (by decide +kernel) (Nat.ble_eq_true_of_le (by omega)) (m247 h I 1 hP) ?_
            rintro x h85 ⟨Ih85, Qh85, ⟨rfl, f86, f87, f88, f89⟩ | ⟨rfl, f90, f91, f92⟩⟩
            · have Rh85 : zMR msP h h85 := R.tr Qh85 (by decide +kernel)
              have zf87 := f87; unfold zP0 at zf87
              have Kh85 := Qh85.kp (by decide +kernel)
              have N75 : zNu h h85 := zNu.mr I pc Qh85 (by decide +kernel) (by omega) (by omega)
              refine zwif_eq (q := 108) (nx := 81) (by decide +kernel) (fun c93 => ?_) (fun c93 => ?_)
              · exfalso; omega
              · refine zwW_p [(1, 0, 2), (1, 1, 0), (0, 1, 0)] (q := 84) (ls' := [(2, 37), (0, a), (9, 0)]) (st' := [(0, 1), (0, a), (2, 37)]) (by decide +kernel) rfl ?_
                refine zwW_add (nx := 85) (by decide +kernel) ⟨by omega, by omega⟩ ?_
                refine zwW_cm Ih85 (op := 60) (k' := 249) (n := 1) (kd := 13) (m := 97) (nx := 88) (r := 37) (tl := [(0, (a + 1))]) (st' := []) (by decide +kernel) rfl (by decide +kernel) (Nat.ble_eq_true_of_le (by omega)) (HE (by omega) h85 Ih85 f87 (by omega) (by omega)) ?_
                rintro x h94 ⟨Ih94, Qh94, f95, ⟨rfl, f96⟩ | ⟨rfl, f97⟩⟩
                · have Rh94 : zMR msP h h94 := Rh85.tr Qh94 (by decide +kernel)
                  have zf95 := f95; unfold zP0 at zf95
                  have Sh94 := f96.k Qh94
                  have W85 := f96
                  refine zwif_eq (q := 108) (nx := 91) (by decide +kernel) (fun c98 => ?_) (fun c98 => ?_)
                  · exfalso; omega
                  · refine zwW_p [(1, 0, 2), (1, 0, 2), (0, 93, 0)] (q := 95) (ls' := [(2, 37), (0, a), (9, 0)]) (st' := [(0, 93), (2, 37), (2, 37)]) (by decide +kernel) rfl ?_
                    refine zwW_cm Ih94 (op := 60) (k' := 250) (n := 1) (kd := 13) (m := 97) (nx := 98) (r := 37) (tl := [(0, 93)]) (st' := [(2, 37)]) (by decide +kernel) rfl (by decide +kernel) (Nat.ble_eq_true_of_le (by omega)) (m250 h94 Ih94 93) ?_
                    rintro x _ ⟨rfl, ⟨rfl, c99⟩ | ⟨rfl, c99⟩⟩
                    · refine zwW_cm Ih94 (op := 60) (k' := 247) (n := 1) (kd := 13) (m := 97) (nx := 101) (r := 37) (tl := [(0, 1)]) (st' := []) (by decide +kernel) rfl (by decide +kernel) (Nat.ble_eq_true_of_le (by omega)) (m247 h94 Ih94 1 f95) ?_
                      rintro x h100 ⟨Ih100, Qh100, ⟨rfl, f101, f102, f103, f104⟩ | ⟨rfl, f105, f106, f107⟩⟩
                      · have Rh100 : zMR msP h h100 := Rh94.tr Qh100 (by decide +kernel)
                        have zf102 := f102; unfold zP0 at zf102
                        have Kh100 := Qh100.kp (by decide +kernel)
                        have N98 : zNu h94 h100 := zNu.mr Ih94 (by omega) Qh100 (by decide +kernel) (by omega) (by omega)
                        have Z : zPS h h100 := (W85.pre N75).post (by omega) N98
                        refine zwif_eq (q := 108) (nx := 104) (by decide +kernel) (fun c108 => ?_) (fun c108 => ?_)
                        · exfalso; omega
                        · refine zwW_p [(0, 1, 0), (24, 109, 0)] (q := 109) (ls' := [(2, 37), (0, a), (9, 0)]) (st' := [(0, 1)]) (by decide +kernel) rfl ?_
                          refine zwW_ret (nx := 110) (a := 1) (b := 0) (by decide +kernel) rfl (Or.inr (Or.inl ⟨rfl, by omega⟩)) ?_
                          exact ⟨Ih100, Rh100, by exact f102, Or.inl ⟨rfl, by exact Z⟩⟩
                      · have Rh100 : zMR msP h h100 := Rh94.tr Qh100 (by decide +kernel)
                        have zf106 := f106; unfold zP0 at zf106
                        refine zwif_eq (q := 108) (nx := 104) (by decide +kernel) (fun c109 => ?_) (fun c109 => ?_)
                        · refine zwW_p [(0, 0, 0)] (q := 109) (ls' := [(2, 37), (0, a), (9, 0)]) (st' := [(0, 0)]) (by decide +kernel) rfl ?_
                          refine zwW_ret (nx := 110) (a := 1) (b := 0) (by decide +kernel) rfl (Or.inr (Or.inl ⟨rfl, by omega⟩)) ?_
                          exact ⟨Ih100, Rh100, by exact f106, Or.inr ⟨rfl, by omega⟩⟩
                        · exfalso; omega
                    · refine zwW_cm Ih94 (op := 60) (k' := 247) (n := 1) (kd := 13) (m := 97) (nx := 101) (r := 37) (tl := [(0, 0)]) (st' := []) (by decide +kernel) rfl (by decide +kernel) (Nat.ble_eq_true_of_le (by omega)) (m247 h94 Ih94 0 f95) ?_
                      rintro x h110 ⟨Ih110, Qh110, ⟨rfl, f111, f112, f113, f114⟩ | ⟨rfl, f115, f116, f117⟩⟩
                      · have Rh110 : zMR msP h h110 := Rh94.tr Qh110 (by decide +kernel)
                        have zf112 := f112; unfold zP0 at zf112
                        have Kh110 := Qh110.kp (by decide +kernel)
                        have N98 : zNu h94 h110 := zNu.mr Ih94 (by omega) Qh110 (by decide +kernel) (by omega) (by omega)
                        have Z : zPS h h110 := (W85.pre N75).post (by omega) N98
                        refine zwif_eq (q := 108) (nx := 104) (by decide +kernel) (fun c118 => ?_) (fun c118 => ?_)
                        · exfalso; omega
                        · refine zwW_p [(0, 1, 0), (24, 109, 0)] (q := 109) (ls' := [(2, 37), (0, a), (9, 0)]) (st' := [(0, 1)]) (by decide +kernel) rfl ?_
                          refine zwW_ret (nx := 110) (a := 1) (b := 0) (by decide +kernel) rfl (Or.inr (Or.inl ⟨rfl, by omega⟩)) ?_
                          exact ⟨Ih110, Rh110, by exact f112, Or.inl ⟨rfl, by exact Z⟩⟩
                      · have Rh110 : zMR msP h h110 := Rh94.tr Qh110 (by decide +kernel)
                        have zf116 := f116; unfold zP0 at zf116
                        refine zwif_eq (q := 108) (nx := 104) (by decide +kernel) (fun c119 => ?_) (fun c119 => ?_)
                        · refine zwW_p [(0, 0, 0)] (q := 109) (ls' := [(2, 37), (0, a), (9, 0)]) (st' := [(0, 0)]) (by decide +kernel) rfl ?_
                          refine zwW_ret (nx := 110) (a := 1) (b := 0) (by decide +kernel) rfl (Or.inr (Or.inl ⟨rfl, by omega⟩)) ?_
                          exact ⟨Ih110, Rh110, by exact f116, Or.inr ⟨rfl, by omega⟩⟩
                        · exfalso; omega
                · have Rh94 : zMR msP h h94 := Rh85.tr Qh94 (by decide +kernel)
                  have zf95 := f95; unfold zP0 at zf95
                  refine zwif_eq (q := 108) (nx := 91) (by decide +kernel) (fun c120 => ?_) (fun c120 => ?_)
                  · refine zwW_p [(0, 0, 0)] (q := 109) (ls' := [(2, 37), (0, a), (9, 0)]) (st' := [(0, 0)]) (by decide +kernel) rfl ?_
                    refine zwW_ret (nx := 110) (a := 1) (b := 0) (by decide +kernel) rfl (Or.inr (Or.inl ⟨rfl, by omega⟩)) ?_
                    exact ⟨Ih94, Rh94, by exact f95, Or.inr ⟨rfl, by omega⟩⟩
                  · exfalso; omega
            · have Rh85 : zMR msP h h85 := R.tr Qh85 (by decide +kernel)
              have zf91 := f91; unfold zP0 at zf91
              refine zwif_eq (q := 108) (nx := 81) (by decide +kernel) (fun c121 => ?_) (fun c121 => ?_)
              · refine zwW_p [(0, 0, 0)] (q := 109) (ls' := [(2, 37), (0, a), (9, 0)]) (st' := [(0, 0)]) (by decide +kernel) rfl ?_
                refine zwW_ret (nx := 110) (a := 1) (b := 0) (by decide +kernel) rfl (Or.inr (Or.inl ⟨rfl, by omega⟩)) ?_
                exact ⟨Ih85, Rh85, by exact f91, Or.inr ⟨rfl, by omega⟩⟩
              · exfalso; omega
      · refine zwif_eq (q := 110) (nx := 63) (by decide +kernel) (fun c122 => ?_) (fun c122 => ?_)
        · refine zwW_p [(1, 0, 2), (1, 1, 0)] (q := 112) (ls' := [(2, 37), (0, a), (9, 0)]) (st' := [(0, a), (2, 37)]) (by decide +kernel) rfl ?_
          refine zwW_cm I (op := 60) (k' := 248) (n := 1) (kd := 13) (m := 97) (nx := 115) (r := 37) (tl := [(0, a)]) (st' := []) (by decide +kernel) rfl (by decide +kernel) (Nat.ble_eq_true_of_le (by omega)) (m248 a D0 pa HS h I hP (by omega) (by omega)) ?_
          rintro x h123 ⟨Ih123, Qh123, f124, ⟨rfl, f125⟩ | ⟨rfl, f126⟩⟩
          · have Rh123 : zMR msP h h123 := R.tr Qh123 (by decide +kernel)
            have zf124 := f124; unfold zP0 at zf124
            have Sh123 := f125.k Qh123
            have W112 := f125
            refine zwif_ne (q := 120) (nx := 118) (by decide +kernel) (fun c127 => ?_) (fun c127 => ?_)
            · refine zwW_p [(1, 0, 2), (0, 60, 0)] (q := 123) (ls' := [(2, 37), (0, a), (9, 0)]) (st' := [(0, 60), (2, 37)]) (by decide +kernel) rfl ?_
              refine zwW_cm Ih123 (op := 60) (k' := 250) (n := 1) (kd := 13) (m := 97) (nx := 126) (r := 37) (tl := [(0, 60)]) (st' := []) (by decide +kernel) rfl (by decide +kernel) (Nat.ble_eq_true_of_le (by omega)) (m250 h123 Ih123 60) ?_
              rintro x _ ⟨rfl, ⟨rfl, c128⟩ | ⟨rfl, c128⟩⟩
              · refine zwif_ne (q := 152) (nx := 129) (by decide +kernel) (fun c129 => ?_) (fun c129 => ?_)
                · refine zwW_p [(1, 0, 2)] (q := 153) (ls' := [(2, 37), (0, a), (9, 0)]) (st' := [(2, 37)]) (by decide +kernel) rfl ?_
                  refine zwW_gc Ih123 (kd := 13) (bn := 40) (n := 97) (c := 98) (nx := 156) (by decide +kernel) ?_
                  refine zwW_p [(1, 0, 2)] (q := 157) (ls' := [(2, 37), (0, a), (9, 0)]) (st' := [(2, 37), (2, 98)]) (by decide +kernel) rfl ?_
                  refine zwW_gs Ih123 (kd := 13) (bn := 42) (n := 97) (t := 0) (lo := 0) (hi := 400) (nx := 160) (by decide +kernel) ?_
                  intro v130 ev130 lv130 uv130
                  have X160 : v130 = fld h123 37 42 := by omega
                  refine zwW_al Ih123 (a1 := 98) (a2 := 98) (kd := 21) (n := 400) (t := 0) (lo := -128) (hi := 127) (nx := 161) (by decide +kernel) ⟨by decide, by decide⟩ ⟨by omega, by omega⟩ ?_
                  intro v131 ev131 lv131 uv131
                  have G161 : v131 = fld h123 98 (fld h123 37 42).toNat := by rw [ev131, X160]
                  refine zwW_p [(2, 2, 0), (1, 0, 2)] (q := 163) (ls' := [(2, 37), (0, a), (0, v131)]) (st' := [(2, 37)]) (by decide +kernel) rfl ?_
                  refine zwW_cmv Ih123 (op := 60) (k' := 268) (n := 0) (kd := 13) (m := 97) (nx := 166) (r := 37) (tl := []) (st' := []) (by decide +kernel) rfl (by decide +kernel) (Nat.ble_eq_true_of_le (by omega)) (m268 h123 Ih123 f124) ?_
                  rintro h134 ⟨Ih134, Qh134, f132, f133⟩
                  have Rh134 : zMR msP h h134 := Rh123.tr Qh134 (by decide +kernel)
                  have zf133 := f133; unfold zP0 at zf133
                  have Kh134 := Qh134.kp (by decide +kernel)
                  have N163 : zNu h123 h134 := zNu.mr Ih123 (by omega) Qh134 (by decide +kernel) (Qh134.f1 44 (by decide +kernel)) (by omega)
                  refine zwW_p [(1, 0, 2), (1, 1, 0)] (q := 168) (ls' := [(2, 37), (0, a), (0, v131)]) (st' := [(0, a), (2, 37)]) (by decide +kernel) rfl ?_
                  refine zwW_cm Ih134 (op := 60) (k' := 248) (n := 1) (kd := 13) (m := 97) (nx := 171) (r := 37) (tl := [(0, a)]) (st' := []) (by decide +kernel) rfl (by decide +kernel) (Nat.ble_eq_true_of_le (by omega)) (m248 a D0 pa HS h134 Ih134 f133 (by omega) (by omega)) ?_
                  rintro x h135 ⟨Ih135, Qh135, f136, ⟨rfl, f137⟩ | ⟨rfl, f138⟩⟩
                  · have Rh135 : zMR msP h h135 := Rh134.tr Qh135 (by decide +kernel)
                    have zf136 := f136; unfold zP0 at zf136
                    have Sh135 := f137.k Qh135
                    have W168 := f137
                    refine zwif_eq (q := 187) (nx := 174) (by decide +kernel) (fun c139 => ?_) (fun c139 => ?_)
                    · exfalso; omega
                    · refine zwW_p [(1, 0, 2), (1, 2, 0), (0, 0, 0)] (q := 177) (ls' := [(2, 37), (0, a), (0, v131)]) (st' := [(0, 0), (0, v131), (2, 37)]) (by decide +kernel) rfl ?_
                      refine zwW_cm Ih135 (op := 60) (k' := 270) (n := 2) (kd := 13) (m := 97) (nx := 180) (r := 37) (tl := [(0, v131), (0, 0)]) (st' := []) (by decide +kernel) rfl (by decide +kernel) (Nat.ble_eq_true_of_le (by omega)) (m270 h135 Ih135 v131 0 (by omega) (by omega) (by omega) (by omega)) ?_
                      rintro x h142 ⟨Ih142, Qh142, rfl, f140, f141⟩
                      have Rh142 : zMR msP h h142 := Rh135.tr Qh142 (by decide +kernel)
                      have Ph142 := f136.mr Qh142 (by decide +kernel); have zPh142 := Ph142; unfold zP0 at zPh142
                      have Z : zPS h h142 := zPS_bin (by omega) (by omega) W112 N163 (by omega) W168 (by omega) (zPu.of Qh142 f140 f141) (by omega)
                      refine zwif_eq (q := 187) (nx := 183) (by decide +kernel) (fun c143 => ?_) (fun c143 => ?_)
                      · exfalso; omega
                      · refine zwW_p [(0, 1, 0), (24, 188, 0)] (q := 188) (ls' := [(2, 37), (0, a), (0, v131)]) (st' := [(0, 1)]) (by decide +kernel) rfl ?_
                        refine zwW_ret (nx := 189) (a := 1) (b := 0) (by decide +kernel) rfl (Or.inr (Or.inl ⟨rfl, by omega⟩)) ?_
                        exact ⟨Ih142, Rh142, by exact Ph142, Or.inl ⟨rfl, by exact Z⟩⟩
                  · have Rh135 : zMR msP h h135 := Rh134.tr Qh135 (by decide +kernel)
                    have zf136 := f136; unfold zP0 at zf136
                    refine zwif_eq (q := 187) (nx := 174) (by decide +kernel) (fun c144 => ?_) (fun c144 => ?_)
                    · refine zwW_p [(0, 0, 0)] (q := 188) (ls' := [(2, 37), (0, a), (0, v131)]) (st' := [(0, 0)]) (by decide +kernel) rfl ?_
                      refine zwW_ret (nx := 189) (a := 1) (b := 0) (by decide +kernel) rfl (Or.inr (Or.inl ⟨rfl, by omega⟩)) ?_
                      exact ⟨Ih135, Rh135, by exact f136, Or.inr ⟨rfl, by omega⟩⟩
                    · exfalso; omega
                · exfalso; omega
              · refine zwif_ne (q := 152) (nx := 129) (by decide +kernel) (fun c145 => ?_) (fun c145 => ?_)
                · exfalso; omega
                · refine zwW_p [(1, 0, 2), (0, 62, 0)] (q := 132) (ls' := [(2, 37), (0, a), (9, 0)]) (st' := [(0, 62), (2, 37)]) (by decide +kernel) rfl ?_
                  refine zwW_cm Ih123 (op := 60) (k' := 250) (n := 1) (kd := 13) (m := 97) (nx := 135) (r := 37) (tl := [(0, 62)]) (st' := []) (by decide +kernel) rfl (by decide +kernel) (Nat.ble_eq_true_of_le (by omega)) (m250 h123 Ih123 62) ?_
                  rintro x _ ⟨rfl, ⟨rfl, c146⟩ | ⟨rfl, c146⟩⟩
                  · refine zwif_ne (q := 152) (nx := 138) (by decide +kernel) (fun c147 => ?_) (fun c147 => ?_)
                    · refine zwW_p [(1, 0, 2)] (q := 153) (ls' := [(2, 37), (0, a), (9, 0)]) (st' := [(2, 37)]) (by decide +kernel) rfl ?_
                      refine zwW_gc Ih123 (kd := 13) (bn := 40) (n := 97) (c := 98) (nx := 156) (by decide +kernel) ?_
                      refine zwW_p [(1, 0, 2)] (q := 157) (ls' := [(2, 37), (0, a), (9, 0)]) (st' := [(2, 37), (2, 98)]) (by decide +kernel) rfl ?_
                      refine zwW_gs Ih123 (kd := 13) (bn := 42) (n := 97) (t := 0) (lo := 0) (hi := 400) (nx := 160) (by decide +kernel) ?_
                      intro v148 ev148 lv148 uv148
                      have X160 : v148 = fld h123 37 42 := by omega
                      refine zwW_al Ih123 (a1 := 98) (a2 := 98) (kd := 21) (n := 400) (t := 0) (lo := -128) (hi := 127) (nx := 161) (by decide +kernel) ⟨by decide, by decide⟩ ⟨by omega, by omega⟩ ?_
                      intro v149 ev149 lv149 uv149
                      have G161 : v149 = fld h123 98 (fld h123 37 42).toNat := by rw [ev149, X160]
                      refine zwW_p [(2, 2, 0), (1, 0, 2)] (q := 163) (ls' := [(2, 37), (0, a), (0, v149)]) (st' := [(2, 37)]) (by decide +kernel) rfl ?_
                      refine zwW_cmv Ih123 (op := 60) (k' := 268) (n := 0) (kd := 13) (m := 97) (nx := 166) (r := 37) (tl := []) (st' := []) (by decide +kernel) rfl (by decide +kernel) (Nat.ble_eq_true_of_le (by omega)) (m268 h123 Ih123 f124) ?_
                      rintro h152 ⟨Ih152, Qh152, f150, f151⟩
                      have Rh152 : zMR msP h h152 := Rh123.tr Qh152 (by decide +kernel)
                      have zf151 := f151; unfold zP0 at zf151
                      have Kh152 := Qh152.kp (by decide +kernel)
                      have N163 : zNu h123 h152 := zNu.mr Ih123 (by omega) Qh152 (by decide +kernel) (Qh152.f1 44 (by decide +kernel)) (by omega)
                      refine zwW_p [(1, 0, 2), (1, 1, 0)] (q := 168) (ls' := [(2, 37), (0, a), (0, v149)]) (st' := [(0, a), (2, 37)]) (by decide +kernel) rfl ?_
                      refine zwW_cm Ih152 (op := 60) (k' := 248) (n := 1) (kd := 13) (m := 97) (nx := 171) (r := 37) (tl := [(0, a)]) (st' := []) (by decide +kernel) rfl (by decide +kernel) (Nat.ble_eq_true_of_le (by omega)) (m248 a D0 pa HS h152 Ih152 f151 (by omega) (by omega)) ?_
                      rintro x h153 ⟨Ih153, Qh153, f154, ⟨rfl, f155⟩ | ⟨rfl, f156⟩⟩
                      · have Rh153 : zMR msP h h153 := Rh152.tr Qh153 (by decide +kernel)
                        have zf154 := f154; unfold zP0 at zf154
                        have Sh153 := f155.k Qh153
                        have W168 := f155
                        refine zwif_eq (q := 187) (nx := 174) (by decide +kernel) (fun c157 => ?_) (fun c157 => ?_)
                        · exfalso; omega
                        · refine zwW_p [(1, 0, 2), (1, 2, 0), (0, 0, 0)] (q := 177) (ls' := [(2, 37), (0, a), (0, v149)]) (st' := [(0, 0), (0, v149), (2, 37)]) (by decide +kernel) rfl ?_
                          refine zwW_cm Ih153 (op := 60) (k' := 270) (n := 2) (kd := 13) (m := 97) (nx := 180) (r := 37) (tl := [(0, v149), (0, 0)]) (st' := []) (by decide +kernel) rfl (by decide +kernel) (Nat.ble_eq_true_of_le (by omega)) (m270 h153 Ih153 v149 0 (by omega) (by omega) (by omega) (by omega)) ?_
                          rintro x h160 ⟨Ih160, Qh160, rfl, f158, f159⟩
                          have Rh160 : zMR msP h h160 := Rh153.tr Qh160 (by decide +kernel)
                          have Ph160 := f154.mr Qh160 (by decide +kernel); have zPh160 := Ph160; unfold zP0 at zPh160
                          have Z : zPS h h160 := zPS_bin (by omega) (by omega) W112 N163 (by omega) W168 (by omega) (zPu.of Qh160 f158 f159) (by omega)
                          refine zwif_eq (q := 187) (nx := 183) (by decide +kernel) (fun c161 => ?_) (fun c161 => ?_)
                          · exfalso; omega
                          · refine zwW_p [(0, 1, 0), (24, 188, 0)] (q := 188) (ls' := [(2, 37), (0, a), (0, v149)]) (st' := [(0, 1)]) (by decide +kernel) rfl ?_
                            refine zwW_ret (nx := 189) (a := 1) (b := 0) (by decide +kernel) rfl (Or.inr (Or.inl ⟨rfl, by omega⟩)) ?_
                            exact ⟨Ih160, Rh160, by exact Ph160, Or.inl ⟨rfl, by exact Z⟩⟩
                      · have Rh153 : zMR msP h h153 := Rh152.tr Qh153 (by decide +kernel)
                        have zf154 := f154; unfold zP0 at zf154
                        refine zwif_eq (q := 187) (nx := 174) (by decide +kernel) (fun c162 => ?_) (fun c162 => ?_)
                        · refine zwW_p [(0, 0, 0)] (q := 188) (ls' := [(2, 37), (0, a), (0, v149)]) (st' := [(0, 0)]) (by decide +kernel) rfl ?_
                          refine zwW_ret (nx := 189) (a := 1) (b := 0) (by decide +kernel) rfl (Or.inr (Or.inl ⟨rfl, by omega⟩)) ?_
                          exact ⟨Ih153, Rh153, by exact f154, Or.inr ⟨rfl, by omega⟩⟩
                        · exfalso; omega
                    · exfalso; omega
                  · refine zwif_ne (q := 152) (nx := 138) (by decide +kernel) (fun c163 => ?_) (fun c163 => ?_)
                    · exfalso; omega
                    · refine zwW_p [(1, 0, 2), (0, 61, 0)] (q := 141) (ls' := [(2, 37), (0, a), (9, 0)]) (st' := [(0, 61), (2, 37)]) (by decide +kernel) rfl ?_
                      refine zwW_cm Ih123 (op := 60) (k' := 250) (n := 1) (kd := 13) (m := 97) (nx := 144) (r := 37) (tl := [(0, 61)]) (st' := []) (by decide +kernel) rfl (by decide +kernel) (Nat.ble_eq_true_of_le (by omega)) (m250 h123 Ih123 61) ?_
                      rintro x _ ⟨rfl, ⟨rfl, c164⟩ | ⟨rfl, c164⟩⟩
                      · refine zwif_ne (q := 152) (nx := 147) (by decide +kernel) (fun c165 => ?_) (fun c165 => ?_)
                        · refine zwW_p [(1, 0, 2)] (q := 153) (ls' := [(2, 37), (0, a), (9, 0)]) (st' := [(2, 37)]) (by decide +kernel) rfl ?_
                          refine zwW_gc Ih123 (kd := 13) (bn := 40) (n := 97) (c := 98) (nx := 156) (by decide +kernel) ?_
                          refine zwW_p [(1, 0, 2)] (q := 157) (ls' := [(2, 37), (0, a), (9, 0)]) (st' := [(2, 37), (2, 98)]) (by decide +kernel) rfl ?_
                          refine zwW_gs Ih123 (kd := 13) (bn := 42) (n := 97) (t := 0) (lo := 0) (hi := 400) (nx := 160) (by decide +kernel) ?_
                          intro v166 ev166 lv166 uv166
                          have X160 : v166 = fld h123 37 42 := by omega
                          refine zwW_al Ih123 (a1 := 98) (a2 := 98) (kd := 21) (n := 400) (t := 0) (lo := -128) (hi := 127) (nx := 161) (by decide +kernel) ⟨by decide, by decide⟩ ⟨by omega, by omega⟩ ?_
                          intro v167 ev167 lv167 uv167
                          have G161 : v167 = fld h123 98 (fld h123 37 42).toNat := by rw [ev167, X160]
                          refine zwW_p [(2, 2, 0), (1, 0, 2)] (q := 163) (ls' := [(2, 37), (0, a), (0, v167)]) (st' := [(2, 37)]) (by decide +kernel) rfl ?_
                          refine zwW_cmv Ih123 (op := 60) (k' := 268) (n := 0) (kd := 13) (m := 97) (nx := 166) (r := 37) (tl := []) (st' := []) (by decide +kernel) rfl (by decide +kernel) (Nat.ble_eq_true_of_le (by omega)) (m268 h123 Ih123 f124) ?_
                          rintro h170 ⟨Ih170, Qh170, f168, f169⟩
                          have Rh170 : zMR msP h h170 := Rh123.tr Qh170 (by decide +kernel)
                          have zf169 := f169; unfold zP0 at zf169
                          have Kh170 := Qh170.kp (by decide +kernel)
                          have N163 : zNu h123 h170 := zNu.mr Ih123 (by omega) Qh170 (by decide +kernel) (Qh170.f1 44 (by decide +kernel)) (by omega)
                          refine zwW_p [(1, 0, 2), (1, 1, 0)] (q := 168) (ls' := [(2, 37), (0, a), (0, v167)]) (st' := [(0, a), (2, 37)]) (by decide +kernel) rfl ?_
                          refine zwW_cm Ih170 (op := 60) (k' := 248) (n := 1) (kd := 13) (m := 97) (nx := 171) (r := 37) (tl := [(0, a)]) (st' := []) (by decide +kernel) rfl (by decide +kernel) (Nat.ble_eq_true_of_le (by omega)) (m248 a D0 pa HS h170 Ih170 f169 (by omega) (by omega)) ?_
                          rintro x h171 ⟨Ih171, Qh171, f172, ⟨rfl, f173⟩ | ⟨rfl, f174⟩⟩
                          · have Rh171 : zMR msP h h171 := Rh170.tr Qh171 (by decide +kernel)
                            have zf172 := f172; unfold zP0 at zf172
                            have Sh171 := f173.k Qh171
                            have W168 := f173
                            refine zwif_eq (q := 187) (nx := 174) (by decide +kernel) (fun c175 => ?_) (fun c175 => ?_)
                            · exfalso; omega
                            · refine zwW_p [(1, 0, 2), (1, 2, 0), (0, 0, 0)] (q := 177) (ls' := [(2, 37), (0, a), (0, v167)]) (st' := [(0, 0), (0, v167), (2, 37)]) (by decide +kernel) rfl ?_
                              refine zwW_cm Ih171 (op := 60) (k' := 270) (n := 2) (kd := 13) (m := 97) (nx := 180) (r := 37) (tl := [(0, v167), (0, 0)]) (st' := []) (by decide +kernel) rfl (by decide +kernel) (Nat.ble_eq_true_of_le (by omega)) (m270 h171 Ih171 v167 0 (by omega) (by omega) (by omega) (by omega)) ?_
                              rintro x h178 ⟨Ih178, Qh178, rfl, f176, f177⟩
                              have Rh178 : zMR msP h h178 := Rh171.tr Qh178 (by decide +kernel)
                              have Ph178 := f172.mr Qh178 (by decide +kernel); have zPh178 := Ph178; unfold zP0 at zPh178
                              have Z : zPS h h178 := zPS_bin (by omega) (by omega) W112 N163 (by omega) W168 (by omega) (zPu.of Qh178 f176 f177) (by omega)
                              refine zwif_eq (q := 187) (nx := 183) (by decide +kernel) (fun c179 => ?_) (fun c179 => ?_)
                              · exfalso; omega
                              · refine zwW_p [(0, 1, 0), (24, 188, 0)] (q := 188) (ls' := [(2, 37), (0, a), (0, v167)]) (st' := [(0, 1)]) (by decide +kernel) rfl ?_
                                refine zwW_ret (nx := 189) (a := 1) (b := 0) (by decide +kernel) rfl (Or.inr (Or.inl ⟨rfl, by omega⟩)) ?_
                                exact ⟨Ih178, Rh178, by exact Ph178, Or.inl ⟨rfl, by exact Z⟩⟩
                          · have Rh171 : zMR msP h h171 := Rh170.tr Qh171 (by decide +kernel)
                            have zf172 := f172; unfold zP0 at zf172
                            refine zwif_eq (q := 187) (nx := 174) (by decide +kernel) (fun c180 => ?_) (fun c180 => ?_)
                            · refine zwW_p [(0, 0, 0)] (q := 188) (ls' := [(2, 37), (0, a), (0, v167)]) (st' := [(0, 0)]) (by decide +kernel) rfl ?_
                              refine zwW_ret (nx := 189) (a := 1) (b := 0) (by decide +kernel) rfl (Or.inr (Or.inl ⟨rfl, by omega⟩)) ?_
                              exact ⟨Ih171, Rh171, by exact f172, Or.inr ⟨rfl, by omega⟩⟩
                            · exfalso; omega
                        · exfalso; omega
                      · refine zwif_ne (q := 152) (nx := 147) (by decide +kernel) (fun c181 => ?_) (fun c181 => ?_)
                        · exfalso; omega
                        · refine zwW_p [(1, 0, 2)] (q := 148) (ls' := [(2, 37), (0, a), (9, 0)]) (st' := [(2, 37)]) (by decide +kernel) rfl ?_
                          refine zwW_cm Ih123 (op := 60) (k' := 267) (n := 0) (kd := 13) (m := 97) (nx := 151) (r := 37) (tl := []) (st' := []) (by decide +kernel) rfl (by decide +kernel) (Nat.ble_eq_true_of_le (by omega)) (m267 h123 Ih123) ?_
                          rintro x h183 ⟨Ih183, Qh183, rfl, f182⟩
                          have Rh183 : zMR msP h h183 := Rh123.tr Qh183 (by decide +kernel)
                          have Ph183 := f124.mr Qh183 (by decide +kernel); have zPh183 := Ph183; unfold zP0 at zPh183
                          refine zwW_ret (nx := 152) (a := 1) (b := 0) (by decide +kernel) rfl (Or.inr (Or.inl ⟨rfl, by omega⟩)) ?_
                          exact ⟨Ih183, Rh183, by exact Ph183, Or.inr ⟨rfl, by omega⟩⟩
            · exfalso; omega
          · have Rh123 : zMR msP h h123 := R.tr Qh123 (by decide +kernel)
            have zf124 := f124; unfold zP0 at zf124
            refine zwif_ne (q := 120) (nx := 118) (by decide +kernel) (fun c184 => ?_) (fun c184 => ?_)
            · exfalso; omega
            · refine zwW_p [(0, 0, 0)] (q := 119) (ls' := [(2, 37), (0, a), (9, 0)]) (st' := [(0, 0)]) (by decide +kernel) rfl ?_
              refine zwW_ret (nx := 120) (a := 1) (b := 0) (by decide +kernel) rfl (Or.inr (Or.inl ⟨rfl, by omega⟩)) ?_
              exact ⟨Ih123, Rh123, by exact f124, Or.inr ⟨rfl, by omega⟩⟩
        · exfalso; omega
    · exfalso; omega
-- WheelLandModel.each(I)Z
theorem m271 {sc : List Int} (a : Int) (D0 : Nat) (pa : 0 ≤ a ∧ a ≤ 8) (HS : a < 8 → zPX sc D0 248 (a + 1)) (HT : a < 8 → zPX sc D0 286 (a + 1)) (HE : a < 8 → zPX sc D0 249 (a + 1)) : zPX sc (D0 + 24) 271 a := by
  intro h I hP pc pk
  have hP0 := hP
  unfold zP0 at hP0
  have bk := I.b (a1 := 37) (a2 := 37) (j1 := 45) (j2 := 46) (lo := 0) (hi := 400) (by decide +kernel) (r := 37) (j := 45) (by decide) (by decide) (by decide) (by decide)
  have bt := I.b (a1 := 37) (a2 := 37) (j1 := 41) (j2 := 42) (lo := 0) (hi := 400) (by decide +kernel) (r := 37) (j := 41) (by decide) (by decide) (by decide) (by decide)
  refine zwC_of (D := D0 + 23) 2 (by decide +kernel) rfl (ls := [(2, 37), (0, a)]) rfl ?_
  have R : zMR msP h h := zMR.rf _ _
  refine zwW_p [(1, 0, 2), (1, 1, 0)] (q := 2) (ls' := [(2, 37), (0, a)]) (st' := [(0, a), (2, 37)]) (by decide +kernel) rfl ?_
  refine zwW_cm I (op := 60) (k' := 286) (n := 1) (kd := 13) (m := 97) (nx := 5) (r := 37) (tl := [(0, a)]) (st' := []) (by decide +kernel) rfl (by decide +kernel) (Nat.ble_eq_true_of_le (by omega)) (m286 a D0 pa HS HT HE h I hP (by omega) (by omega)) ?_
  rintro x h1 ⟨Ih1, Qh1, f2, ⟨rfl, f3⟩ | ⟨rfl, f4⟩⟩
  · have Rh1 : zMR msP h h1 := R.tr Qh1 (by decide +kernel)
    have zf2 := f2; unfold zP0 at zf2
    have Sh1 := f3.k Qh1
    refine zwif_ne (q := 10) (nx := 8) (by decide +kernel) (fun c5 => ?_) (fun c5 => ?_)
    · have L6 : ∀ (n : Nat) (hL6 : Hp), n = (fld hL6 37 41 - fld hL6 37 42).toNat → (zPS h hL6) → (zP0 hL6) → zI hL6 → zMR msP h hL6 → zwW sc (D0 + 23) 271 10 [(2, 37), (0, a)] [] hL6 (zwRt 0 (zPQ h)) := by
        intro n
        induction n using Nat.strongRecOn with
        | ind n IHL6 =>
          intro hL6 hnL6 iL6_0 iL6_1 IhL6 RhL6
          have ShL6 := iL6_0.k RhL6
          have yhL6 := iL6_1; unfold zP0 at yhL6
          refine zwW_p [(1, 0, 2), (0, -31, 2)] (q := 14) (ls' := [(2, 37), (0, a)]) (st' := [(2, -31), (2, 37)]) (by decide +kernel) rfl ?_
          refine zwW_cm IhL6 (op := 60) (k' := 246) (n := 1) (kd := 13) (m := 97) (nx := 17) (r := 37) (tl := [(2, -31)]) (st' := []) (by decide +kernel) rfl (by decide +kernel) (Nat.ble_eq_true_of_le (by omega)) (m246 hL6 IhL6 (-31) (by omega) iL6_1) ?_
          rintro x _ ⟨rfl, ⟨rfl, c7⟩ | ⟨rfl, c7⟩⟩
          · refine zwif_eq (q := 45) (nx := 20) (by decide +kernel) (fun c8 => ?_) (fun c8 => ?_)
            · exfalso; omega
            · refine zwW_p [(1, 0, 2)] (q := 21) (ls' := [(2, 37), (0, a)]) (st' := [(2, 37)]) (by decide +kernel) rfl ?_
              refine zwW_cmv IhL6 (op := 60) (k' := 268) (n := 0) (kd := 13) (m := 97) (nx := 24) (r := 37) (tl := []) (st' := []) (by decide +kernel) rfl (by decide +kernel) (Nat.ble_eq_true_of_le (by omega)) (m268 hL6 IhL6 iL6_1) ?_
              rintro h11 ⟨Ih11, Qh11, f9, f10⟩
              have Rh11 : zMR msP h h11 := RhL6.tr Qh11 (by decide +kernel)
              have zf10 := f10; unfold zP0 at zf10
              have Kh11 := Qh11.kp (by decide +kernel)
              have N21 : zNu hL6 h11 := zNu.mr IhL6 (by omega) Qh11 (by decide +kernel) (Qh11.f1 44 (by decide +kernel)) (by omega)
              refine zwW_p [(1, 0, 2), (1, 1, 0)] (q := 26) (ls' := [(2, 37), (0, a)]) (st' := [(0, a), (2, 37)]) (by decide +kernel) rfl ?_
              refine zwW_cm Ih11 (op := 60) (k' := 286) (n := 1) (kd := 13) (m := 97) (nx := 29) (r := 37) (tl := [(0, a)]) (st' := []) (by decide +kernel) rfl (by decide +kernel) (Nat.ble_eq_true_of_le (by omega)) (m286 a D0 pa HS HT HE h11 Ih11 f10 (by omega) (by omega)) ?_
              rintro x h12 ⟨Ih12, Qh12, f13, ⟨rfl, f14⟩ | ⟨rfl, f15⟩⟩
              · have Rh12 : zMR msP h h12 := Rh11.tr Qh12 (by decide +kernel)
                have zf13 := f13; unfold zP0 at zf13
                have Sh12 := f14.k Qh12
                have W26 := f14
                refine zwif_ne (q := 34) (nx := 32) (by decide +kernel) (fun c16 => ?_) (fun c16 => ?_)
                · refine zwW_p [(1, 0, 2), (0, 38, 0), (0, 0, 0)] (q := 38) (ls' := [(2, 37), (0, a)]) (st' := [(0, 0), (0, 38), (2, 37)]) (by decide +kernel) rfl ?_
                  refine zwW_cm Ih12 (op := 60) (k' := 270) (n := 2) (kd := 13) (m := 97) (nx := 41) (r := 37) (tl := [(0, 38), (0, 0)]) (st' := []) (by decide +kernel) rfl (by decide +kernel) (Nat.ble_eq_true_of_le (by omega)) (m270 h12 Ih12 38 0 (by omega) (by omega) (by omega) (by omega)) ?_
                  rintro x h19 ⟨Ih19, Qh19, rfl, f17, f18⟩
                  have Rh19 : zMR msP h h19 := Rh12.tr Qh19 (by decide +kernel)
                  have Ph19 := f13.mr Qh19 (by decide +kernel); have zPh19 := Ph19; unfold zP0 at zPh19
                  have Z38 : zPS h h19 := zPS_bin (by omega) (by omega) iL6_0 N21 (by omega) W26 (by omega) (zPu.of Qh19 f17 f18) (by omega)
                  have Sh19 := Z38.k Rh19
                  have Th19 := Qh19.f1 42 (by decide +kernel)
                  refine zwW_p [(15, 0, 0), (24, 10, 0)] (q := 10) (ls' := [(2, 37), (0, a)]) (st' := []) (by decide +kernel) rfl ?_
                  exact IHL6 (fld h19 37 41 - fld h19 37 42).toNat (by omega) h19 rfl (Z38) (Ph19) Ih19 Rh19
                · exfalso; omega
              · have Rh12 : zMR msP h h12 := Rh11.tr Qh12 (by decide +kernel)
                have zf13 := f13; unfold zP0 at zf13
                refine zwif_ne (q := 34) (nx := 32) (by decide +kernel) (fun c20 => ?_) (fun c20 => ?_)
                · exfalso; omega
                · refine zwW_p [(0, 0, 0)] (q := 33) (ls' := [(2, 37), (0, a)]) (st' := [(0, 0)]) (by decide +kernel) rfl ?_
                  refine zwW_ret (nx := 34) (a := 1) (b := 0) (by decide +kernel) rfl (Or.inr (Or.inl ⟨rfl, by omega⟩)) ?_
                  exact ⟨Ih12, Rh12, by exact f13, Or.inr ⟨rfl, by omega⟩⟩
          · refine zwif_eq (q := 45) (nx := 20) (by decide +kernel) (fun c21 => ?_) (fun c21 => ?_)
            · have Z := iL6_0
              refine zwW_p [(0, 1, 0)] (q := 46) (ls' := [(2, 37), (0, a)]) (st' := [(0, 1)]) (by decide +kernel) rfl ?_
              refine zwW_ret (nx := 47) (a := 1) (b := 0) (by decide +kernel) rfl (Or.inr (Or.inl ⟨rfl, by omega⟩)) ?_
              exact ⟨IhL6, RhL6, by exact iL6_1, Or.inl ⟨rfl, by exact Z⟩⟩
            · exfalso; omega
      exact L6 _ h1 rfl (f3) (f2) Ih1 Rh1
    · exfalso; omega
  · have Rh1 : zMR msP h h1 := R.tr Qh1 (by decide +kernel)
    have zf2 := f2; unfold zP0 at zf2
    refine zwif_ne (q := 10) (nx := 8) (by decide +kernel) (fun c22 => ?_) (fun c22 => ?_)
    · exfalso; omega
    · refine zwW_p [(0, 0, 0)] (q := 9) (ls' := [(2, 37), (0, a)]) (st' := [(0, 0)]) (by decide +kernel) rfl ?_
      refine zwW_ret (nx := 10) (a := 1) (b := 0) (by decide +kernel) rfl (Or.inr (Or.inl ⟨rfl, by omega⟩)) ?_
      exact ⟨Ih1, Rh1, by exact f2, Or.inr ⟨rfl, by omega⟩⟩
-- WheelLandModel.either(I)Z
theorem m249 {sc : List Int} (a : Int) (D0 : Nat) (pa : 0 ≤ a ∧ a ≤ 8) (HS : a < 8 → zPX sc D0 248 (a + 1)) (HT : a < 8 → zPX sc D0 286 (a + 1)) (HE : a < 8 → zPX sc D0 249 (a + 1)) : zPX sc (D0 + 25) 249 a := by
  intro h I hP pc pk
  have hP0 := hP
  unfold zP0 at hP0
  have bk := I.b (a1 := 37) (a2 := 37) (j1 := 45) (j2 := 46) (lo := 0) (hi := 400) (by decide +kernel) (r := 37) (j := 45) (by decide) (by decide) (by decide) (by decide)
  have bt := I.b (a1 := 37) (a2 := 37) (j1 := 41) (j2 := 42) (lo := 0) (hi := 400) (by decide +kernel) (r := 37) (j := 41) (by decide) (by decide) (by decide) (by decide)
  refine zwC_of (D := D0 + 24) 2 (by decide +kernel) rfl (ls := [(2, 37), (0, a)]) rfl ?_
  have R : zMR msP h h := zMR.rf _ _
  refine zwW_p [(1, 0, 2), (1, 1, 0)] (q := 2) (ls' := [(2, 37), (0, a)]) (st' := [(0, a), (2, 37)]) (by decide +kernel) rfl ?_
  refine zwW_cm I (op := 60) (k' := 271) (n := 1) (kd := 13) (m := 97) (nx := 5) (r := 37) (tl := [(0, a)]) (st' := []) (by decide +kernel) rfl (by decide +kernel) (Nat.ble_eq_true_of_le (by omega)) (m271 a D0 pa HS HT HE h I hP (by omega) (by omega)) ?_
  rintro x h1 ⟨Ih1, Qh1, f2, ⟨rfl, f3⟩ | ⟨rfl, f4⟩⟩
  · have Rh1 : zMR msP h h1 := R.tr Qh1 (by decide +kernel)
    have zf2 := f2; unfold zP0 at zf2
    have Sh1 := f3.k Qh1
    refine zwif_ne (q := 10) (nx := 8) (by decide +kernel) (fun c5 => ?_) (fun c5 => ?_)
    · have L6 : ∀ (n : Nat) (hL6 : Hp), n = (fld hL6 37 41 - fld hL6 37 42).toNat → (zPS h hL6) → (zP0 hL6) → zI hL6 → zMR msP h hL6 → zwW sc (D0 + 24) 249 10 [(2, 37), (0, a)] [] hL6 (zwRt 0 (zPQ h)) := by
        intro n
        induction n using Nat.strongRecOn with
        | ind n IHL6 =>
          intro hL6 hnL6 iL6_0 iL6_1 IhL6 RhL6
          have ShL6 := iL6_0.k RhL6
          have yhL6 := iL6_1; unfold zP0 at yhL6
          refine zwW_p [(1, 0, 2), (0, -32, 2)] (q := 14) (ls' := [(2, 37), (0, a)]) (st' := [(2, -32), (2, 37)]) (by decide +kernel) rfl ?_
          refine zwW_cm IhL6 (op := 60) (k' := 246) (n := 1) (kd := 13) (m := 97) (nx := 17) (r := 37) (tl := [(2, -32)]) (st' := []) (by decide +kernel) rfl (by decide +kernel) (Nat.ble_eq_true_of_le (by omega)) (m246 hL6 IhL6 (-32) (by omega) iL6_1) ?_
          rintro x _ ⟨rfl, ⟨rfl, c7⟩ | ⟨rfl, c7⟩⟩
          · refine zwif_eq (q := 45) (nx := 20) (by decide +kernel) (fun c8 => ?_) (fun c8 => ?_)
            · exfalso; omega
            · refine zwW_p [(1, 0, 2)] (q := 21) (ls' := [(2, 37), (0, a)]) (st' := [(2, 37)]) (by decide +kernel) rfl ?_
              refine zwW_cmv IhL6 (op := 60) (k' := 268) (n := 0) (kd := 13) (m := 97) (nx := 24) (r := 37) (tl := []) (st' := []) (by decide +kernel) rfl (by decide +kernel) (Nat.ble_eq_true_of_le (by omega)) (m268 hL6 IhL6 iL6_1) ?_
              rintro h11 ⟨Ih11, Qh11, f9, f10⟩
              have Rh11 : zMR msP h h11 := RhL6.tr Qh11 (by decide +kernel)
              have zf10 := f10; unfold zP0 at zf10
              have Kh11 := Qh11.kp (by decide +kernel)
              have N21 : zNu hL6 h11 := zNu.mr IhL6 (by omega) Qh11 (by decide +kernel) (Qh11.f1 44 (by decide +kernel)) (by omega)
              refine zwW_p [(1, 0, 2), (1, 1, 0)] (q := 26) (ls' := [(2, 37), (0, a)]) (st' := [(0, a), (2, 37)]) (by decide +kernel) rfl ?_
              refine zwW_cm Ih11 (op := 60) (k' := 271) (n := 1) (kd := 13) (m := 97) (nx := 29) (r := 37) (tl := [(0, a)]) (st' := []) (by decide +kernel) rfl (by decide +kernel) (Nat.ble_eq_true_of_le (by omega)) (m271 a D0 pa HS HT HE h11 Ih11 f10 (by omega) (by omega)) ?_
              rintro x h12 ⟨Ih12, Qh12, f13, ⟨rfl, f14⟩ | ⟨rfl, f15⟩⟩
              · have Rh12 : zMR msP h h12 := Rh11.tr Qh12 (by decide +kernel)
                have zf13 := f13; unfold zP0 at zf13
                have Sh12 := f14.k Qh12
                have W26 := f14
                refine zwif_ne (q := 34) (nx := 32) (by decide +kernel) (fun c16 => ?_) (fun c16 => ?_)
                · refine zwW_p [(1, 0, 2), (0, 124, 0), (0, 0, 0)] (q := 38) (ls' := [(2, 37), (0, a)]) (st' := [(0, 0), (0, 124), (2, 37)]) (by decide +kernel) rfl ?_
                  refine zwW_cm Ih12 (op := 60) (k' := 270) (n := 2) (kd := 13) (m := 97) (nx := 41) (r := 37) (tl := [(0, 124), (0, 0)]) (st' := []) (by decide +kernel) rfl (by decide +kernel) (Nat.ble_eq_true_of_le (by omega)) (m270 h12 Ih12 124 0 (by omega) (by omega) (by omega) (by omega)) ?_
                  rintro x h19 ⟨Ih19, Qh19, rfl, f17, f18⟩
                  have Rh19 : zMR msP h h19 := Rh12.tr Qh19 (by decide +kernel)
                  have Ph19 := f13.mr Qh19 (by decide +kernel); have zPh19 := Ph19; unfold zP0 at zPh19
                  have Z38 : zPS h h19 := zPS_bin (by omega) (by omega) iL6_0 N21 (by omega) W26 (by omega) (zPu.of Qh19 f17 f18) (by omega)
                  have Sh19 := Z38.k Rh19
                  have Th19 := Qh19.f1 42 (by decide +kernel)
                  refine zwW_p [(15, 0, 0), (24, 10, 0)] (q := 10) (ls' := [(2, 37), (0, a)]) (st' := []) (by decide +kernel) rfl ?_
                  exact IHL6 (fld h19 37 41 - fld h19 37 42).toNat (by omega) h19 rfl (Z38) (Ph19) Ih19 Rh19
                · exfalso; omega
              · have Rh12 : zMR msP h h12 := Rh11.tr Qh12 (by decide +kernel)
                have zf13 := f13; unfold zP0 at zf13
                refine zwif_ne (q := 34) (nx := 32) (by decide +kernel) (fun c20 => ?_) (fun c20 => ?_)
                · exfalso; omega
                · refine zwW_p [(0, 0, 0)] (q := 33) (ls' := [(2, 37), (0, a)]) (st' := [(0, 0)]) (by decide +kernel) rfl ?_
                  refine zwW_ret (nx := 34) (a := 1) (b := 0) (by decide +kernel) rfl (Or.inr (Or.inl ⟨rfl, by omega⟩)) ?_
                  exact ⟨Ih12, Rh12, by exact f13, Or.inr ⟨rfl, by omega⟩⟩
          · refine zwif_eq (q := 45) (nx := 20) (by decide +kernel) (fun c21 => ?_) (fun c21 => ?_)
            · have Z := iL6_0
              refine zwW_p [(0, 1, 0)] (q := 46) (ls' := [(2, 37), (0, a)]) (st' := [(0, 1)]) (by decide +kernel) rfl ?_
              refine zwW_ret (nx := 47) (a := 1) (b := 0) (by decide +kernel) rfl (Or.inr (Or.inl ⟨rfl, by omega⟩)) ?_
              exact ⟨IhL6, RhL6, by exact iL6_1, Or.inl ⟨rfl, by exact Z⟩⟩
            · exfalso; omega
      exact L6 _ h1 rfl (f3) (f2) Ih1 Rh1
    · exfalso; omega
  · have Rh1 : zMR msP h h1 := R.tr Qh1 (by decide +kernel)
    have zf2 := f2; unfold zP0 at zf2
    refine zwif_ne (q := 10) (nx := 8) (by decide +kernel) (fun c22 => ?_) (fun c22 => ?_)
    · exfalso; omega
    · refine zwW_p [(0, 0, 0)] (q := 9) (ls' := [(2, 37), (0, a)]) (st' := [(0, 0)]) (by decide +kernel) rfl ?_
      refine zwW_ret (nx := 10) (a := 1) (b := 0) (by decide +kernel) rfl (Or.inr (Or.inl ⟨rfl, by omega⟩)) ?_
      exact ⟨Ih1, Rh1, by exact f2, Or.inr ⟨rfl, by omega⟩⟩
