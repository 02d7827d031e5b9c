/-! contracts of methods -/
-- WheelLandModel.factor(I)Z
theorem m285_q {sc : List Int} (a : Int) (D0 : Nat) (pa : 0 ≤ a ∧ a ≤ 8) (o : Bool) (sub : pT → Nat → pQ → pR) (ho : (a < 8 ∧ o = true) ∨ (8 ≤ a ∧ o = false)) (hs : ∀ (t : pT) (n : Nat), pG n (sub t n)) (HS : a < 8 → mX sc D0 248 (a + 1) sub) : mX sc (D0 + 20) 285 a (fun t n => pFac t n o (sub t n)) := by
  intro h I t n w0 s B Q0 W0 pc pf
  have bc := I.b (a1 := 37) (a2 := 37) (j1 := 47) (j2 := 48) (lo := -1) (hi := 4) (by decide +kernel) (r := 37) (j := 47) (by decide) (by decide) (by decide) (by decide)
  have B2 := B.2.1
  have O0 : mO h h := mO.rf
  refine zwC_of (D := D0 + 19) 3 (by decide +kernel) rfl (ls := [(2, 37), (0, a), (9, 0)]) rfl ?_
  have R : zMR msP h h := zMR.rf _ _
  refine zwW_p [(1, 0, 2), (0, 40, 0)] (q := 3) (ls' := [(2, 37), (0, a), (9, 0)]) (st' := [(0, 40), (2, 37)]) (by decide +kernel) rfl ?_
  refine zwW_cm I (op := 60) (k' := 250) (n := 1) (kd := 13) (m := 97) (nx := 6) (r := 37) (tl := [(0, 40)]) (st' := []) (by decide +kernel) rfl (by decide +kernel) (Nat.ble_eq_true_of_le (by omega)) (m250_p h I 40 t n (s).1 B (Q0).1 rfl) ?_
  rintro x _ ⟨rfl, ⟨rfl, c1⟩ | ⟨rfl, c1⟩⟩
  · refine zwif_eq (q := 56) (nx := 9) (by decide +kernel) (fun c2 => ?_) (fun c2 => ?_)
    · exfalso; omega
    · have CP := c1
      refine zwW_p [(1, 0, 2), (1, 1, 0), (0, 8, 0)] (q := 13) (ls' := [(2, 37), (0, a), (9, 0)]) (st' := [(0, 8), (0, a), (2, 37)]) (by decide +kernel) rfl ?_
      refine zwic_ge (q := 20) (nx := 16) (by decide +kernel) (fun c3 => ?_) (fun c3 => ?_)
      · refine zwW_p [(0, 0, 0)] (q := 21) (ls' := [(2, 37), (0, a), (9, 0)]) (st' := [(0, 0), (2, 37)]) (by decide +kernel) rfl ?_
        refine zwW_cm I (op := 60) (k' := 247) (n := 1) (kd := 13) (m := 97) (nx := 24) (r := 37) (tl := [(0, 0)]) (st' := []) (by decide +kernel) rfl (by decide +kernel) (Nat.ble_eq_true_of_le (by omega)) (m247_p h I 0 t n (s).1 B (Q0).1 (pf)) ?_
        rintro x h4 ⟨Ih4, Qh4, ⟨rfl, f5, f6, f7⟩ | ⟨rfl, f8, f9⟩⟩
        · exfalso; omega
        · have Rh4 : zMR msP h h4 := R.tr Qh4 (by decide +kernel)
          have Bh4 : vB t n h4 := B.fr Qh4 (by decide +kernel)
          have Oh4 : mO h h4 := (O0).tr (mO.fr Qh4 (by decide +kernel)).1
          refine zwif_eq (q := 54) (nx := 27) (by decide +kernel) (fun c10 => ?_) (fun c10 => ?_)
          · refine zwW_p [(0, 0, 0)] (q := 55) (ls' := [(2, 37), (0, a), (9, 0)]) (st' := [(0, 0)]) (by decide +kernel) rfl ?_
            refine zwW_ret (nx := 56) (a := 1) (b := 0) (by decide +kernel) rfl (Or.inr (Or.inl ⟨rfl, by omega⟩)) ?_
            refine ⟨Ih4, Rh4, by omega, Oh4, ?_⟩
            show vR t n w0 h4 0 (pFac t n o (sub t n) s)
            first
            | (rw [pFac_num rfl (by omega), show pV t n s.1 = 0 by omega]; exact mR_t (Q0) (pf))
            | (rw [pFac_wd CW.1 ⟨by omega, by omega⟩, show pV t n s.1 = 0 by omega]; exact mR_t (Q0) (pf))
            | (rw [pFac_par (ho.resolve_right (fun z => by omega)).2 CP (S31.b1 (by omega)) c1]; exact mR_t (Q0) (pf))
            | (rw [pFac_pn (ho.resolve_right (fun z => by omega)).2 CP (S31.b1 (by omega)) c1]; exact mR_f f9)
            | (rw [pFac_pf (ho.resolve_right (fun z => by omega)).2 CP (S31.b0 (by omega))]; exact S31.z (by omega))
            | (rw [pFac_no (fun z => by omega) (fun z => by omega) (fun z => by first | exact absurd z.2 rfl | exact absurd z.1 (fun z1 => by have y := ho.resolve_left (fun y => by omega); rw [z1] at y; cases y.2))]; exact mR_f f9)
            | (rw [pFac_no (fun z => by omega) (fun z => by have w := NW z.1; omega) (fun z => absurd z.2 rfl)]; exact mR_f f9)
            | (exfalso; omega)
          · exfalso; omega
      · refine zwW_p [(0, 1, 0), (24, 21, 0)] (q := 21) (ls' := [(2, 37), (0, a), (9, 0)]) (st' := [(0, 1), (2, 37)]) (by decide +kernel) rfl ?_
        refine zwW_cm I (op := 60) (k' := 247) (n := 1) (kd := 13) (m := 97) (nx := 24) (r := 37) (tl := [(0, 1)]) (st' := []) (by decide +kernel) rfl (by decide +kernel) (Nat.ble_eq_true_of_le (by omega)) (m247_p h I 1 t n (s).1 B (Q0).1 (pf)) ?_
        rintro x h11 ⟨Ih11, Qh11, ⟨rfl, f12, f13, f14⟩ | ⟨rfl, f15, f16⟩⟩
        · have Rh11 : zMR msP h h11 := R.tr Qh11 (by decide +kernel)
          have Bh11 : vB t n h11 := B.fr Qh11 (by decide +kernel)
          have RQh11 : mQ t n w0 h11 (pA t n s) := (Q0).tk Qh11 (by decide +kernel) ⟨by have z := (O0).1; omega, by have z := (O0).1; omega⟩ f13
          have Vh11 : rV n (pA t n s) := (W0).a (by omega)
          have Oh11 : mO h h11 := (O0).tr (mO.fr Qh11 (by decide +kernel)).1
          refine zwif_eq (q := 54) (nx := 27) (by decide +kernel) (fun c17 => ?_) (fun c17 => ?_)
          · exfalso; omega
          · refine zwW_p [(1, 0, 2), (1, 1, 0), (0, 1, 0)] (q := 30) (ls' := [(2, 37), (0, a), (9, 0)]) (st' := [(0, 1), (0, a), (2, 37)]) (by decide +kernel) rfl ?_
            refine zwW_add (nx := 31) (by decide +kernel) ⟨by omega, by omega⟩ ?_
            refine zwW_cm Ih11 (op := 60) (k' := 248) (n := 1) (kd := 13) (m := 97) (nx := 34) (r := 37) (tl := [(0, (a + 1))]) (st' := []) (by decide +kernel) rfl (by decide +kernel) (Nat.ble_eq_true_of_le (by omega)) (HS (by omega) h11 Ih11 t n w0 (pA t n s) Bh11 (RQh11) (Vh11.wk) (by have z := (Oh11).1; omega) (f14)) ?_
            rintro v18 h22 ⟨Ih22, Qh22, f19, f20, f21⟩
            have Rh22 : zMR msP h h22 := Rh11.tr Qh22 (by decide +kernel)
            have Bh22 : vB t n h22 := Bh11.fr Qh22 (by decide +kernel)
            have S31 : vR t n w0 h22 _ ((sub t n) (pA t n s)) := f21
            have Oh22 : mO h h22 := (Oh11).tr f20
            have Vh22 : rV n ((sub t n) (pA t n s)).2 := (Vh11).fn (hs t n)
            refine zwif_eq (q := 54) (nx := 37) (by decide +kernel) (fun c23 => ?_) (fun c23 => ?_)
            · refine zwW_p [(0, 0, 0)] (q := 55) (ls' := [(2, 37), (0, a), (9, 0)]) (st' := [(0, 0)]) (by decide +kernel) rfl ?_
              refine zwW_ret (nx := 56) (a := 1) (b := 0) (by decide +kernel) rfl (Or.inr (Or.inl ⟨rfl, by omega⟩)) ?_
              refine ⟨Ih22, Rh22, by omega, Oh22, ?_⟩
              show vR t n w0 h22 0 (pFac t n o (sub t n) s)
              first
              | (rw [pFac_num rfl (by omega), show pV t n s.1 = 0 by omega]; exact mR_t ((S31.qq (by omega))) ((S31.e (by omega))))
              | (rw [pFac_wd CW.1 ⟨by omega, by omega⟩, show pV t n s.1 = 0 by omega]; exact mR_t ((S31.qq (by omega))) ((S31.e (by omega))))
              | (rw [pFac_par (ho.resolve_right (fun z => by omega)).2 CP (S31.b1 (by omega)) c1]; exact mR_t ((S31.qq (by omega))) ((S31.e (by omega))))
              | (rw [pFac_pn (ho.resolve_right (fun z => by omega)).2 CP (S31.b1 (by omega)) c1]; exact mR_f rfl)
              | (rw [pFac_pf (ho.resolve_right (fun z => by omega)).2 CP (S31.b0 (by omega))]; exact S31.z (by omega))
              | (rw [pFac_no (fun z => by omega) (fun z => by omega) (fun z => by first | exact absurd z.2 rfl | exact absurd z.1 (fun z1 => by have y := ho.resolve_left (fun y => by omega); rw [z1] at y; cases y.2))]; exact mR_f rfl)
              | (rw [pFac_no (fun z => by omega) (fun z => by have w := NW z.1; omega) (fun z => absurd z.2 rfl)]; exact mR_f rfl)
              | (exfalso; omega)
            · refine zwW_p [(1, 0, 2), (1, 0, 2), (0, 41, 0)] (q := 41) (ls' := [(2, 37), (0, a), (9, 0)]) (st' := [(0, 41), (2, 37), (2, 37)]) (by decide +kernel) rfl ?_
              refine zwW_cm Ih22 (op := 60) (k' := 250) (n := 1) (kd := 13) (m := 97) (nx := 44) (r := 37) (tl := [(0, 41)]) (st' := [(2, 37)]) (by decide +kernel) rfl (by decide +kernel) (Nat.ble_eq_true_of_le (by omega)) (m250_p h22 Ih22 41 t n ((sub t n (pA t n s)).2).1 Bh22 ((S31.qq (by omega))).1 rfl) ?_
              rintro x _ ⟨rfl, ⟨rfl, c24⟩ | ⟨rfl, c24⟩⟩
              · refine zwW_cm Ih22 (op := 60) (k' := 247) (n := 1) (kd := 13) (m := 97) (nx := 47) (r := 37) (tl := [(0, 1)]) (st' := []) (by decide +kernel) rfl (by decide +kernel) (Nat.ble_eq_true_of_le (by omega)) (m247_p h22 Ih22 1 t n ((sub t n (pA t n s)).2).1 Bh22 ((S31.qq (by omega))).1 ((S31.e (by omega)))) ?_
                rintro x h25 ⟨Ih25, Qh25, ⟨rfl, f26, f27, f28⟩ | ⟨rfl, f29, f30⟩⟩
                · have Rh25 : zMR msP h h25 := Rh22.tr Qh25 (by decide +kernel)
                  have Bh25 : vB t n h25 := Bh22.fr Qh25 (by decide +kernel)
                  have RQh25 : mQ t n w0 h25 (pA t n ((sub t n (pA t n s)).2)) := ((S31.qq (by omega))).tk Qh25 (by decide +kernel) ⟨by have z := (Oh22).1; omega, by have z := (Oh22).1; omega⟩ f27
                  have Vh25 : rV n (pA t n ((sub t n (pA t n s)).2)) := (Vh22.wk).a (by omega)
                  have Oh25 : mO h h25 := (Oh22).tr (mO.fr Qh25 (by decide +kernel)).1
                  refine zwif_eq (q := 54) (nx := 50) (by decide +kernel) (fun c31 => ?_) (fun c31 => ?_)
                  · exfalso; omega
                  · refine zwW_p [(0, 1, 0), (24, 55, 0)] (q := 55) (ls' := [(2, 37), (0, a), (9, 0)]) (st' := [(0, 1)]) (by decide +kernel) rfl ?_
                    refine zwW_ret (nx := 56) (a := 1) (b := 0) (by decide +kernel) rfl (Or.inr (Or.inl ⟨rfl, by omega⟩)) ?_
                    refine ⟨Ih25, Rh25, by omega, Oh25, ?_⟩
                    show vR t n w0 h25 1 (pFac t n o (sub t n) s)
                    first
                    | (rw [pFac_num rfl (by omega), show pV t n s.1 = 0 by omega]; exact mR_t (RQh25) (f28))
                    | (rw [pFac_wd CW.1 ⟨by omega, by omega⟩, show pV t n s.1 = 0 by omega]; exact mR_t (RQh25) (f28))
                    | (rw [pFac_par (ho.resolve_right (fun z => by omega)).2 CP (S31.b1 (by omega)) c24]; exact mR_t (RQh25) (f28))
                    | (rw [pFac_pn (ho.resolve_right (fun z => by omega)).2 CP (S31.b1 (by omega)) c24]; exact mR_f rfl)
                    | (rw [pFac_pf (ho.resolve_right (fun z => by omega)).2 CP (S31.b0 (by omega))]; exact S31.z (by omega))
                    | (rw [pFac_no (fun z => by omega) (fun z => by omega) (fun z => by first | exact absurd z.2 rfl | exact absurd z.1 (fun z1 => by have y := ho.resolve_left (fun y => by omega); rw [z1] at y; cases y.2))]; exact mR_f rfl)
                    | (rw [pFac_no (fun z => by omega) (fun z => by have w := NW z.1; omega) (fun z => absurd z.2 rfl)]; exact mR_f rfl)
                    | (exfalso; omega)
                · exfalso; omega
              · refine zwW_cm Ih22 (op := 60) (k' := 247) (n := 1) (kd := 13) (m := 97) (nx := 47) (r := 37) (tl := [(0, 0)]) (st' := []) (by decide +kernel) rfl (by decide +kernel) (Nat.ble_eq_true_of_le (by omega)) (m247_p h22 Ih22 0 t n ((sub t n (pA t n s)).2).1 Bh22 ((S31.qq (by omega))).1 ((S31.e (by omega)))) ?_
                rintro x h32 ⟨Ih32, Qh32, ⟨rfl, f33, f34, f35⟩ | ⟨rfl, f36, f37⟩⟩
                · exfalso; omega
                · have Rh32 : zMR msP h h32 := Rh22.tr Qh32 (by decide +kernel)
                  have Bh32 : vB t n h32 := Bh22.fr Qh32 (by decide +kernel)
                  have Oh32 : mO h h32 := (Oh22).tr (mO.fr Qh32 (by decide +kernel)).1
                  refine zwif_eq (q := 54) (nx := 50) (by decide +kernel) (fun c38 => ?_) (fun c38 => ?_)
                  · refine zwW_p [(0, 0, 0)] (q := 55) (ls' := [(2, 37), (0, a), (9, 0)]) (st' := [(0, 0)]) (by decide +kernel) rfl ?_
                    refine zwW_ret (nx := 56) (a := 1) (b := 0) (by decide +kernel) rfl (Or.inr (Or.inl ⟨rfl, by omega⟩)) ?_
                    refine ⟨Ih32, Rh32, by omega, Oh32, ?_⟩
                    show vR t n w0 h32 0 (pFac t n o (sub t n) s)
                    first
                    | (rw [pFac_num rfl (by omega), show pV t n s.1 = 0 by omega]; exact mR_t ((S31.qq (by omega))) ((S31.e (by omega))))
                    | (rw [pFac_wd CW.1 ⟨by omega, by omega⟩, show pV t n s.1 = 0 by omega]; exact mR_t ((S31.qq (by omega))) ((S31.e (by omega))))
                    | (rw [pFac_par (ho.resolve_right (fun z => by omega)).2 CP (S31.b1 (by omega)) c24]; exact mR_t ((S31.qq (by omega))) ((S31.e (by omega))))
                    | (rw [pFac_pn (ho.resolve_right (fun z => by omega)).2 CP (S31.b1 (by omega)) c24]; exact mR_f f37)
                    | (rw [pFac_pf (ho.resolve_right (fun z => by omega)).2 CP (S31.b0 (by omega))]; exact S31.z (by omega))
                    | (rw [pFac_no (fun z => by omega) (fun z => by omega) (fun z => by first | exact absurd z.2 rfl | exact absurd z.1 (fun z1 => by have y := ho.resolve_left (fun y => by omega); rw [z1] at y; cases y.2))]; exact mR_f f37)
                    | (rw [pFac_no (fun z => by omega) (fun z => by have w := NW z.1; omega) (fun z => absurd z.2 rfl)]; exact mR_f f37)
                    | (exfalso; omega)
                  · exfalso; omega
        · exfalso; omega
  · refine zwif_eq (q := 56) (nx := 9) (by decide +kernel) (fun c39 => ?_) (fun c39 => ?_)
    · refine zwW_p [(1, 0, 2)] (q := 57) (ls' := [(2, 37), (0, a), (9, 0)]) (st' := [(2, 37)]) (by decide +kernel) rfl ?_
      refine zwW_cm I (op := 60) (k' := 296) (n := 0) (kd := 13) (m := 97) (nx := 60) (r := 37) (tl := []) (st' := []) (by decide +kernel) rfl (by decide +kernel) (Nat.ble_eq_true_of_le (by omega)) (m296_p h I t n (s).1 B (Q0).1) ?_
      rintro x h40 ⟨Ih40, Qh40, ⟨rfl, f41, f42⟩ | ⟨rfl, f43⟩⟩
      · have Rh40 : zMR msP h h40 := R.tr Qh40 (by decide +kernel)
        have Bh40 : vB t n h40 := B.fr Qh40 (by decide +kernel)
        have RQh40 : mQ t n w0 h40 s := (Q0).fr Qh40 (by decide +kernel) ⟨by have z := (O0).1; omega, by have z := (O0).1; omega⟩
        have Eh40 : fld h40 37 44 = -1 := (Qh40.f (a1 := 37) (a2 := 37) (j1 := 44) (j2 := 45) (by decide +kernel) ⟨by decide, by decide⟩ ⟨by decide, by decide⟩).trans pf
        have Oh40 : mO h h40 := (O0).tr (mO.fr Qh40 (by decide +kernel)).1
        refine zwif_eq (q := 103) (nx := 63) (by decide +kernel) (fun c44 => ?_) (fun c44 => ?_)
        · exfalso; omega
        · refine zwW_p [(1, 0, 2)] (q := 64) (ls' := [(2, 37), (0, a), (9, 0)]) (st' := [(2, 37)]) (by decide +kernel) rfl ?_
          refine zwW_gs Ih40 (kd := 13) (bn := 46) (n := 97) (t := 0) (lo := -2147483648) (hi := 2147483647) (nx := 67) (by decide +kernel) ?_
          intro v45 ev45 lv45 uv45
          refine zwW_p [(2, 2, 0)] (q := 68) (ls' := [(2, 37), (0, a), (0, v45)]) (st' := []) (by decide +kernel) rfl ?_
          have NV := f42
          refine zwW_p [(1, 0, 2), (1, 2, 0), (0, 9999, 0)] (q := 73) (ls' := [(2, 37), (0, a), (0, v45)]) (st' := [(0, 9999), (0, v45), (2, 37)]) (by decide +kernel) rfl ?_
          refine zwic_gt (q := 80) (nx := 76) (by decide +kernel) (fun c46 => ?_) (fun c46 => ?_)
          · refine zwW_p [(0, 0, 0)] (q := 81) (ls' := [(2, 37), (0, a), (0, v45)]) (st' := [(0, 0), (2, 37)]) (by decide +kernel) rfl ?_
            refine zwW_cm Ih40 (op := 60) (k' := 247) (n := 1) (kd := 13) (m := 97) (nx := 84) (r := 37) (tl := [(0, 0)]) (st' := []) (by decide +kernel) rfl (by decide +kernel) (Nat.ble_eq_true_of_le (by omega)) (m247_p h40 Ih40 0 t n (s).1 Bh40 (RQh40).1 (Eh40)) ?_
            rintro x h47 ⟨Ih47, Qh47, ⟨rfl, f48, f49, f50⟩ | ⟨rfl, f51, f52⟩⟩
            · exfalso; omega
            · have Rh47 : zMR msP h h47 := Rh40.tr Qh47 (by decide +kernel)
              have Bh47 : vB t n h47 := Bh40.fr Qh47 (by decide +kernel)
              have Oh47 : mO h h47 := (Oh40).tr (mO.fr Qh47 (by decide +kernel)).1
              refine zwif_eq (q := 101) (nx := 87) (by decide +kernel) (fun c53 => ?_) (fun c53 => ?_)
              · refine zwW_p [(0, 0, 0)] (q := 102) (ls' := [(2, 37), (0, a), (0, v45)]) (st' := [(0, 0)]) (by decide +kernel) rfl ?_
                refine zwW_ret (nx := 103) (a := 1) (b := 0) (by decide +kernel) rfl (Or.inr (Or.inl ⟨rfl, by omega⟩)) ?_
                refine ⟨Ih47, Rh47, by omega, Oh47, ?_⟩
                show vR t n w0 h47 0 (pFac t n o (sub t n) s)
                first
                | (rw [pFac_num f41 (by omega), show pV t n s.1 = v45 by omega]; exact mR_t (RQh40) (Eh40))
                | (rw [pFac_wd CW.1 ⟨by omega, by omega⟩, show pV t n s.1 = v45 by omega]; exact mR_t (RQh40) (Eh40))
                | (rw [pFac_par (ho.resolve_right (fun z => by omega)).2 CP (S31.b1 (by omega)) c1]; exact mR_t (RQh40) (Eh40))
                | (rw [pFac_pn (ho.resolve_right (fun z => by omega)).2 CP (S31.b1 (by omega)) c1]; exact mR_f f52)
                | (rw [pFac_pf (ho.resolve_right (fun z => by omega)).2 CP (S31.b0 (by omega))]; exact S31.z (by omega))
                | (rw [pFac_no (fun z => by omega) (fun z => by omega) (fun z => by first | exact absurd z.2 c1 | exact absurd z.1 (fun z1 => by have y := ho.resolve_left (fun y => by omega); rw [z1] at y; cases y.2))]; exact mR_f f52)
                | (rw [pFac_no (fun z => by omega) (fun z => by have w := NW z.1; omega) (fun z => absurd z.2 c1)]; exact mR_f f52)
                | (exfalso; omega)
              · exfalso; omega
          · refine zwW_p [(0, 1, 0), (24, 81, 0)] (q := 81) (ls' := [(2, 37), (0, a), (0, v45)]) (st' := [(0, 1), (2, 37)]) (by decide +kernel) rfl ?_
            refine zwW_cm Ih40 (op := 60) (k' := 247) (n := 1) (kd := 13) (m := 97) (nx := 84) (r := 37) (tl := [(0, 1)]) (st' := []) (by decide +kernel) rfl (by decide +kernel) (Nat.ble_eq_true_of_le (by omega)) (m247_p h40 Ih40 1 t n (s).1 Bh40 (RQh40).1 (Eh40)) ?_
            rintro x h54 ⟨Ih54, Qh54, ⟨rfl, f55, f56, f57⟩ | ⟨rfl, f58, f59⟩⟩
            · have Rh54 : zMR msP h h54 := Rh40.tr Qh54 (by decide +kernel)
              have Bh54 : vB t n h54 := Bh40.fr Qh54 (by decide +kernel)
              have RQh54 : mQ t n w0 h54 (pA t n s) := (RQh40).tk Qh54 (by decide +kernel) ⟨by have z := (Oh40).1; omega, by have z := (Oh40).1; omega⟩ f56
              have Vh54 : rV n (pA t n s) := (W0).a (by omega)
              have Oh54 : mO h h54 := (Oh40).tr (mO.fr Qh54 (by decide +kernel)).1
              refine zwif_eq (q := 101) (nx := 87) (by decide +kernel) (fun c60 => ?_) (fun c60 => ?_)
              · exfalso; omega
              · refine zwW_p [(1, 0, 2), (0, 110, 0), (1, 2, 0)] (q := 91) (ls' := [(2, 37), (0, a), (0, v45)]) (st' := [(0, v45), (0, 110), (2, 37)]) (by decide +kernel) rfl ?_
                refine zwW_cm Ih54 (op := 60) (k' := 270) (n := 2) (kd := 13) (m := 97) (nx := 94) (r := 37) (tl := [(0, 110), (0, v45)]) (st' := []) (by decide +kernel) rfl (by decide +kernel) (Nat.ble_eq_true_of_le (by omega)) (m270 h54 Ih54 110 v45 (by omega) (by omega) (by have z := (Oh54).1; omega) ((Vh54).mlt Bh54 RQh54)) ?_
                rintro x h64 ⟨Ih64, Qh64, rfl, f61, f62, f63⟩
                have Rh64 : zMR msP h h64 := Rh54.tr Qh64 (by decide +kernel)
                have Bh64 : vB t n h64 := Bh54.fr Qh64 (by decide +kernel)
                have RQh64 : mQ t n w0 h64 (pW v45 (pA t n s)) := (RQh54).put Qh64 (by decide +kernel) f61 f62 (eEn_n) (Or.inl ⟨rfl, by omega⟩)
                have Eh64 : fld h64 37 44 = -1 := (Qh64.f (a1 := 37) (a2 := 37) (j1 := 44) (j2 := 45) (by decide +kernel) ⟨by decide, by decide⟩ ⟨by decide, by decide⟩).trans f57
                have Oh64 : mO h h64 := (Oh54).tr (mO.put Qh64 (by decide +kernel) f63)
                refine zwif_eq (q := 101) (nx := 97) (by decide +kernel) (fun c65 => ?_) (fun c65 => ?_)
                · exfalso; omega
                · refine zwW_p [(0, 1, 0), (24, 102, 0)] (q := 102) (ls' := [(2, 37), (0, a), (0, v45)]) (st' := [(0, 1)]) (by decide +kernel) rfl ?_
                  refine zwW_ret (nx := 103) (a := 1) (b := 0) (by decide +kernel) rfl (Or.inr (Or.inl ⟨rfl, by omega⟩)) ?_
                  refine ⟨Ih64, Rh64, by omega, Oh64, ?_⟩
                  show vR t n w0 h64 1 (pFac t n o (sub t n) s)
                  first
                  | (rw [pFac_num f41 (by omega), show pV t n s.1 = v45 by omega]; exact mR_t (RQh64) (Eh64))
                  | (rw [pFac_wd CW.1 ⟨by omega, by omega⟩, show pV t n s.1 = v45 by omega]; exact mR_t (RQh64) (Eh64))
                  | (rw [pFac_par (ho.resolve_right (fun z => by omega)).2 CP (S31.b1 (by omega)) c1]; exact mR_t (RQh64) (Eh64))
                  | (rw [pFac_pn (ho.resolve_right (fun z => by omega)).2 CP (S31.b1 (by omega)) c1]; exact mR_f rfl)
                  | (rw [pFac_pf (ho.resolve_right (fun z => by omega)).2 CP (S31.b0 (by omega))]; exact S31.z (by omega))
                  | (rw [pFac_no (fun z => by omega) (fun z => by omega) (fun z => by first | exact absurd z.2 c1 | exact absurd z.1 (fun z1 => by have y := ho.resolve_left (fun y => by omega); rw [z1] at y; cases y.2))]; exact mR_f rfl)
                  | (rw [pFac_no (fun z => by omega) (fun z => by have w := NW z.1; omega) (fun z => absurd z.2 c1)]; exact mR_f rfl)
                  | (exfalso; omega)
            · exfalso; omega
      · have Rh40 : zMR msP h h40 := R.tr Qh40 (by decide +kernel)
        have Bh40 : vB t n h40 := B.fr Qh40 (by decide +kernel)
        have RQh40 : mQ t n w0 h40 s := (Q0).fr Qh40 (by decide +kernel) ⟨by have z := (O0).1; omega, by have z := (O0).1; omega⟩
        have Eh40 : fld h40 37 44 = -1 := (Qh40.f (a1 := 37) (a2 := 37) (j1 := 44) (j2 := 45) (by decide +kernel) ⟨by decide, by decide⟩ ⟨by decide, by decide⟩).trans pf
        have Oh40 : mO h h40 := (O0).tr (mO.fr Qh40 (by decide +kernel)).1
        refine zwif_eq (q := 103) (nx := 63) (by decide +kernel) (fun c66 => ?_) (fun c66 => ?_)
        · refine zwW_p [(0, 0, 0), (2, 2, 0)] (q := 105) (ls' := [(2, 37), (0, a), (0, 0)]) (st' := []) (by decide +kernel) rfl ?_
          have L67 : ∀ (n0 : Nat) (kL67 : Int), n0 = ((1000 - kL67)).toNat → (0 ≤ kL67 ∧ kL67 ≤ 13) → (∀ j : Nat, (j : Int) < kL67 → ¬ (pK t n s.1 = 1 ∧ pV t n s.1 = (j : Int))) → zwW sc (D0 + 19) 285 105 [(2, 37), (0, a), (0, kL67)] [] h40 (zwRt 0 (fun x g => zI g ∧ zMR msP h g ∧ (0 ≤ x ∧ x ≤ 1) ∧ mO h g ∧ vR t n w0 g x (pFac t n o (sub t n) s))) := by
            intro n0
            induction n0 using Nat.strongRecOn with
            | ind n0 IHL67 =>
              intro kL67 hnL67 iL67_0 iL67_1
              refine zwW_p [(1, 2, 0), (0, 13, 0)] (q := 108) (ls' := [(2, 37), (0, a), (0, kL67)]) (st' := [(0, 13), (0, kL67)]) (by decide +kernel) rfl ?_
              refine zwic_ge (q := 154) (nx := 111) (by decide +kernel) (fun c68 => ?_) (fun c68 => ?_)
              · have NW : pK t n s.1 = 1 → ¬ (0 ≤ pV t n s.1 ∧ pV t n s.1 ≤ 12) := fun z z2 => iL67_1 (pV t n s.1).toNat (by omega) ⟨z, by omega⟩
                refine zwW_p [(1, 0, 2)] (q := 155) (ls' := [(2, 37), (0, a), (0, kL67)]) (st' := [(2, 37)]) (by decide +kernel) rfl ?_
                refine zwW_cm Ih40 (op := 60) (k' := 267) (n := 0) (kd := 13) (m := 97) (nx := 158) (r := 37) (tl := []) (st' := []) (by decide +kernel) rfl (by decide +kernel) (Nat.ble_eq_true_of_le (by omega)) (m267_p h40 Ih40 (Eh40)) ?_
                rintro x h70 ⟨Ih70, Qh70, rfl, f69⟩
                have Rh70 : zMR msP h h70 := Rh40.tr Qh70 (by decide +kernel)
                have Bh70 : vB t n h70 := Bh40.fr Qh70 (by decide +kernel)
                have Oh70 : mO h h70 := (Oh40).tr (mO.fr Qh70 (by decide +kernel)).1
                refine zwW_ret (nx := 159) (a := 1) (b := 0) (by decide +kernel) rfl (Or.inr (Or.inl ⟨rfl, by omega⟩)) ?_
                refine ⟨Ih70, Rh70, by omega, Oh70, ?_⟩
                show vR t n w0 h70 0 (pFac t n o (sub t n) s)
                first
                | (rw [pFac_num f43 (by omega), show pV t n s.1 = kL67 by omega]; exact mR_t (RQh40) (Eh40))
                | (rw [pFac_wd CW.1 ⟨by omega, by omega⟩, show pV t n s.1 = kL67 by omega]; exact mR_t (RQh40) (Eh40))
                | (rw [pFac_par (ho.resolve_right (fun z => by omega)).2 CP (S31.b1 (by omega)) c1]; exact mR_t (RQh40) (Eh40))
                | (rw [pFac_pn (ho.resolve_right (fun z => by omega)).2 CP (S31.b1 (by omega)) c1]; exact mR_f (f69.trans (RQh40).1.1))
                | (rw [pFac_pf (ho.resolve_right (fun z => by omega)).2 CP (S31.b0 (by omega))]; exact S31.z (by omega))
                | (rw [pFac_no (fun z => by omega) (fun z => by omega) (fun z => by first | exact absurd z.2 c1 | exact absurd z.1 (fun z1 => by have y := ho.resolve_left (fun y => by omega); rw [z1] at y; cases y.2))]; exact mR_f (f69.trans (RQh40).1.1))
                | (rw [pFac_no (fun z => by omega) (fun z => by have w := NW z.1; omega) (fun z => absurd z.2 c1)]; exact mR_f (f69.trans (RQh40).1.1))
                | (exfalso; omega)
              · refine zwW_p [(1, 0, 2), (1, 0, 2)] (q := 113) (ls' := [(2, 37), (0, a), (0, kL67)]) (st' := [(2, 37), (2, 37)]) (by decide +kernel) rfl ?_
                refine zwW_gc Ih40 (kd := 13) (bn := 55) (n := 97) (c := 167) (nx := 116) (by decide +kernel) ?_
                refine zwW_p [(1, 2, 0)] (q := 117) (ls' := [(2, 37), (0, a), (0, kL67)]) (st' := [(0, kL67), (2, 167), (2, 37)]) (by decide +kernel) rfl ?_
                refine zwW_wd13 Ih40 (nx := 118) (by decide +kernel) ⟨by omega, by omega⟩ ?_
                refine zwW_cm Ih40 (op := 60) (k' := 246) (n := 1) (kd := 13) (m := 97) (nx := 121) (r := 37) (tl := [(2, (-17 - kL67))]) (st' := []) (by decide +kernel) rfl (by decide +kernel) (Nat.ble_eq_true_of_le (by omega)) (m246_p h40 Ih40 (-17 - kL67) t n (s).1 ⟨by omega, by omega⟩ Bh40 (RQh40).1) ?_
                rintro x _ ⟨rfl, ⟨rfl, c71⟩ | ⟨rfl, c71⟩⟩
                · refine zwif_eq (q := 148) (nx := 124) (by decide +kernel) (fun c72 => ?_) (fun c72 => ?_)
                  · exfalso; omega
                  · have CW := c71
                    have NK2 : mWi (-17 - kL67) = (kL67).toNat := by unfold mWi; rw [if_neg (by omega), if_pos (by omega)]; omega
                    rw [NK2] at CW
                    refine zwW_p [(1, 0, 2), (0, 1, 0)] (q := 126) (ls' := [(2, 37), (0, a), (0, kL67)]) (st' := [(0, 1), (2, 37)]) (by decide +kernel) rfl ?_
                    refine zwW_cm Ih40 (op := 60) (k' := 247) (n := 1) (kd := 13) (m := 97) (nx := 129) (r := 37) (tl := [(0, 1)]) (st' := []) (by decide +kernel) rfl (by decide +kernel) (Nat.ble_eq_true_of_le (by omega)) (m247_p h40 Ih40 1 t n (s).1 Bh40 (RQh40).1 (Eh40)) ?_
                    rintro x h73 ⟨Ih73, Qh73, ⟨rfl, f74, f75, f76⟩ | ⟨rfl, f77, f78⟩⟩
                    · have Rh73 : zMR msP h h73 := Rh40.tr Qh73 (by decide +kernel)
                      have Bh73 : vB t n h73 := Bh40.fr Qh73 (by decide +kernel)
                      have RQh73 : mQ t n w0 h73 (pA t n s) := (RQh40).tk Qh73 (by decide +kernel) ⟨by have z := (Oh40).1; omega, by have z := (Oh40).1; omega⟩ f75
                      have Vh73 : rV n (pA t n s) := (W0).a (by omega)
                      have Oh73 : mO h h73 := (Oh40).tr (mO.fr Qh73 (by decide +kernel)).1
                      refine zwif_eq (q := 146) (nx := 132) (by decide +kernel) (fun c79 => ?_) (fun c79 => ?_)
                      · exfalso; omega
                      · refine zwW_p [(1, 0, 2), (0, 118, 0), (1, 2, 0)] (q := 136) (ls' := [(2, 37), (0, a), (0, kL67)]) (st' := [(0, kL67), (0, 118), (2, 37)]) (by decide +kernel) rfl ?_
                        refine zwW_cm Ih73 (op := 60) (k' := 270) (n := 2) (kd := 13) (m := 97) (nx := 139) (r := 37) (tl := [(0, 118), (0, kL67)]) (st' := []) (by decide +kernel) rfl (by decide +kernel) (Nat.ble_eq_true_of_le (by omega)) (m270 h73 Ih73 118 kL67 (by omega) (by omega) (by have z := (Oh73).1; omega) ((Vh73).mlt Bh73 RQh73)) ?_
                        rintro x h83 ⟨Ih83, Qh83, rfl, f80, f81, f82⟩
                        have Rh83 : zMR msP h h83 := Rh73.tr Qh83 (by decide +kernel)
                        have Bh83 : vB t n h83 := Bh73.fr Qh83 (by decide +kernel)
                        have RQh83 : mQ t n w0 h83 (pW (-1 - kL67) (pA t n s)) := (RQh73).put Qh83 (by decide +kernel) f80 f81 (eEn_v) (Or.inr (Or.inl ⟨rfl, by omega, by omega⟩))
                        have Eh83 : fld h83 37 44 = -1 := (Qh83.f (a1 := 37) (a2 := 37) (j1 := 44) (j2 := 45) (by decide +kernel) ⟨by decide, by decide⟩ ⟨by decide, by decide⟩).trans f76
                        have Oh83 : mO h h83 := (Oh73).tr (mO.put Qh83 (by decide +kernel) f82)
                        refine zwif_eq (q := 146) (nx := 142) (by decide +kernel) (fun c84 => ?_) (fun c84 => ?_)
                        · exfalso; omega
                        · refine zwW_p [(0, 1, 0), (24, 147, 0)] (q := 147) (ls' := [(2, 37), (0, a), (0, kL67)]) (st' := [(0, 1)]) (by decide +kernel) rfl ?_
                          refine zwW_ret (nx := 148) (a := 1) (b := 0) (by decide +kernel) rfl (Or.inr (Or.inl ⟨rfl, by omega⟩)) ?_
                          refine ⟨Ih83, Rh83, by omega, Oh83, ?_⟩
                          show vR t n w0 h83 1 (pFac t n o (sub t n) s)
                          first
                          | (rw [pFac_num f43 (by omega), show pV t n s.1 = kL67 by omega]; exact mR_t (RQh83) (Eh83))
                          | (rw [pFac_wd CW.1 ⟨by omega, by omega⟩, show pV t n s.1 = kL67 by omega]; exact mR_t (RQh83) (Eh83))
                          | (rw [pFac_par (ho.resolve_right (fun z => by omega)).2 CP (S31.b1 (by omega)) c71]; exact mR_t (RQh83) (Eh83))
                          | (rw [pFac_pn (ho.resolve_right (fun z => by omega)).2 CP (S31.b1 (by omega)) c71]; exact mR_f rfl)
                          | (rw [pFac_pf (ho.resolve_right (fun z => by omega)).2 CP (S31.b0 (by omega))]; exact S31.z (by omega))
                          | (rw [pFac_no (fun z => by omega) (fun z => by omega) (fun z => by first | exact absurd z.2 c1 | exact absurd z.1 (fun z1 => by have y := ho.resolve_left (fun y => by omega); rw [z1] at y; cases y.2))]; exact mR_f rfl)
                          | (rw [pFac_no (fun z => by omega) (fun z => by have w := NW z.1; omega) (fun z => absurd z.2 c1)]; exact mR_f rfl)
                          | (exfalso; omega)
                    · exfalso; omega
                · refine zwif_eq (q := 148) (nx := 124) (by decide +kernel) (fun c85 => ?_) (fun c85 => ?_)
                  · have CX := c71
                    have NK2 : mWi (-17 - kL67) = (kL67).toNat := by unfold mWi; rw [if_neg (by omega), if_pos (by omega)]; omega
                    rw [NK2] at CX
                    refine zwW_inc (i := 2) (c := 1) (x := kL67) (nx := 151) (by decide +kernel) rfl ⟨by omega, by omega⟩ (ls' := [(2, 37), (0, a), (0, (kL67 + 1))]) rfl ?_
                    refine zwW_p [(24, 105, 0)] (q := 105) (ls' := [(2, 37), (0, a), (0, (kL67 + 1))]) (st' := []) (by decide +kernel) rfl ?_
                    exact IHL67 ((1000 - (kL67 + 1))).toNat (by omega) (kL67 + 1) rfl (by omega) (fun j hj => by by_cases z : j = (kL67).toNat; exact z ▸ CX; exact iL67_1 j (by omega))
                  · exfalso; omega
          exact L67 _ 0 rfl (by omega) (fun j hj => by omega)
        · exfalso; omega
    · exfalso; omega
-- WheelLandModel.product(I)Z
theorem m269_q {sc : List Int} (a : Int) (D0 : Nat) (pa : 0 ≤ a ∧ a ≤ 8) (o : Bool) (sub : pT → Nat → pQ → pR) (ho : (a < 8 ∧ o = true) ∨ (8 ≤ a ∧ o = false)) (hs : ∀ (t : pT) (n : Nat), pG n (sub t n)) (HS : a < 8 → mX sc D0 248 (a + 1) sub) : mX sc (D0 + 21) 269 a (fun t n => pPro t n (pFac t n o (sub t n))) := by
  intro h I t n w0 s B Q0 W0 pc pf
  have bc := I.b (a1 := 37) (a2 := 37) (j1 := 47) (j2 := 48) (lo := -1) (hi := 4) (by decide +kernel) (r := 37) (j := 47) (by decide) (by decide) (by decide) (by decide)
  have B2 := B.2.1
  have O0 : mO h h := mO.rf
  refine zwC_of (D := D0 + 20) 3 (by decide +kernel) rfl (ls := [(2, 37), (0, a), (9, 0)]) rfl ?_
  have R : zMR msP h h := zMR.rf _ _
  refine zwW_p [(1, 0, 2), (1, 1, 0)] (q := 2) (ls' := [(2, 37), (0, a), (9, 0)]) (st' := [(0, a), (2, 37)]) (by decide +kernel) rfl ?_
  refine zwW_cm I (op := 60) (k' := 285) (n := 1) (kd := 13) (m := 97) (nx := 5) (r := 37) (tl := [(0, a)]) (st' := []) (by decide +kernel) rfl (by decide +kernel) (Nat.ble_eq_true_of_le (by omega)) (m285_q a D0 pa o sub ho hs HS h I t n w0 s B (Q0) (W0) (by have z := (O0).1; omega) (pf)) ?_
  rintro v1 h5 ⟨Ih5, Qh5, f2, f3, f4⟩
  have Rh5 : zMR msP h h5 := R.tr Qh5 (by decide +kernel)
  have Bh5 : vB t n h5 := B.fr Qh5 (by decide +kernel)
  have S2 : vR t n w0 h5 _ ((pFac t n o (sub t n)) s) := f4
  have Oh5 : mO h h5 := (O0).tr f3
  have Wh5 : rW n ((pFac t n o (sub t n)) s).2 := (W0).fn (pG_fac (hs t n))
  refine zwif_ne (q := 10) (nx := 8) (by decide +kernel) (fun c6 => ?_) (fun c6 => ?_)
  · have L7 : ∀ (n0 : Nat) (w2L7 : Vl) (hL7 : Hp), n0 = (fld hL7 37 41 - fld hL7 37 42).toNat → (vB t n hL7) → (mO h hL7) → (vL t n w0 hL7 (pLp t n 42 47 (pFac t n o (sub t n))) (pPro t n (pFac t n o (sub t n)) s)) → zI hL7 → zMR msP h hL7 → zwW sc (D0 + 20) 269 10 [(2, 37), (0, a), w2L7] [] hL7 (zwRt 0 (fun x g => zI g ∧ zMR msP h g ∧ (0 ≤ x ∧ x ≤ 1) ∧ mO h g ∧ vR t n w0 g x (pPro t n (pFac t n o (sub t n)) s))) := by
      intro n0
      induction n0 using Nat.strongRecOn with
      | ind n0 IHL7 =>
        intro w2L7 hL7 hnL7 iL7_0 iL7_1 iL7_2 IhL7 RhL7
        obtain ⟨kL, qL, QL, WL, EL, NL, TL⟩ := iL7_2
        have AL := QL.1.1
        have BL := iL7_0.1
        refine zwW_p [(1, 0, 2), (0, 42, 0)] (q := 13) (ls' := [(2, 37), (0, a), w2L7]) (st' := [(0, 42), (2, 37)]) (by decide +kernel) rfl ?_
        refine zwW_cm IhL7 (op := 60) (k' := 250) (n := 1) (kd := 13) (m := 97) (nx := 16) (r := 37) (tl := [(0, 42)]) (st' := []) (by decide +kernel) rfl (by decide +kernel) (Nat.ble_eq_true_of_le (by omega)) (m250_p hL7 IhL7 42 t n (qL).1 iL7_0 (QL).1 rfl) ?_
        rintro x _ ⟨rfl, ⟨rfl, c8⟩ | ⟨rfl, c8⟩⟩
        · refine zwif_ne (q := 28) (nx := 19) (by decide +kernel) (fun c9 => ?_) (fun c9 => ?_)
          · have HK : pK t n qL.1 = 42 ∨ pK t n qL.1 = 47 := by first | exact Or.inl c8 | exact Or.inr c8
            have HZ : pK t n qL.1 ≠ 0 := by omega
            have PL := pK_lt HZ
            have HM := mL_m WL HZ (show pG n (pFac t n o (sub t n)) from pG_fac (hs t n)) NL
            refine zwW_p [(1, 0, 2)] (q := 29) (ls' := [(2, 37), (0, a), w2L7]) (st' := [(2, 37)]) (by decide +kernel) rfl ?_
            refine zwW_gc IhL7 (kd := 13) (bn := 40) (n := 97) (c := 98) (nx := 32) (by decide +kernel) ?_
            refine zwW_p [(1, 0, 2)] (q := 33) (ls' := [(2, 37), (0, a), w2L7]) (st' := [(2, 37), (2, 98)]) (by decide +kernel) rfl ?_
            refine zwW_gs IhL7 (kd := 13) (bn := 42) (n := 97) (t := 0) (lo := 0) (hi := 400) (nx := 36) (by decide +kernel) ?_
            intro v10 ev10 lv10 uv10
            refine zwW_al IhL7 (a1 := 98) (a2 := 98) (kd := 21) (n := 400) (t := 0) (lo := -128) (hi := 127) (nx := 37) (by decide +kernel) ⟨by decide, by decide⟩ ⟨by omega, by omega⟩ ?_
            intro v11 ev11 lv11 uv11
            have A37 := (QL).1.1
            have E37 : v11 = t (qL.1) := by rw [ev11]; refine Eq.trans ?_ (iL7_0.2.2 (qL.1) (by omega)); first | rfl | (congr 1; omega)
            have P37 : v11 = pK t n qL.1 := by rcases HK with z | z <;> (have y := (pK_sg rfl).mp z; omega)
            refine zwW_p [(2, 2, 0), (1, 0, 2)] (q := 39) (ls' := [(2, 37), (0, a), (0, v11)]) (st' := [(2, 37)]) (by decide +kernel) rfl ?_
            refine zwW_cmv IhL7 (op := 60) (k' := 268) (n := 0) (kd := 13) (m := 97) (nx := 42) (r := 37) (tl := []) (st' := []) (by decide +kernel) rfl (by decide +kernel) (Nat.ble_eq_true_of_le (by omega)) (m268_p hL7 IhL7 t n (qL).1 iL7_0 (QL).1) ?_
            rintro h13 ⟨Ih13, Qh13, f12⟩
            have Rh13 : zMR msP h h13 := RhL7.tr Qh13 (by decide +kernel)
            have Bh13 : vB t n h13 := iL7_0.fr Qh13 (by decide +kernel)
            have RQh13 : mQ t n w0 h13 (pA t n qL) := (QL).tk Qh13 (by decide +kernel) ⟨by have z := (iL7_1).1; omega, by have z := (iL7_1).1; omega⟩ f12
            have Vh13 : rV n (pA t n qL) := (WL).a (by omega)
            have Eh13 : fld h13 37 44 = -1 := (Qh13.f (a1 := 37) (a2 := 37) (j1 := 44) (j2 := 45) (by decide +kernel) ⟨by decide, by decide⟩ ⟨by decide, by decide⟩).trans EL
            have Oh13 : mO h h13 := (iL7_1).tr (mO.fr Qh13 (by decide +kernel)).1
            refine zwW_p [(1, 0, 2), (1, 1, 0)] (q := 44) (ls' := [(2, 37), (0, a), (0, v11)]) (st' := [(0, a), (2, 37)]) (by decide +kernel) rfl ?_
            refine zwW_cm Ih13 (op := 60) (k' := 285) (n := 1) (kd := 13) (m := 97) (nx := 47) (r := 37) (tl := [(0, a)]) (st' := []) (by decide +kernel) rfl (by decide +kernel) (Nat.ble_eq_true_of_le (by omega)) (m285_q a D0 pa o sub ho hs HS h13 Ih13 t n w0 (pA t n qL) Bh13 (RQh13) (Vh13.wk) (by have z := (Oh13).1; omega) (Eh13)) ?_
            rintro v14 h18 ⟨Ih18, Qh18, f15, f16, f17⟩
            have Rh18 : zMR msP h h18 := Rh13.tr Qh18 (by decide +kernel)
            have Bh18 : vB t n h18 := Bh13.fr Qh18 (by decide +kernel)
            have S44 : vR t n w0 h18 _ ((pFac t n o (sub t n)) (pA t n qL)) := f17
            have Oh18 : mO h h18 := (Oh13).tr f16
            have Vh18 : rV n ((pFac t n o (sub t n)) (pA t n qL)).2 := (Vh13).fn (pG_fac (hs t n))
            refine zwif_ne (q := 52) (nx := 50) (by decide +kernel) (fun c19 => ?_) (fun c19 => ?_)
            · refine zwW_p [(1, 0, 2), (1, 2, 0), (0, 0, 0)] (q := 55) (ls' := [(2, 37), (0, a), (0, v11)]) (st' := [(0, 0), (0, v11), (2, 37)]) (by decide +kernel) rfl ?_
              refine zwW_cm Ih18 (op := 60) (k' := 270) (n := 2) (kd := 13) (m := 97) (nx := 58) (r := 37) (tl := [(0, v11), (0, 0)]) (st' := []) (by decide +kernel) rfl (by decide +kernel) (Nat.ble_eq_true_of_le (by omega)) (m270 h18 Ih18 v11 0 (by omega) (by omega) (by have z := (Oh18).1; omega) ((Vh18).mlt Bh18 (S44.qq (by omega)))) ?_
              rintro x h23 ⟨Ih23, Qh23, rfl, f20, f21, f22⟩
              have Rh23 : zMR msP h h23 := Rh18.tr Qh23 (by decide +kernel)
              have Bh23 : vB t n h23 := Bh18.fr Qh23 (by decide +kernel)
              have RQh23 : mQ t n w0 h23 (pW (-v11) ((pFac t n o (sub t n) (pA t n qL)).2)) := ((S44.qq (by omega))).put Qh23 (by decide +kernel) f20 f21 (eEn_o (by omega)) (Or.inr (Or.inr (by omega)))
              have Eh23 : fld h23 37 44 = -1 := (Qh23.f (a1 := 37) (a2 := 37) (j1 := 44) (j2 := 45) (by decide +kernel) ⟨by decide, by decide⟩ ⟨by decide, by decide⟩).trans (S44.e (by omega))
              have Oh23 : mO h h23 := (Oh18).tr (mO.put Qh23 (by decide +kernel) f22)
              have A55 : fld h23 37 42 = ((((pFac t n o (sub t n)) (pA t n qL)).2.1 : Nat) : Int) := (RQh23).1.1
              have B55 := (Bh23).1
              have H55 := HM.2.2
              have LB : vL t n w0 h23 (pLp t n 42 47 (pFac t n o (sub t n))) (pPro t n (pFac t n o (sub t n)) s) := mL_n (RQh23) ((Vh18).pw) (Eh23) HM.2.1 (by rw [TL]; exact pLp_n (k := kL - 1) HM.1 HK (S44.b1 (by omega)) P37)
              refine zwW_p [(15, 0, 0), (24, 10, 0)] (q := 10) (ls' := [(2, 37), (0, a), (0, v11)]) (st' := []) (by decide +kernel) rfl ?_
              exact IHL7 (fld h23 37 41 - fld h23 37 42).toNat (by omega) (0, v11) h23 rfl (Bh23) (Oh23) (LB) Ih23 Rh23
            · refine zwW_p [(0, 0, 0)] (q := 51) (ls' := [(2, 37), (0, a), (0, v11)]) (st' := [(0, 0)]) (by decide +kernel) rfl ?_
              refine zwW_ret (nx := 52) (a := 1) (b := 0) (by decide +kernel) rfl (Or.inr (Or.inl ⟨rfl, by omega⟩)) ?_
              refine ⟨Ih18, Rh18, by omega, Oh18, ?_⟩
              show vR t n w0 h18 0 (pPro t n (pFac t n o (sub t n)) s)
              first
              | (unfold pPro; rw [if_neg (S2.b0 (by omega))]; exact S2.z (by omega))
              | (rw [TL, pLp_z (Or.inr (by omega))]; exact mR_t QL EL)
              | (rw [TL, pLp_f (k := kL - 1) HM.1 HK (S44.b0 (by omega))]; exact mR_f (S44.fl (by omega)).2)
              | (exfalso; omega)
          · exfalso; omega
        · refine zwif_ne (q := 28) (nx := 19) (by decide +kernel) (fun c24 => ?_) (fun c24 => ?_)
          · exfalso; omega
          · refine zwW_p [(1, 0, 2), (0, 47, 0)] (q := 22) (ls' := [(2, 37), (0, a), w2L7]) (st' := [(0, 47), (2, 37)]) (by decide +kernel) rfl ?_
            refine zwW_cm IhL7 (op := 60) (k' := 250) (n := 1) (kd := 13) (m := 97) (nx := 25) (r := 37) (tl := [(0, 47)]) (st' := []) (by decide +kernel) rfl (by decide +kernel) (Nat.ble_eq_true_of_le (by omega)) (m250_p hL7 IhL7 47 t n (qL).1 iL7_0 (QL).1 rfl) ?_
            rintro x _ ⟨rfl, ⟨rfl, c25⟩ | ⟨rfl, c25⟩⟩
            · refine zwif_eq (q := 62) (nx := 28) (by decide +kernel) (fun c26 => ?_) (fun c26 => ?_)
              · exfalso; omega
              · have HK : pK t n qL.1 = 42 ∨ pK t n qL.1 = 47 := by first | exact Or.inl c25 | exact Or.inr c25
                have HZ : pK t n qL.1 ≠ 0 := by omega
                have PL := pK_lt HZ
                have HM := mL_m WL HZ (show pG n (pFac t n o (sub t n)) from pG_fac (hs t n)) NL
                refine zwW_p [(1, 0, 2)] (q := 29) (ls' := [(2, 37), (0, a), w2L7]) (st' := [(2, 37)]) (by decide +kernel) rfl ?_
                refine zwW_gc IhL7 (kd := 13) (bn := 40) (n := 97) (c := 98) (nx := 32) (by decide +kernel) ?_
                refine zwW_p [(1, 0, 2)] (q := 33) (ls' := [(2, 37), (0, a), w2L7]) (st' := [(2, 37), (2, 98)]) (by decide +kernel) rfl ?_
                refine zwW_gs IhL7 (kd := 13) (bn := 42) (n := 97) (t := 0) (lo := 0) (hi := 400) (nx := 36) (by decide +kernel) ?_
                intro v27 ev27 lv27 uv27
                refine zwW_al IhL7 (a1 := 98) (a2 := 98) (kd := 21) (n := 400) (t := 0) (lo := -128) (hi := 127) (nx := 37) (by decide +kernel) ⟨by decide, by decide⟩ ⟨by omega, by omega⟩ ?_
                intro v28 ev28 lv28 uv28
                have A37 := (QL).1.1
                have E37 : v28 = t (qL.1) := by rw [ev28]; refine Eq.trans ?_ (iL7_0.2.2 (qL.1) (by omega)); first | rfl | (congr 1; omega)
                have P37 : v28 = pK t n qL.1 := by rcases HK with z | z <;> (have y := (pK_sg rfl).mp z; omega)
                refine zwW_p [(2, 2, 0), (1, 0, 2)] (q := 39) (ls' := [(2, 37), (0, a), (0, v28)]) (st' := [(2, 37)]) (by decide +kernel) rfl ?_
                refine zwW_cmv IhL7 (op := 60) (k' := 268) (n := 0) (kd := 13) (m := 97) (nx := 42) (r := 37) (tl := []) (st' := []) (by decide +kernel) rfl (by decide +kernel) (Nat.ble_eq_true_of_le (by omega)) (m268_p hL7 IhL7 t n (qL).1 iL7_0 (QL).1) ?_
                rintro h30 ⟨Ih30, Qh30, f29⟩
                have Rh30 : zMR msP h h30 := RhL7.tr Qh30 (by decide +kernel)
                have Bh30 : vB t n h30 := iL7_0.fr Qh30 (by decide +kernel)
                have RQh30 : mQ t n w0 h30 (pA t n qL) := (QL).tk Qh30 (by decide +kernel) ⟨by have z := (iL7_1).1; omega, by have z := (iL7_1).1; omega⟩ f29
                have Vh30 : rV n (pA t n qL) := (WL).a (by omega)
                have Eh30 : fld h30 37 44 = -1 := (Qh30.f (a1 := 37) (a2 := 37) (j1 := 44) (j2 := 45) (by decide +kernel) ⟨by decide, by decide⟩ ⟨by decide, by decide⟩).trans EL
                have Oh30 : mO h h30 := (iL7_1).tr (mO.fr Qh30 (by decide +kernel)).1
                refine zwW_p [(1, 0, 2), (1, 1, 0)] (q := 44) (ls' := [(2, 37), (0, a), (0, v28)]) (st' := [(0, a), (2, 37)]) (by decide +kernel) rfl ?_
                refine zwW_cm Ih30 (op := 60) (k' := 285) (n := 1) (kd := 13) (m := 97) (nx := 47) (r := 37) (tl := [(0, a)]) (st' := []) (by decide +kernel) rfl (by decide +kernel) (Nat.ble_eq_true_of_le (by omega)) (m285_q a D0 pa o sub ho hs HS h30 Ih30 t n w0 (pA t n qL) Bh30 (RQh30) (Vh30.wk) (by have z := (Oh30).1; omega) (Eh30)) ?_
                rintro v31 h35 ⟨Ih35, Qh35, f32, f33, f34⟩
                have Rh35 : zMR msP h h35 := Rh30.tr Qh35 (by decide +kernel)
                have Bh35 : vB t n h35 := Bh30.fr Qh35 (by decide +kernel)
                have S44 : vR t n w0 h35 _ ((pFac t n o (sub t n)) (pA t n qL)) := f34
                have Oh35 : mO h h35 := (Oh30).tr f33
                have Vh35 : rV n ((pFac t n o (sub t n)) (pA t n qL)).2 := (Vh30).fn (pG_fac (hs t n))
                refine zwif_ne (q := 52) (nx := 50) (by decide +kernel) (fun c36 => ?_) (fun c36 => ?_)
                · refine zwW_p [(1, 0, 2), (1, 2, 0), (0, 0, 0)] (q := 55) (ls' := [(2, 37), (0, a), (0, v28)]) (st' := [(0, 0), (0, v28), (2, 37)]) (by decide +kernel) rfl ?_
                  refine zwW_cm Ih35 (op := 60) (k' := 270) (n := 2) (kd := 13) (m := 97) (nx := 58) (r := 37) (tl := [(0, v28), (0, 0)]) (st' := []) (by decide +kernel) rfl (by decide +kernel) (Nat.ble_eq_true_of_le (by omega)) (m270 h35 Ih35 v28 0 (by omega) (by omega) (by have z := (Oh35).1; omega) ((Vh35).mlt Bh35 (S44.qq (by omega)))) ?_
                  rintro x h40 ⟨Ih40, Qh40, rfl, f37, f38, f39⟩
                  have Rh40 : zMR msP h h40 := Rh35.tr Qh40 (by decide +kernel)
                  have Bh40 : vB t n h40 := Bh35.fr Qh40 (by decide +kernel)
                  have RQh40 : mQ t n w0 h40 (pW (-v28) ((pFac t n o (sub t n) (pA t n qL)).2)) := ((S44.qq (by omega))).put Qh40 (by decide +kernel) f37 f38 (eEn_o (by omega)) (Or.inr (Or.inr (by omega)))
                  have Eh40 : fld h40 37 44 = -1 := (Qh40.f (a1 := 37) (a2 := 37) (j1 := 44) (j2 := 45) (by decide +kernel) ⟨by decide, by decide⟩ ⟨by decide, by decide⟩).trans (S44.e (by omega))
                  have Oh40 : mO h h40 := (Oh35).tr (mO.put Qh40 (by decide +kernel) f39)
                  have A55 : fld h40 37 42 = ((((pFac t n o (sub t n)) (pA t n qL)).2.1 : Nat) : Int) := (RQh40).1.1
                  have B55 := (Bh40).1
                  have H55 := HM.2.2
                  have LB : vL t n w0 h40 (pLp t n 42 47 (pFac t n o (sub t n))) (pPro t n (pFac t n o (sub t n)) s) := mL_n (RQh40) ((Vh35).pw) (Eh40) HM.2.1 (by rw [TL]; exact pLp_n (k := kL - 1) HM.1 HK (S44.b1 (by omega)) P37)
                  refine zwW_p [(15, 0, 0), (24, 10, 0)] (q := 10) (ls' := [(2, 37), (0, a), (0, v28)]) (st' := []) (by decide +kernel) rfl ?_
                  exact IHL7 (fld h40 37 41 - fld h40 37 42).toNat (by omega) (0, v28) h40 rfl (Bh40) (Oh40) (LB) Ih40 Rh40
                · refine zwW_p [(0, 0, 0)] (q := 51) (ls' := [(2, 37), (0, a), (0, v28)]) (st' := [(0, 0)]) (by decide +kernel) rfl ?_
                  refine zwW_ret (nx := 52) (a := 1) (b := 0) (by decide +kernel) rfl (Or.inr (Or.inl ⟨rfl, by omega⟩)) ?_
                  refine ⟨Ih35, Rh35, by omega, Oh35, ?_⟩
                  show vR t n w0 h35 0 (pPro t n (pFac t n o (sub t n)) s)
                  first
                  | (unfold pPro; rw [if_neg (S2.b0 (by omega))]; exact S2.z (by omega))
                  | (rw [TL, pLp_z (Or.inr (by omega))]; exact mR_t QL EL)
                  | (rw [TL, pLp_f (k := kL - 1) HM.1 HK (S44.b0 (by omega))]; exact mR_f (S44.fl (by omega)).2)
                  | (exfalso; omega)
            · refine zwif_eq (q := 62) (nx := 28) (by decide +kernel) (fun c41 => ?_) (fun c41 => ?_)
              · refine zwW_p [(0, 1, 0)] (q := 63) (ls' := [(2, 37), (0, a), w2L7]) (st' := [(0, 1)]) (by decide +kernel) rfl ?_
                refine zwW_ret (nx := 64) (a := 1) (b := 0) (by decide +kernel) rfl (Or.inr (Or.inl ⟨rfl, by omega⟩)) ?_
                refine ⟨IhL7, RhL7, by omega, iL7_1, ?_⟩
                show vR t n w0 hL7 1 (pPro t n (pFac t n o (sub t n)) s)
                first
                | (unfold pPro; rw [if_neg (S2.b0 (by omega))]; exact S2.z (by omega))
                | (rw [TL, pLp_z (Or.inr (by omega))]; exact mR_t QL EL)
                | (rw [TL, pLp_f (k := kL - 1) HM.1 HK (S44.b0 (by omega))]; exact mR_f (S44.fl (by omega)).2)
                | (exfalso; omega)
              · exfalso; omega
    exact L7 _ (9, 0) h5 rfl (Bh5) (Oh5) (mL_0 S2 (by omega) (Wh5) B2) Ih5 Rh5
  · refine zwW_p [(0, 0, 0)] (q := 9) (ls' := [(2, 37), (0, a), (9, 0)]) (st' := [(0, 0)]) (by decide +kernel) rfl ?_
    refine zwW_ret (nx := 10) (a := 1) (b := 0) (by decide +kernel) rfl (Or.inr (Or.inl ⟨rfl, by omega⟩)) ?_
    refine ⟨Ih5, Rh5, by omega, Oh5, ?_⟩
    show vR t n w0 h5 0 (pPro t n (pFac t n o (sub t n)) s)
    first
    | (unfold pPro; rw [if_neg (S2.b0 (by omega))]; exact S2.z (by omega))
    | (rw [TL, pLp_z (Or.inr (by omega))]; exact mR_t QL EL)
    | (rw [TL, pLp_f (k := kL - 1) HM.1 HK (S44.b0 (by omega))]; exact mR_f (S44.fl (by omega)).2)
    | (exfalso; omega)
-- WheelLandModel.sum(I)Z
theorem m248_q {sc : List Int} (a : Int) (D0 : Nat) (pa : 0 ≤ a ∧ a ≤ 8) (o : Bool) (sub : pT → Nat → pQ → pR) (ho : (a < 8 ∧ o = true) ∨ (8 ≤ a ∧ o = false)) (hs : ∀ (t : pT) (n : Nat), pG n (sub t n)) (HS : a < 8 → mX sc D0 248 (a + 1) sub) : mX sc (D0 + 22) 248 a (fun t n => pSm0 t n (pFac t n o (sub t n))) := by
  intro h I t n w0 s B Q0 W0 pc pf
  have bc := I.b (a1 := 37) (a2 := 37) (j1 := 47) (j2 := 48) (lo := -1) (hi := 4) (by decide +kernel) (r := 37) (j := 47) (by decide) (by decide) (by decide) (by decide)
  have B2 := B.2.1
  have O0 : mO h h := mO.rf
  refine zwC_of (D := D0 + 21) 3 (by decide +kernel) rfl (ls := [(2, 37), (0, a), (9, 0)]) rfl ?_
  have R : zMR msP h h := zMR.rf _ _
  refine zwW_p [(1, 0, 2), (1, 1, 0)] (q := 2) (ls' := [(2, 37), (0, a), (9, 0)]) (st' := [(0, a), (2, 37)]) (by decide +kernel) rfl ?_
  refine zwW_cm I (op := 60) (k' := 269) (n := 1) (kd := 13) (m := 97) (nx := 5) (r := 37) (tl := [(0, a)]) (st' := []) (by decide +kernel) rfl (by decide +kernel) (Nat.ble_eq_true_of_le (by omega)) (m269_q a D0 pa o sub ho hs HS h I t n w0 s B (Q0) (W0) (by have z := (O0).1; omega) (pf)) ?_
  rintro v1 h5 ⟨Ih5, Qh5, f2, f3, f4⟩
  have Rh5 : zMR msP h h5 := R.tr Qh5 (by decide +kernel)
  have Bh5 : vB t n h5 := B.fr Qh5 (by decide +kernel)
  have S2 : vR t n w0 h5 _ ((pPro t n (pFac t n o (sub t n))) s) := f4
  have Oh5 : mO h h5 := (O0).tr f3
  have Wh5 : rW n ((pPro t n (pFac t n o (sub t n))) s).2 := (W0).fn (pG_pro (pG_fac (hs t n)))
  refine zwif_ne (q := 10) (nx := 8) (by decide +kernel) (fun c6 => ?_) (fun c6 => ?_)
  · have L7 : ∀ (n0 : Nat) (w2L7 : Vl) (hL7 : Hp), n0 = (fld hL7 37 41 - fld hL7 37 42).toNat → (vB t n hL7) → (mO h hL7) → (vL t n w0 hL7 (pLp t n 43 45 (pPro t n (pFac t n o (sub t n)))) (pSm0 t n (pFac t n o (sub t n)) s)) → zI hL7 → zMR msP h hL7 → zwW sc (D0 + 21) 248 10 [(2, 37), (0, a), w2L7] [] hL7 (zwRt 0 (fun x g => zI g ∧ zMR msP h g ∧ (0 ≤ x ∧ x ≤ 1) ∧ mO h g ∧ vR t n w0 g x (pSm0 t n (pFac t n o (sub t n)) s))) := by
      intro n0
      induction n0 using Nat.strongRecOn with
      | ind n0 IHL7 =>
        intro w2L7 hL7 hnL7 iL7_0 iL7_1 iL7_2 IhL7 RhL7
        obtain ⟨kL, qL, QL, WL, EL, NL, TL⟩ := iL7_2
        have AL := QL.1.1
        have BL := iL7_0.1
        refine zwW_p [(1, 0, 2), (0, 43, 0)] (q := 13) (ls' := [(2, 37), (0, a), w2L7]) (st' := [(0, 43), (2, 37)]) (by decide +kernel) rfl ?_
        refine zwW_cm IhL7 (op := 60) (k' := 250) (n := 1) (kd := 13) (m := 97) (nx := 16) (r := 37) (tl := [(0, 43)]) (st' := []) (by decide +kernel) rfl (by decide +kernel) (Nat.ble_eq_true_of_le (by omega)) (m250_p hL7 IhL7 43 t n (qL).1 iL7_0 (QL).1 rfl) ?_
        rintro x _ ⟨rfl, ⟨rfl, c8⟩ | ⟨rfl, c8⟩⟩
        · refine zwif_ne (q := 28) (nx := 19) (by decide +kernel) (fun c9 => ?_) (fun c9 => ?_)
          · have HK : pK t n qL.1 = 43 ∨ pK t n qL.1 = 45 := by first | exact Or.inl c8 | exact Or.inr c8
            have HZ : pK t n qL.1 ≠ 0 := by omega
            have PL := pK_lt HZ
            have HM := mL_m WL HZ (show pG n (pPro t n (pFac t n o (sub t n))) from pG_pro (pG_fac (hs t n))) NL
            refine zwW_p [(1, 0, 2)] (q := 29) (ls' := [(2, 37), (0, a), w2L7]) (st' := [(2, 37)]) (by decide +kernel) rfl ?_
            refine zwW_gc IhL7 (kd := 13) (bn := 40) (n := 97) (c := 98) (nx := 32) (by decide +kernel) ?_
            refine zwW_p [(1, 0, 2)] (q := 33) (ls' := [(2, 37), (0, a), w2L7]) (st' := [(2, 37), (2, 98)]) (by decide +kernel) rfl ?_
            refine zwW_gs IhL7 (kd := 13) (bn := 42) (n := 97) (t := 0) (lo := 0) (hi := 400) (nx := 36) (by decide +kernel) ?_
            intro v10 ev10 lv10 uv10
            refine zwW_al IhL7 (a1 := 98) (a2 := 98) (kd := 21) (n := 400) (t := 0) (lo := -128) (hi := 127) (nx := 37) (by decide +kernel) ⟨by decide, by decide⟩ ⟨by omega, by omega⟩ ?_
            intro v11 ev11 lv11 uv11
            have A37 := (QL).1.1
            have E37 : v11 = t (qL.1) := by rw [ev11]; refine Eq.trans ?_ (iL7_0.2.2 (qL.1) (by omega)); first | rfl | (congr 1; omega)
            have P37 : v11 = pK t n qL.1 := by rcases HK with z | z <;> (have y := (pK_sg rfl).mp z; omega)
            refine zwW_p [(2, 2, 0), (1, 0, 2)] (q := 39) (ls' := [(2, 37), (0, a), (0, v11)]) (st' := [(2, 37)]) (by decide +kernel) rfl ?_
            refine zwW_cmv IhL7 (op := 60) (k' := 268) (n := 0) (kd := 13) (m := 97) (nx := 42) (r := 37) (tl := []) (st' := []) (by decide +kernel) rfl (by decide +kernel) (Nat.ble_eq_true_of_le (by omega)) (m268_p hL7 IhL7 t n (qL).1 iL7_0 (QL).1) ?_
            rintro h13 ⟨Ih13, Qh13, f12⟩
            have Rh13 : zMR msP h h13 := RhL7.tr Qh13 (by decide +kernel)
            have Bh13 : vB t n h13 := iL7_0.fr Qh13 (by decide +kernel)
            have RQh13 : mQ t n w0 h13 (pA t n qL) := (QL).tk Qh13 (by decide +kernel) ⟨by have z := (iL7_1).1; omega, by have z := (iL7_1).1; omega⟩ f12
            have Vh13 : rV n (pA t n qL) := (WL).a (by omega)
            have Eh13 : fld h13 37 44 = -1 := (Qh13.f (a1 := 37) (a2 := 37) (j1 := 44) (j2 := 45) (by decide +kernel) ⟨by decide, by decide⟩ ⟨by decide, by decide⟩).trans EL
            have Oh13 : mO h h13 := (iL7_1).tr (mO.fr Qh13 (by decide +kernel)).1
            refine zwW_p [(1, 0, 2), (1, 1, 0)] (q := 44) (ls' := [(2, 37), (0, a), (0, v11)]) (st' := [(0, a), (2, 37)]) (by decide +kernel) rfl ?_
            refine zwW_cm Ih13 (op := 60) (k' := 269) (n := 1) (kd := 13) (m := 97) (nx := 47) (r := 37) (tl := [(0, a)]) (st' := []) (by decide +kernel) rfl (by decide +kernel) (Nat.ble_eq_true_of_le (by omega)) (m269_q a D0 pa o sub ho hs HS h13 Ih13 t n w0 (pA t n qL) Bh13 (RQh13) (Vh13.wk) (by have z := (Oh13).1; omega) (Eh13)) ?_
            rintro v14 h18 ⟨Ih18, Qh18, f15, f16, f17⟩
            have Rh18 : zMR msP h h18 := Rh13.tr Qh18 (by decide +kernel)
            have Bh18 : vB t n h18 := Bh13.fr Qh18 (by decide +kernel)
            have S44 : vR t n w0 h18 _ ((pPro t n (pFac t n o (sub t n))) (pA t n qL)) := f17
            have Oh18 : mO h h18 := (Oh13).tr f16
            have Vh18 : rV n ((pPro t n (pFac t n o (sub t n))) (pA t n qL)).2 := (Vh13).fn (pG_pro (pG_fac (hs t n)))
            refine zwif_ne (q := 52) (nx := 50) (by decide +kernel) (fun c19 => ?_) (fun c19 => ?_)
            · refine zwW_p [(1, 0, 2), (1, 2, 0), (0, 0, 0)] (q := 55) (ls' := [(2, 37), (0, a), (0, v11)]) (st' := [(0, 0), (0, v11), (2, 37)]) (by decide +kernel) rfl ?_
              refine zwW_cm Ih18 (op := 60) (k' := 270) (n := 2) (kd := 13) (m := 97) (nx := 58) (r := 37) (tl := [(0, v11), (0, 0)]) (st' := []) (by decide +kernel) rfl (by decide +kernel) (Nat.ble_eq_true_of_le (by omega)) (m270 h18 Ih18 v11 0 (by omega) (by omega) (by have z := (Oh18).1; omega) ((Vh18).mlt Bh18 (S44.qq (by omega)))) ?_
              rintro x h23 ⟨Ih23, Qh23, rfl, f20, f21, f22⟩
              have Rh23 : zMR msP h h23 := Rh18.tr Qh23 (by decide +kernel)
              have Bh23 : vB t n h23 := Bh18.fr Qh23 (by decide +kernel)
              have RQh23 : mQ t n w0 h23 (pW (-v11) ((pPro t n (pFac t n o (sub t n)) (pA t n qL)).2)) := ((S44.qq (by omega))).put Qh23 (by decide +kernel) f20 f21 (eEn_o (by omega)) (Or.inr (Or.inr (by omega)))
              have Eh23 : fld h23 37 44 = -1 := (Qh23.f (a1 := 37) (a2 := 37) (j1 := 44) (j2 := 45) (by decide +kernel) ⟨by decide, by decide⟩ ⟨by decide, by decide⟩).trans (S44.e (by omega))
              have Oh23 : mO h h23 := (Oh18).tr (mO.put Qh23 (by decide +kernel) f22)
              have A55 : fld h23 37 42 = ((((pPro t n (pFac t n o (sub t n))) (pA t n qL)).2.1 : Nat) : Int) := (RQh23).1.1
              have B55 := (Bh23).1
              have H55 := HM.2.2
              have LB : vL t n w0 h23 (pLp t n 43 45 (pPro t n (pFac t n o (sub t n)))) (pSm0 t n (pFac t n o (sub t n)) s) := mL_n (RQh23) ((Vh18).pw) (Eh23) HM.2.1 (by rw [TL]; exact pLp_n (k := kL - 1) HM.1 HK (S44.b1 (by omega)) P37)
              refine zwW_p [(15, 0, 0), (24, 10, 0)] (q := 10) (ls' := [(2, 37), (0, a), (0, v11)]) (st' := []) (by decide +kernel) rfl ?_
              exact IHL7 (fld h23 37 41 - fld h23 37 42).toNat (by omega) (0, v11) h23 rfl (Bh23) (Oh23) (LB) Ih23 Rh23
            · refine zwW_p [(0, 0, 0)] (q := 51) (ls' := [(2, 37), (0, a), (0, v11)]) (st' := [(0, 0)]) (by decide +kernel) rfl ?_
              refine zwW_ret (nx := 52) (a := 1) (b := 0) (by decide +kernel) rfl (Or.inr (Or.inl ⟨rfl, by omega⟩)) ?_
              refine ⟨Ih18, Rh18, by omega, Oh18, ?_⟩
              show vR t n w0 h18 0 (pSm0 t n (pFac t n o (sub t n)) s)
              first
              | (unfold pSm0; rw [if_neg (S2.b0 (by omega))]; exact S2.z (by omega))
              | (rw [TL, pLp_z (Or.inr (by omega))]; exact mR_t QL EL)
              | (rw [TL, pLp_f (k := kL - 1) HM.1 HK (S44.b0 (by omega))]; exact mR_f (S44.fl (by omega)).2)
              | (exfalso; omega)
          · exfalso; omega
        · refine zwif_ne (q := 28) (nx := 19) (by decide +kernel) (fun c24 => ?_) (fun c24 => ?_)
          · exfalso; omega
          · refine zwW_p [(1, 0, 2), (0, 45, 0)] (q := 22) (ls' := [(2, 37), (0, a), w2L7]) (st' := [(0, 45), (2, 37)]) (by decide +kernel) rfl ?_
            refine zwW_cm IhL7 (op := 60) (k' := 250) (n := 1) (kd := 13) (m := 97) (nx := 25) (r := 37) (tl := [(0, 45)]) (st' := []) (by decide +kernel) rfl (by decide +kernel) (Nat.ble_eq_true_of_le (by omega)) (m250_p hL7 IhL7 45 t n (qL).1 iL7_0 (QL).1 rfl) ?_
            rintro x _ ⟨rfl, ⟨rfl, c25⟩ | ⟨rfl, c25⟩⟩
            · refine zwif_eq (q := 62) (nx := 28) (by decide +kernel) (fun c26 => ?_) (fun c26 => ?_)
              · exfalso; omega
              · have HK : pK t n qL.1 = 43 ∨ pK t n qL.1 = 45 := by first | exact Or.inl c25 | exact Or.inr c25
                have HZ : pK t n qL.1 ≠ 0 := by omega
                have PL := pK_lt HZ
                have HM := mL_m WL HZ (show pG n (pPro t n (pFac t n o (sub t n))) from pG_pro (pG_fac (hs t n))) NL
                refine zwW_p [(1, 0, 2)] (q := 29) (ls' := [(2, 37), (0, a), w2L7]) (st' := [(2, 37)]) (by decide +kernel) rfl ?_
                refine zwW_gc IhL7 (kd := 13) (bn := 40) (n := 97) (c := 98) (nx := 32) (by decide +kernel) ?_
                refine zwW_p [(1, 0, 2)] (q := 33) (ls' := [(2, 37), (0, a), w2L7]) (st' := [(2, 37), (2, 98)]) (by decide +kernel) rfl ?_
                refine zwW_gs IhL7 (kd := 13) (bn := 42) (n := 97) (t := 0) (lo := 0) (hi := 400) (nx := 36) (by decide +kernel) ?_
                intro v27 ev27 lv27 uv27
                refine zwW_al IhL7 (a1 := 98) (a2 := 98) (kd := 21) (n := 400) (t := 0) (lo := -128) (hi := 127) (nx := 37) (by decide +kernel) ⟨by decide, by decide⟩ ⟨by omega, by omega⟩ ?_
                intro v28 ev28 lv28 uv28
                have A37 := (QL).1.1
                have E37 : v28 = t (qL.1) := by rw [ev28]; refine Eq.trans ?_ (iL7_0.2.2 (qL.1) (by omega)); first | rfl | (congr 1; omega)
                have P37 : v28 = pK t n qL.1 := by rcases HK with z | z <;> (have y := (pK_sg rfl).mp z; omega)
                refine zwW_p [(2, 2, 0), (1, 0, 2)] (q := 39) (ls' := [(2, 37), (0, a), (0, v28)]) (st' := [(2, 37)]) (by decide +kernel) rfl ?_
                refine zwW_cmv IhL7 (op := 60) (k' := 268) (n := 0) (kd := 13) (m := 97) (nx := 42) (r := 37) (tl := []) (st' := []) (by decide +kernel) rfl (by decide +kernel) (Nat.ble_eq_true_of_le (by omega)) (m268_p hL7 IhL7 t n (qL).1 iL7_0 (QL).1) ?_
                rintro h30 ⟨Ih30, Qh30, f29⟩
                have Rh30 : zMR msP h h30 := RhL7.tr Qh30 (by decide +kernel)
                have Bh30 : vB t n h30 := iL7_0.fr Qh30 (by decide +kernel)
                have RQh30 : mQ t n w0 h30 (pA t n qL) := (QL).tk Qh30 (by decide +kernel) ⟨by have z := (iL7_1).1; omega, by have z := (iL7_1).1; omega⟩ f29
                have Vh30 : rV n (pA t n qL) := (WL).a (by omega)
                have Eh30 : fld h30 37 44 = -1 := (Qh30.f (a1 := 37) (a2 := 37) (j1 := 44) (j2 := 45) (by decide +kernel) ⟨by decide, by decide⟩ ⟨by decide, by decide⟩).trans EL
                have Oh30 : mO h h30 := (iL7_1).tr (mO.fr Qh30 (by decide +kernel)).1
                refine zwW_p [(1, 0, 2), (1, 1, 0)] (q := 44) (ls' := [(2, 37), (0, a), (0, v28)]) (st' := [(0, a), (2, 37)]) (by decide +kernel) rfl ?_
                refine zwW_cm Ih30 (op := 60) (k' := 269) (n := 1) (kd := 13) (m := 97) (nx := 47) (r := 37) (tl := [(0, a)]) (st' := []) (by decide +kernel) rfl (by decide +kernel) (Nat.ble_eq_true_of_le (by omega)) (m269_q a D0 pa o sub ho hs HS h30 Ih30 t n w0 (pA t n qL) Bh30 (RQh30) (Vh30.wk) (by have z := (Oh30).1; omega) (Eh30)) ?_
                rintro v31 h35 ⟨Ih35, Qh35, f32, f33, f34⟩
                have Rh35 : zMR msP h h35 := Rh30.tr Qh35 (by decide +kernel)
                have Bh35 : vB t n h35 := Bh30.fr Qh35 (by decide +kernel)
                have S44 : vR t n w0 h35 _ ((pPro t n (pFac t n o (sub t n))) (pA t n qL)) := f34
                have Oh35 : mO h h35 := (Oh30).tr f33
                have Vh35 : rV n ((pPro t n (pFac t n o (sub t n))) (pA t n qL)).2 := (Vh30).fn (pG_pro (pG_fac (hs t n)))
                refine zwif_ne (q := 52) (nx := 50) (by decide +kernel) (fun c36 => ?_) (fun c36 => ?_)
                · refine zwW_p [(1, 0, 2), (1, 2, 0), (0, 0, 0)] (q := 55) (ls' := [(2, 37), (0, a), (0, v28)]) (st' := [(0, 0), (0, v28), (2, 37)]) (by decide +kernel) rfl ?_
                  refine zwW_cm Ih35 (op := 60) (k' := 270) (n := 2) (kd := 13) (m := 97) (nx := 58) (r := 37) (tl := [(0, v28), (0, 0)]) (st' := []) (by decide +kernel) rfl (by decide +kernel) (Nat.ble_eq_true_of_le (by omega)) (m270 h35 Ih35 v28 0 (by omega) (by omega) (by have z := (Oh35).1; omega) ((Vh35).mlt Bh35 (S44.qq (by omega)))) ?_
                  rintro x h40 ⟨Ih40, Qh40, rfl, f37, f38, f39⟩
                  have Rh40 : zMR msP h h40 := Rh35.tr Qh40 (by decide +kernel)
                  have Bh40 : vB t n h40 := Bh35.fr Qh40 (by decide +kernel)
                  have RQh40 : mQ t n w0 h40 (pW (-v28) ((pPro t n (pFac t n o (sub t n)) (pA t n qL)).2)) := ((S44.qq (by omega))).put Qh40 (by decide +kernel) f37 f38 (eEn_o (by omega)) (Or.inr (Or.inr (by omega)))
                  have Eh40 : fld h40 37 44 = -1 := (Qh40.f (a1 := 37) (a2 := 37) (j1 := 44) (j2 := 45) (by decide +kernel) ⟨by decide, by decide⟩ ⟨by decide, by decide⟩).trans (S44.e (by omega))
                  have Oh40 : mO h h40 := (Oh35).tr (mO.put Qh40 (by decide +kernel) f39)
                  have A55 : fld h40 37 42 = ((((pPro t n (pFac t n o (sub t n))) (pA t n qL)).2.1 : Nat) : Int) := (RQh40).1.1
                  have B55 := (Bh40).1
                  have H55 := HM.2.2
                  have LB : vL t n w0 h40 (pLp t n 43 45 (pPro t n (pFac t n o (sub t n)))) (pSm0 t n (pFac t n o (sub t n)) s) := mL_n (RQh40) ((Vh35).pw) (Eh40) HM.2.1 (by rw [TL]; exact pLp_n (k := kL - 1) HM.1 HK (S44.b1 (by omega)) P37)
                  refine zwW_p [(15, 0, 0), (24, 10, 0)] (q := 10) (ls' := [(2, 37), (0, a), (0, v28)]) (st' := []) (by decide +kernel) rfl ?_
                  exact IHL7 (fld h40 37 41 - fld h40 37 42).toNat (by omega) (0, v28) h40 rfl (Bh40) (Oh40) (LB) Ih40 Rh40
                · refine zwW_p [(0, 0, 0)] (q := 51) (ls' := [(2, 37), (0, a), (0, v28)]) (st' := [(0, 0)]) (by decide +kernel) rfl ?_
                  refine zwW_ret (nx := 52) (a := 1) (b := 0) (by decide +kernel) rfl (Or.inr (Or.inl ⟨rfl, by omega⟩)) ?_
                  refine ⟨Ih35, Rh35, by omega, Oh35, ?_⟩
                  show vR t n w0 h35 0 (pSm0 t n (pFac t n o (sub t n)) s)
                  first
                  | (unfold pSm0; rw [if_neg (S2.b0 (by omega))]; exact S2.z (by omega))
                  | (rw [TL, pLp_z (Or.inr (by omega))]; exact mR_t QL EL)
                  | (rw [TL, pLp_f (k := kL - 1) HM.1 HK (S44.b0 (by omega))]; exact mR_f (S44.fl (by omega)).2)
                  | (exfalso; omega)
            · refine zwif_eq (q := 62) (nx := 28) (by decide +kernel) (fun c41 => ?_) (fun c41 => ?_)
              · refine zwW_p [(0, 1, 0)] (q := 63) (ls' := [(2, 37), (0, a), w2L7]) (st' := [(0, 1)]) (by decide +kernel) rfl ?_
                refine zwW_ret (nx := 64) (a := 1) (b := 0) (by decide +kernel) rfl (Or.inr (Or.inl ⟨rfl, by omega⟩)) ?_
                refine ⟨IhL7, RhL7, by omega, iL7_1, ?_⟩
                show vR t n w0 hL7 1 (pSm0 t n (pFac t n o (sub t n)) s)
                first
                | (unfold pSm0; rw [if_neg (S2.b0 (by omega))]; exact S2.z (by omega))
                | (rw [TL, pLp_z (Or.inr (by omega))]; exact mR_t QL EL)
                | (rw [TL, pLp_f (k := kL - 1) HM.1 HK (S44.b0 (by omega))]; exact mR_f (S44.fl (by omega)).2)
                | (exfalso; omega)
              · exfalso; omega
    exact L7 _ (9, 0) h5 rfl (Bh5) (Oh5) (mL_0 S2 (by omega) (Wh5) B2) Ih5 Rh5
  · refine zwW_p [(0, 0, 0)] (q := 9) (ls' := [(2, 37), (0, a), (9, 0)]) (st' := [(0, 0)]) (by decide +kernel) rfl ?_
    refine zwW_ret (nx := 10) (a := 1) (b := 0) (by decide +kernel) rfl (Or.inr (Or.inl ⟨rfl, by omega⟩)) ?_
    refine ⟨Ih5, Rh5, by omega, Oh5, ?_⟩
    show vR t n w0 h5 0 (pSm0 t n (pFac t n o (sub t n)) s)
    first
    | (unfold pSm0; rw [if_neg (S2.b0 (by omega))]; exact S2.z (by omega))
    | (rw [TL, pLp_z (Or.inr (by omega))]; exact mR_t QL EL)
    | (rw [TL, pLp_f (k := kL - 1) HM.1 HK (S44.b0 (by omega))]; exact mR_f (S44.fl (by omega)).2)
    | (exfalso; omega)
-- WheelLandModel.test(I)Z
theorem m286_q {sc : List Int} (a : Int) (D0 : Nat) (pa : 0 ≤ a ∧ a ≤ 8) (o : Bool) (sub : pT → Nat → pQ → pR) (ho : (a < 8 ∧ o = true) ∨ (8 ≤ a ∧ o = false)) (hs : ∀ (t : pT) (n : Nat), pG n (sub t n)) (HS : a < 8 → mX sc D0 248 (a + 1) sub) (hol eit : pT → Nat → pQ → pR) (hh : ∀ (t : pT) (n : Nat), pG n (hol t n)) (he : ∀ (t : pT) (n : Nat), pG n (eit t n)) (HT : a < 8 → mX sc D0 286 (a + 1) hol) (HE : a < 8 → mX sc D0 249 (a + 1) eit) : mX sc (D0 + 23) 286 a (fun t n => pHol t n o (hol t n) (eit t n) (pSm0 t n (pFac t n o (sub t n)))) := by
  intro h I t n w0 s B Q0 W0 pc pf
  have bc := I.b (a1 := 37) (a2 := 37) (j1 := 47) (j2 := 48) (lo := -1) (hi := 4) (by decide +kernel) (r := 37) (j := 47) (by decide) (by decide) (by decide) (by decide)
  have B2 := B.2.1
  have O0 : mO h h := mO.rf
  refine zwC_of (D := D0 + 22) 3 (by decide +kernel) rfl (ls := [(2, 37), (0, a), (9, 0)]) rfl ?_
  have R : zMR msP h h := zMR.rf _ _
  refine zwW_p [(1, 0, 2), (0, -30, 2)] (q := 4) (ls' := [(2, 37), (0, a), (9, 0)]) (st' := [(2, -30), (2, 37)]) (by decide +kernel) rfl ?_
  refine zwW_cm I (op := 60) (k' := 246) (n := 1) (kd := 13) (m := 97) (nx := 7) (r := 37) (tl := [(2, -30)]) (st' := []) (by decide +kernel) rfl (by decide +kernel) (Nat.ble_eq_true_of_le (by omega)) (m246_p h I (-30) t n (s).1 ⟨by omega, by omega⟩ B (Q0).1) ?_
  rintro x _ ⟨rfl, ⟨rfl, c1⟩ | ⟨rfl, c1⟩⟩
  · have CN := c1
    rw [show ((mWi (-30) : Nat) : Int) = 20 by decide] at CN
    refine zwif_eq (q := 54) (nx := 10) (by decide +kernel) (fun c2 => ?_) (fun c2 => ?_)
    · exfalso; omega
    · refine zwW_p [(1, 0, 2), (1, 1, 0), (0, 8, 0)] (q := 14) (ls' := [(2, 37), (0, a), (9, 0)]) (st' := [(0, 8), (0, a), (2, 37)]) (by decide +kernel) rfl ?_
      refine zwic_ge (q := 21) (nx := 17) (by decide +kernel) (fun c3 => ?_) (fun c3 => ?_)
      · refine zwW_p [(0, 0, 0)] (q := 22) (ls' := [(2, 37), (0, a), (9, 0)]) (st' := [(0, 0), (2, 37)]) (by decide +kernel) rfl ?_
        refine zwW_cm I (op := 60) (k' := 247) (n := 1) (kd := 13) (m := 97) (nx := 25) (r := 37) (tl := [(0, 0)]) (st' := []) (by decide +kernel) rfl (by decide +kernel) (Nat.ble_eq_true_of_le (by omega)) (m247_p h I 0 t n (s).1 B (Q0).1 (pf)) ?_
        rintro x h4 ⟨Ih4, Qh4, ⟨rfl, f5, f6, f7⟩ | ⟨rfl, f8, f9⟩⟩
        · exfalso; omega
        · have Rh4 : zMR msP h h4 := R.tr Qh4 (by decide +kernel)
          have Bh4 : vB t n h4 := B.fr Qh4 (by decide +kernel)
          have Oh4 : mO h h4 := (O0).tr (mO.fr Qh4 (by decide +kernel)).1
          refine zwif_eq (q := 52) (nx := 28) (by decide +kernel) (fun c10 => ?_) (fun c10 => ?_)
          · refine zwW_p [(0, 0, 0)] (q := 53) (ls' := [(2, 37), (0, a), (9, 0)]) (st' := [(0, 0)]) (by decide +kernel) rfl ?_
            refine zwW_ret (nx := 54) (a := 1) (b := 0) (by decide +kernel) rfl (Or.inr (Or.inl ⟨rfl, by omega⟩)) ?_
            refine ⟨Ih4, Rh4, by omega, Oh4, ?_⟩
            show vR t n w0 h4 0 (pHol t n o (hol t n) (eit t n) (pSm0 t n (pFac t n o (sub t n))) s)
            first
            | (rw [pHol_n1 CN.1 CN.2 (ho.resolve_right (fun z => by omega)).2 (S32.b1 (by omega))]; exact mR_t (Q0) (pf))
            | (rw [pHol_n0 CN.1 CN.2 (ho.resolve_right (fun z => by omega)).2 (S32.b0 (by omega))]; exact S32.z (by omega))
            | (rw [pHol_nd CN.1 CN.2 (fun z1 => by have y := ho.resolve_left (fun y => by omega); rw [z1] at y; cases y.2)]; exact mR_f f9)
            | (rw [pHol_b1 CP (ho.resolve_right (fun z => by omega)).2 (S85.b1 (by omega)) c1]; exact mR_t (Q0) (pf))
            | (rw [pHol_bn CP (ho.resolve_right (fun z => by omega)).2 (S85.b1 (by omega)) c1]; exact mR_f f9)
            | (rw [pHol_b0 CP (ho.resolve_right (fun z => by omega)).2 (S85.b0 (by omega))]; exact S85.z (by omega))
            | (rw [pHol_bd CP (fun z1 => by have y := ho.resolve_left (fun y => by omega); rw [z1] at y; cases y.2)]; exact mR_f f9)
            | (rw [pHol_s0 CN CP0 (S112.b0 (by omega))]; exact S112.z (by omega))
            | (rw [pHol_sn CN CP0 (S112.b1 (by omega)) (by omega)]; exact mR_f f9)
            | (rw [pHol_s1 CN CP0 (S112.b1 (by omega)) HK (S168.b1 (by omega)), ← P161]; exact mR_t (Q0) (pf))
            | (rw [pHol_s2 CN CP0 (S112.b1 (by omega)) HK (S168.b0 (by omega))]; exact S168.z (by omega))
            | (exfalso; omega)
          · exfalso; omega
      · refine zwW_p [(0, 1, 0), (24, 22, 0)] (q := 22) (ls' := [(2, 37), (0, a), (9, 0)]) (st' := [(0, 1), (2, 37)]) (by decide +kernel) rfl ?_
        refine zwW_cm I (op := 60) (k' := 247) (n := 1) (kd := 13) (m := 97) (nx := 25) (r := 37) (tl := [(0, 1)]) (st' := []) (by decide +kernel) rfl (by decide +kernel) (Nat.ble_eq_true_of_le (by omega)) (m247_p h I 1 t n (s).1 B (Q0).1 (pf)) ?_
        rintro x h11 ⟨Ih11, Qh11, ⟨rfl, f12, f13, f14⟩ | ⟨rfl, f15, f16⟩⟩
        · have Rh11 : zMR msP h h11 := R.tr Qh11 (by decide +kernel)
          have Bh11 : vB t n h11 := B.fr Qh11 (by decide +kernel)
          have RQh11 : mQ t n w0 h11 (pA t n s) := (Q0).tk Qh11 (by decide +kernel) ⟨by have z := (O0).1; omega, by have z := (O0).1; omega⟩ f13
          have Vh11 : rV n (pA t n s) := (W0).a (by omega)
          have Oh11 : mO h h11 := (O0).tr (mO.fr Qh11 (by decide +kernel)).1
          refine zwif_eq (q := 52) (nx := 28) (by decide +kernel) (fun c17 => ?_) (fun c17 => ?_)
          · exfalso; omega
          · refine zwW_p [(1, 0, 2), (1, 1, 0), (0, 1, 0)] (q := 31) (ls' := [(2, 37), (0, a), (9, 0)]) (st' := [(0, 1), (0, a), (2, 37)]) (by decide +kernel) rfl ?_
            refine zwW_add (nx := 32) (by decide +kernel) ⟨by omega, by omega⟩ ?_
            refine zwW_cm Ih11 (op := 60) (k' := 286) (n := 1) (kd := 13) (m := 97) (nx := 35) (r := 37) (tl := [(0, (a + 1))]) (st' := []) (by decide +kernel) rfl (by decide +kernel) (Nat.ble_eq_true_of_le (by omega)) (HT (by omega) h11 Ih11 t n w0 (pA t n s) Bh11 (RQh11) (Vh11.wk) (by have z := (Oh11).1; omega) (f14)) ?_
            rintro v18 h22 ⟨Ih22, Qh22, f19, f20, f21⟩
            have Rh22 : zMR msP h h22 := Rh11.tr Qh22 (by decide +kernel)
            have Bh22 : vB t n h22 := Bh11.fr Qh22 (by decide +kernel)
            have S32 : vR t n w0 h22 _ ((hol t n) (pA t n s)) := f21
            have Oh22 : mO h h22 := (Oh11).tr f20
            have Vh22 : rV n ((hol t n) (pA t n s)).2 := (Vh11).fn (hh t n)
            refine zwif_eq (q := 52) (nx := 38) (by decide +kernel) (fun c23 => ?_) (fun c23 => ?_)
            · refine zwW_p [(0, 0, 0)] (q := 53) (ls' := [(2, 37), (0, a), (9, 0)]) (st' := [(0, 0)]) (by decide +kernel) rfl ?_
              refine zwW_ret (nx := 54) (a := 1) (b := 0) (by decide +kernel) rfl (Or.inr (Or.inl ⟨rfl, by omega⟩)) ?_
              refine ⟨Ih22, Rh22, by omega, Oh22, ?_⟩
              show vR t n w0 h22 0 (pHol t n o (hol t n) (eit t n) (pSm0 t n (pFac t n o (sub t n))) s)
              first
              | (rw [pHol_n1 CN.1 CN.2 (ho.resolve_right (fun z => by omega)).2 (S32.b1 (by omega))]; exact mR_t ((S32.qq (by omega))) ((S32.e (by omega))))
              | (rw [pHol_n0 CN.1 CN.2 (ho.resolve_right (fun z => by omega)).2 (S32.b0 (by omega))]; exact S32.z (by omega))
              | (rw [pHol_nd CN.1 CN.2 (fun z1 => by have y := ho.resolve_left (fun y => by omega); rw [z1] at y; cases y.2)]; exact mR_f rfl)
              | (rw [pHol_b1 CP (ho.resolve_right (fun z => by omega)).2 (S85.b1 (by omega)) c1]; exact mR_t ((S32.qq (by omega))) ((S32.e (by omega))))
              | (rw [pHol_bn CP (ho.resolve_right (fun z => by omega)).2 (S85.b1 (by omega)) c1]; exact mR_f rfl)
              | (rw [pHol_b0 CP (ho.resolve_right (fun z => by omega)).2 (S85.b0 (by omega))]; exact S85.z (by omega))
              | (rw [pHol_bd CP (fun z1 => by have y := ho.resolve_left (fun y => by omega); rw [z1] at y; cases y.2)]; exact mR_f rfl)
              | (rw [pHol_s0 CN CP0 (S112.b0 (by omega))]; exact S112.z (by omega))
              | (rw [pHol_sn CN CP0 (S112.b1 (by omega)) (by omega)]; exact mR_f rfl)
              | (rw [pHol_s1 CN CP0 (S112.b1 (by omega)) HK (S168.b1 (by omega)), ← P161]; exact mR_t ((S32.qq (by omega))) ((S32.e (by omega))))
              | (rw [pHol_s2 CN CP0 (S112.b1 (by omega)) HK (S168.b0 (by omega))]; exact S168.z (by omega))
              | (exfalso; omega)
            · refine zwW_p [(1, 0, 2), (0, 33, 0), (0, 0, 0)] (q := 42) (ls' := [(2, 37), (0, a), (9, 0)]) (st' := [(0, 0), (0, 33), (2, 37)]) (by decide +kernel) rfl ?_
              refine zwW_cm Ih22 (op := 60) (k' := 270) (n := 2) (kd := 13) (m := 97) (nx := 45) (r := 37) (tl := [(0, 33), (0, 0)]) (st' := []) (by decide +kernel) rfl (by decide +kernel) (Nat.ble_eq_true_of_le (by omega)) (m270 h22 Ih22 33 0 (by omega) (by omega) (by have z := (Oh22).1; omega) ((Vh22).mlt Bh22 (S32.qq (by omega)))) ?_
              rintro x h27 ⟨Ih27, Qh27, rfl, f24, f25, f26⟩
              have Rh27 : zMR msP h h27 := Rh22.tr Qh27 (by decide +kernel)
              have Bh27 : vB t n h27 := Bh22.fr Qh27 (by decide +kernel)
              have RQh27 : mQ t n w0 h27 (pW (-20) ((hol t n (pA t n s)).2)) := ((S32.qq (by omega))).put Qh27 (by decide +kernel) f24 f25 (eEn_x.1) (Or.inr (Or.inr (by omega)))
              have Eh27 : fld h27 37 44 = -1 := (Qh27.f (a1 := 37) (a2 := 37) (j1 := 44) (j2 := 45) (by decide +kernel) ⟨by decide, by decide⟩ ⟨by decide, by decide⟩).trans (S32.e (by omega))
              have Oh27 : mO h h27 := (Oh22).tr (mO.put Qh27 (by decide +kernel) f26)
              refine zwif_eq (q := 52) (nx := 48) (by decide +kernel) (fun c28 => ?_) (fun c28 => ?_)
              · exfalso; omega
              · refine zwW_p [(0, 1, 0), (24, 53, 0)] (q := 53) (ls' := [(2, 37), (0, a), (9, 0)]) (st' := [(0, 1)]) (by decide +kernel) rfl ?_
                refine zwW_ret (nx := 54) (a := 1) (b := 0) (by decide +kernel) rfl (Or.inr (Or.inl ⟨rfl, by omega⟩)) ?_
                refine ⟨Ih27, Rh27, by omega, Oh27, ?_⟩
                show vR t n w0 h27 1 (pHol t n o (hol t n) (eit t n) (pSm0 t n (pFac t n o (sub t n))) s)
                first
                | (rw [pHol_n1 CN.1 CN.2 (ho.resolve_right (fun z => by omega)).2 (S32.b1 (by omega))]; exact mR_t (RQh27) (Eh27))
                | (rw [pHol_n0 CN.1 CN.2 (ho.resolve_right (fun z => by omega)).2 (S32.b0 (by omega))]; exact S32.z (by omega))
                | (rw [pHol_nd CN.1 CN.2 (fun z1 => by have y := ho.resolve_left (fun y => by omega); rw [z1] at y; cases y.2)]; exact mR_f rfl)
                | (rw [pHol_b1 CP (ho.resolve_right (fun z => by omega)).2 (S85.b1 (by omega)) c1]; exact mR_t (RQh27) (Eh27))
                | (rw [pHol_bn CP (ho.resolve_right (fun z => by omega)).2 (S85.b1 (by omega)) c1]; exact mR_f rfl)
                | (rw [pHol_b0 CP (ho.resolve_right (fun z => by omega)).2 (S85.b0 (by omega))]; exact S85.z (by omega))
                | (rw [pHol_bd CP (fun z1 => by have y := ho.resolve_left (fun y => by omega); rw [z1] at y; cases y.2)]; exact mR_f rfl)
                | (rw [pHol_s0 CN CP0 (S112.b0 (by omega))]; exact S112.z (by omega))
                | (rw [pHol_sn CN CP0 (S112.b1 (by omega)) (by omega)]; exact mR_f rfl)
                | (rw [pHol_s1 CN CP0 (S112.b1 (by omega)) HK (S168.b1 (by omega)), ← P161]; exact mR_t (RQh27) (Eh27))
                | (rw [pHol_s2 CN CP0 (S112.b1 (by omega)) HK (S168.b0 (by omega))]; exact S168.z (by omega))
                | (exfalso; omega)
        · exfalso; omega
  · have CN := c1
    rw [show ((mWi (-30) : Nat) : Int) = 20 by decide] at CN
    refine zwif_eq (q := 54) (nx := 10) (by decide +kernel) (fun c29 => ?_) (fun c29 => ?_)
    · refine zwW_p [(1, 0, 2), (0, 91, 0)] (q := 57) (ls' := [(2, 37), (0, a), (9, 0)]) (st' := [(0, 91), (2, 37)]) (by decide +kernel) rfl ?_
      refine zwW_cm I (op := 60) (k' := 250) (n := 1) (kd := 13) (m := 97) (nx := 60) (r := 37) (tl := [(0, 91)]) (st' := []) (by decide +kernel) rfl (by decide +kernel) (Nat.ble_eq_true_of_le (by omega)) (m250_p h I 91 t n (s).1 B (Q0).1 rfl) ?_
      rintro x _ ⟨rfl, ⟨rfl, c30⟩ | ⟨rfl, c30⟩⟩
      · refine zwif_eq (q := 110) (nx := 63) (by decide +kernel) (fun c31 => ?_) (fun c31 => ?_)
        · exfalso; omega
        · have CP := c30
          refine zwW_p [(1, 0, 2), (1, 1, 0), (0, 8, 0)] (q := 67) (ls' := [(2, 37), (0, a), (9, 0)]) (st' := [(0, 8), (0, a), (2, 37)]) (by decide +kernel) rfl ?_
          refine zwic_ge (q := 74) (nx := 70) (by decide +kernel) (fun c32 => ?_) (fun c32 => ?_)
          · refine zwW_p [(0, 0, 0)] (q := 75) (ls' := [(2, 37), (0, a), (9, 0)]) (st' := [(0, 0), (2, 37)]) (by decide +kernel) rfl ?_
            refine zwW_cm I (op := 60) (k' := 247) (n := 1) (kd := 13) (m := 97) (nx := 78) (r := 37) (tl := [(0, 0)]) (st' := []) (by decide +kernel) rfl (by decide +kernel) (Nat.ble_eq_true_of_le (by omega)) (m247_p h I 0 t n (s).1 B (Q0).1 (pf)) ?_
            rintro x h33 ⟨Ih33, Qh33, ⟨rfl, f34, f35, f36⟩ | ⟨rfl, f37, f38⟩⟩
            · exfalso; omega
            · have Rh33 : zMR msP h h33 := R.tr Qh33 (by decide +kernel)
              have Bh33 : vB t n h33 := B.fr Qh33 (by decide +kernel)
              have Oh33 : mO h h33 := (O0).tr (mO.fr Qh33 (by decide +kernel)).1
              refine zwif_eq (q := 108) (nx := 81) (by decide +kernel) (fun c39 => ?_) (fun c39 => ?_)
              · refine zwW_p [(0, 0, 0)] (q := 109) (ls' := [(2, 37), (0, a), (9, 0)]) (st' := [(0, 0)]) (by decide +kernel) rfl ?_
                refine zwW_ret (nx := 110) (a := 1) (b := 0) (by decide +kernel) rfl (Or.inr (Or.inl ⟨rfl, by omega⟩)) ?_
                refine ⟨Ih33, Rh33, by omega, Oh33, ?_⟩
                show vR t n w0 h33 0 (pHol t n o (hol t n) (eit t n) (pSm0 t n (pFac t n o (sub t n))) s)
                first
                | (rw [pHol_n1 CN.1 CN.2 (ho.resolve_right (fun z => by omega)).2 (S32.b1 (by omega))]; exact mR_t (Q0) (pf))
                | (rw [pHol_n0 CN.1 CN.2 (ho.resolve_right (fun z => by omega)).2 (S32.b0 (by omega))]; exact S32.z (by omega))
                | (rw [pHol_nd CN.1 CN.2 (fun z1 => by have y := ho.resolve_left (fun y => by omega); rw [z1] at y; cases y.2)]; exact mR_f f38)
                | (rw [pHol_b1 CP (ho.resolve_right (fun z => by omega)).2 (S85.b1 (by omega)) c30]; exact mR_t (Q0) (pf))
                | (rw [pHol_bn CP (ho.resolve_right (fun z => by omega)).2 (S85.b1 (by omega)) c30]; exact mR_f f38)
                | (rw [pHol_b0 CP (ho.resolve_right (fun z => by omega)).2 (S85.b0 (by omega))]; exact S85.z (by omega))
                | (rw [pHol_bd CP (fun z1 => by have y := ho.resolve_left (fun y => by omega); rw [z1] at y; cases y.2)]; exact mR_f f38)
                | (rw [pHol_s0 CN CP0 (S112.b0 (by omega))]; exact S112.z (by omega))
                | (rw [pHol_sn CN CP0 (S112.b1 (by omega)) (by omega)]; exact mR_f f38)
                | (rw [pHol_s1 CN CP0 (S112.b1 (by omega)) HK (S168.b1 (by omega)), ← P161]; exact mR_t (Q0) (pf))
                | (rw [pHol_s2 CN CP0 (S112.b1 (by omega)) HK (S168.b0 (by omega))]; exact S168.z (by omega))
                | (exfalso; omega)
              · exfalso; omega
          · refine zwW_p [(0, 1, 0), (24, 75, 0)] (q := 75) (ls' := [(2, 37), (0, a), (9, 0)]) (st' := [(0, 1), (2, 37)]) (by decide +kernel) rfl ?_
            refine zwW_cm I (op := 60) (k' := 247) (n := 1) (kd := 13) (m := 97) (nx := 78) (r := 37) (tl := [(0, 1)]) (st' := []) (by decide +kernel) rfl (by decide +kernel) (Nat.ble_eq_true_of_le (by omega)) (m247_p h I 1 t n (s).1 B (Q0).1 (pf)) ?_
            rintro x h40 ⟨Ih40, Qh40, ⟨rfl, f41, f42, f43⟩ | ⟨rfl, f44, f45⟩⟩
            · have Rh40 : zMR msP h h40 := R.tr Qh40 (by decide +kernel)
              have Bh40 : vB t n h40 := B.fr Qh40 (by decide +kernel)
              have RQh40 : mQ t n w0 h40 (pA t n s) := (Q0).tk Qh40 (by decide +kernel) ⟨by have z := (O0).1; omega, by have z := (O0).1; omega⟩ f42
              have Vh40 : rV n (pA t n s) := (W0).a (by omega)
              have Oh40 : mO h h40 := (O0).tr (mO.fr Qh40 (by decide +kernel)).1
              refine zwif_eq (q := 108) (nx := 81) (by decide +kernel) (fun c46 => ?_) (fun c46 => ?_)
              · exfalso; omega
              · refine zwW_p [(1, 0, 2), (1, 1, 0), (0, 1, 0)] (q := 84) (ls' := [(2, 37), (0, a), (9, 0)]) (st' := [(0, 1), (0, a), (2, 37)]) (by decide +kernel) rfl ?_
                refine zwW_add (nx := 85) (by decide +kernel) ⟨by omega, by omega⟩ ?_
                refine zwW_cm Ih40 (op := 60) (k' := 249) (n := 1) (kd := 13) (m := 97) (nx := 88) (r := 37) (tl := [(0, (a + 1))]) (st' := []) (by decide +kernel) rfl (by decide +kernel) (Nat.ble_eq_true_of_le (by omega)) (HE (by omega) h40 Ih40 t n w0 (pA t n s) Bh40 (RQh40) (Vh40.wk) (by have z := (Oh40).1; omega) (f43)) ?_
                rintro v47 h51 ⟨Ih51, Qh51, f48, f49, f50⟩
                have Rh51 : zMR msP h h51 := Rh40.tr Qh51 (by decide +kernel)
                have Bh51 : vB t n h51 := Bh40.fr Qh51 (by decide +kernel)
                have S85 : vR t n w0 h51 _ ((eit t n) (pA t n s)) := f50
                have Oh51 : mO h h51 := (Oh40).tr f49
                have Vh51 : rV n ((eit t n) (pA t n s)).2 := (Vh40).fn (he t n)
                refine zwif_eq (q := 108) (nx := 91) (by decide +kernel) (fun c52 => ?_) (fun c52 => ?_)
                · refine zwW_p [(0, 0, 0)] (q := 109) (ls' := [(2, 37), (0, a), (9, 0)]) (st' := [(0, 0)]) (by decide +kernel) rfl ?_
                  refine zwW_ret (nx := 110) (a := 1) (b := 0) (by decide +kernel) rfl (Or.inr (Or.inl ⟨rfl, by omega⟩)) ?_
                  refine ⟨Ih51, Rh51, by omega, Oh51, ?_⟩
                  show vR t n w0 h51 0 (pHol t n o (hol t n) (eit t n) (pSm0 t n (pFac t n o (sub t n))) s)
                  first
                  | (rw [pHol_n1 CN.1 CN.2 (ho.resolve_right (fun z => by omega)).2 (S32.b1 (by omega))]; exact mR_t ((S85.qq (by omega))) ((S85.e (by omega))))
                  | (rw [pHol_n0 CN.1 CN.2 (ho.resolve_right (fun z => by omega)).2 (S32.b0 (by omega))]; exact S32.z (by omega))
                  | (rw [pHol_nd CN.1 CN.2 (fun z1 => by have y := ho.resolve_left (fun y => by omega); rw [z1] at y; cases y.2)]; exact mR_f rfl)
                  | (rw [pHol_b1 CP (ho.resolve_right (fun z => by omega)).2 (S85.b1 (by omega)) c30]; exact mR_t ((S85.qq (by omega))) ((S85.e (by omega))))
                  | (rw [pHol_bn CP (ho.resolve_right (fun z => by omega)).2 (S85.b1 (by omega)) c30]; exact mR_f rfl)
                  | (rw [pHol_b0 CP (ho.resolve_right (fun z => by omega)).2 (S85.b0 (by omega))]; exact S85.z (by omega))
                  | (rw [pHol_bd CP (fun z1 => by have y := ho.resolve_left (fun y => by omega); rw [z1] at y; cases y.2)]; exact mR_f rfl)
                  | (rw [pHol_s0 CN CP0 (S112.b0 (by omega))]; exact S112.z (by omega))
                  | (rw [pHol_sn CN CP0 (S112.b1 (by omega)) (by omega)]; exact mR_f rfl)
                  | (rw [pHol_s1 CN CP0 (S112.b1 (by omega)) HK (S168.b1 (by omega)), ← P161]; exact mR_t ((S85.qq (by omega))) ((S85.e (by omega))))
                  | (rw [pHol_s2 CN CP0 (S112.b1 (by omega)) HK (S168.b0 (by omega))]; exact S168.z (by omega))
                  | (exfalso; omega)
                · refine zwW_p [(1, 0, 2), (1, 0, 2), (0, 93, 0)] (q := 95) (ls' := [(2, 37), (0, a), (9, 0)]) (st' := [(0, 93), (2, 37), (2, 37)]) (by decide +kernel) rfl ?_
                  refine zwW_cm Ih51 (op := 60) (k' := 250) (n := 1) (kd := 13) (m := 97) (nx := 98) (r := 37) (tl := [(0, 93)]) (st' := [(2, 37)]) (by decide +kernel) rfl (by decide +kernel) (Nat.ble_eq_true_of_le (by omega)) (m250_p h51 Ih51 93 t n ((eit t n (pA t n s)).2).1 Bh51 ((S85.qq (by omega))).1 rfl) ?_
                  rintro x _ ⟨rfl, ⟨rfl, c53⟩ | ⟨rfl, c53⟩⟩
                  · refine zwW_cm Ih51 (op := 60) (k' := 247) (n := 1) (kd := 13) (m := 97) (nx := 101) (r := 37) (tl := [(0, 1)]) (st' := []) (by decide +kernel) rfl (by decide +kernel) (Nat.ble_eq_true_of_le (by omega)) (m247_p h51 Ih51 1 t n ((eit t n (pA t n s)).2).1 Bh51 ((S85.qq (by omega))).1 ((S85.e (by omega)))) ?_
                    rintro x h54 ⟨Ih54, Qh54, ⟨rfl, f55, f56, f57⟩ | ⟨rfl, f58, f59⟩⟩
                    · have Rh54 : zMR msP h h54 := Rh51.tr Qh54 (by decide +kernel)
                      have Bh54 : vB t n h54 := Bh51.fr Qh54 (by decide +kernel)
                      have RQh54 : mQ t n w0 h54 (pA t n ((eit t n (pA t n s)).2)) := ((S85.qq (by omega))).tk Qh54 (by decide +kernel) ⟨by have z := (Oh51).1; omega, by have z := (Oh51).1; omega⟩ f56
                      have Vh54 : rV n (pA t n ((eit t n (pA t n s)).2)) := (Vh51.wk).a (by omega)
                      have Oh54 : mO h h54 := (Oh51).tr (mO.fr Qh54 (by decide +kernel)).1
                      refine zwif_eq (q := 108) (nx := 104) (by decide +kernel) (fun c60 => ?_) (fun c60 => ?_)
                      · exfalso; omega
                      · refine zwW_p [(0, 1, 0), (24, 109, 0)] (q := 109) (ls' := [(2, 37), (0, a), (9, 0)]) (st' := [(0, 1)]) (by decide +kernel) rfl ?_
                        refine zwW_ret (nx := 110) (a := 1) (b := 0) (by decide +kernel) rfl (Or.inr (Or.inl ⟨rfl, by omega⟩)) ?_
                        refine ⟨Ih54, Rh54, by omega, Oh54, ?_⟩
                        show vR t n w0 h54 1 (pHol t n o (hol t n) (eit t n) (pSm0 t n (pFac t n o (sub t n))) s)
                        first
                        | (rw [pHol_n1 CN.1 CN.2 (ho.resolve_right (fun z => by omega)).2 (S32.b1 (by omega))]; exact mR_t (RQh54) (f57))
                        | (rw [pHol_n0 CN.1 CN.2 (ho.resolve_right (fun z => by omega)).2 (S32.b0 (by omega))]; exact S32.z (by omega))
                        | (rw [pHol_nd CN.1 CN.2 (fun z1 => by have y := ho.resolve_left (fun y => by omega); rw [z1] at y; cases y.2)]; exact mR_f rfl)
                        | (rw [pHol_b1 CP (ho.resolve_right (fun z => by omega)).2 (S85.b1 (by omega)) c53]; exact mR_t (RQh54) (f57))
                        | (rw [pHol_bn CP (ho.resolve_right (fun z => by omega)).2 (S85.b1 (by omega)) c53]; exact mR_f rfl)
                        | (rw [pHol_b0 CP (ho.resolve_right (fun z => by omega)).2 (S85.b0 (by omega))]; exact S85.z (by omega))
                        | (rw [pHol_bd CP (fun z1 => by have y := ho.resolve_left (fun y => by omega); rw [z1] at y; cases y.2)]; exact mR_f rfl)
                        | (rw [pHol_s0 CN CP0 (S112.b0 (by omega))]; exact S112.z (by omega))
                        | (rw [pHol_sn CN CP0 (S112.b1 (by omega)) (by omega)]; exact mR_f rfl)
                        | (rw [pHol_s1 CN CP0 (S112.b1 (by omega)) HK (S168.b1 (by omega)), ← P161]; exact mR_t (RQh54) (f57))
                        | (rw [pHol_s2 CN CP0 (S112.b1 (by omega)) HK (S168.b0 (by omega))]; exact S168.z (by omega))
                        | (exfalso; omega)
                    · exfalso; omega
                  · refine zwW_cm Ih51 (op := 60) (k' := 247) (n := 1) (kd := 13) (m := 97) (nx := 101) (r := 37) (tl := [(0, 0)]) (st' := []) (by decide +kernel) rfl (by decide +kernel) (Nat.ble_eq_true_of_le (by omega)) (m247_p h51 Ih51 0 t n ((eit t n (pA t n s)).2).1 Bh51 ((S85.qq (by omega))).1 ((S85.e (by omega)))) ?_
                    rintro x h61 ⟨Ih61, Qh61, ⟨rfl, f62, f63, f64⟩ | ⟨rfl, f65, f66⟩⟩
                    · exfalso; omega
                    · have Rh61 : zMR msP h h61 := Rh51.tr Qh61 (by decide +kernel)
                      have Bh61 : vB t n h61 := Bh51.fr Qh61 (by decide +kernel)
                      have Oh61 : mO h h61 := (Oh51).tr (mO.fr Qh61 (by decide +kernel)).1
                      refine zwif_eq (q := 108) (nx := 104) (by decide +kernel) (fun c67 => ?_) (fun c67 => ?_)
                      · refine zwW_p [(0, 0, 0)] (q := 109) (ls' := [(2, 37), (0, a), (9, 0)]) (st' := [(0, 0)]) (by decide +kernel) rfl ?_
                        refine zwW_ret (nx := 110) (a := 1) (b := 0) (by decide +kernel) rfl (Or.inr (Or.inl ⟨rfl, by omega⟩)) ?_
                        refine ⟨Ih61, Rh61, by omega, Oh61, ?_⟩
                        show vR t n w0 h61 0 (pHol t n o (hol t n) (eit t n) (pSm0 t n (pFac t n o (sub t n))) s)
                        first
                        | (rw [pHol_n1 CN.1 CN.2 (ho.resolve_right (fun z => by omega)).2 (S32.b1 (by omega))]; exact mR_t ((S85.qq (by omega))) ((S85.e (by omega))))
                        | (rw [pHol_n0 CN.1 CN.2 (ho.resolve_right (fun z => by omega)).2 (S32.b0 (by omega))]; exact S32.z (by omega))
                        | (rw [pHol_nd CN.1 CN.2 (fun z1 => by have y := ho.resolve_left (fun y => by omega); rw [z1] at y; cases y.2)]; exact mR_f f66)
                        | (rw [pHol_b1 CP (ho.resolve_right (fun z => by omega)).2 (S85.b1 (by omega)) c53]; exact mR_t ((S85.qq (by omega))) ((S85.e (by omega))))
                        | (rw [pHol_bn CP (ho.resolve_right (fun z => by omega)).2 (S85.b1 (by omega)) c53]; exact mR_f f66)
                        | (rw [pHol_b0 CP (ho.resolve_right (fun z => by omega)).2 (S85.b0 (by omega))]; exact S85.z (by omega))
                        | (rw [pHol_bd CP (fun z1 => by have y := ho.resolve_left (fun y => by omega); rw [z1] at y; cases y.2)]; exact mR_f f66)
                        | (rw [pHol_s0 CN CP0 (S112.b0 (by omega))]; exact S112.z (by omega))
                        | (rw [pHol_sn CN CP0 (S112.b1 (by omega)) (by omega)]; exact mR_f f66)
                        | (rw [pHol_s1 CN CP0 (S112.b1 (by omega)) HK (S168.b1 (by omega)), ← P161]; exact mR_t ((S85.qq (by omega))) ((S85.e (by omega))))
                        | (rw [pHol_s2 CN CP0 (S112.b1 (by omega)) HK (S168.b0 (by omega))]; exact S168.z (by omega))
                        | (exfalso; omega)
                      · exfalso; omega
            · exfalso; omega
      · refine zwif_eq (q := 110) (nx := 63) (by decide +kernel) (fun c68 => ?_) (fun c68 => ?_)
        · have CP0 := c30
          refine zwW_p [(1, 0, 2), (1, 1, 0)] (q := 112) (ls' := [(2, 37), (0, a), (9, 0)]) (st' := [(0, a), (2, 37)]) (by decide +kernel) rfl ?_
          refine zwW_cm I (op := 60) (k' := 248) (n := 1) (kd := 13) (m := 97) (nx := 115) (r := 37) (tl := [(0, a)]) (st' := []) (by decide +kernel) rfl (by decide +kernel) (Nat.ble_eq_true_of_le (by omega)) (m248_q a D0 pa o sub ho hs HS h I t n w0 s B (Q0) (W0) (by have z := (O0).1; omega) (pf)) ?_
          rintro v69 h73 ⟨Ih73, Qh73, f70, f71, f72⟩
          have Rh73 : zMR msP h h73 := R.tr Qh73 (by decide +kernel)
          have Bh73 : vB t n h73 := B.fr Qh73 (by decide +kernel)
          have S112 : vR t n w0 h73 _ ((pSm0 t n (pFac t n o (sub t n))) s) := f72
          have Oh73 : mO h h73 := (O0).tr f71
          have Wh73 : rW n ((pSm0 t n (pFac t n o (sub t n))) s).2 := (W0).fn (pG_sm0 (pG_fac (hs t n)))
          refine zwif_ne (q := 120) (nx := 118) (by decide +kernel) (fun c74 => ?_) (fun c74 => ?_)
          · refine zwW_p [(1, 0, 2), (0, 60, 0)] (q := 123) (ls' := [(2, 37), (0, a), (9, 0)]) (st' := [(0, 60), (2, 37)]) (by decide +kernel) rfl ?_
            refine zwW_cm Ih73 (op := 60) (k' := 250) (n := 1) (kd := 13) (m := 97) (nx := 126) (r := 37) (tl := [(0, 60)]) (st' := []) (by decide +kernel) rfl (by decide +kernel) (Nat.ble_eq_true_of_le (by omega)) (m250_p h73 Ih73 60 t n ((pSm0 t n (pFac t n o (sub t n)) s).2).1 Bh73 ((S112.qq (by omega))).1 rfl) ?_
            rintro x _ ⟨rfl, ⟨rfl, c75⟩ | ⟨rfl, c75⟩⟩
            · refine zwif_ne (q := 152) (nx := 129) (by decide +kernel) (fun c76 => ?_) (fun c76 => ?_)
              · have HK : pK t n (pSm0 t n (pFac t n o (sub t n)) s).2.1 = 60 ∨ pK t n (pSm0 t n (pFac t n o (sub t n)) s).2.1 = 62 ∨ pK t n (pSm0 t n (pFac t n o (sub t n)) s).2.1 = 61 := by first | exact Or.inl c75 | exact Or.inr (Or.inl c75) | exact Or.inr (Or.inr c75)
                have HZ : pK t n (pSm0 t n (pFac t n o (sub t n)) s).2.1 ≠ 0 := by omega
                have PL := pK_lt HZ
                have QT := ((S112.qq (by omega))).1.1
                refine zwW_p [(1, 0, 2)] (q := 153) (ls' := [(2, 37), (0, a), (9, 0)]) (st' := [(2, 37)]) (by decide +kernel) rfl ?_
                refine zwW_gc Ih73 (kd := 13) (bn := 40) (n := 97) (c := 98) (nx := 156) (by decide +kernel) ?_
                refine zwW_p [(1, 0, 2)] (q := 157) (ls' := [(2, 37), (0, a), (9, 0)]) (st' := [(2, 37), (2, 98)]) (by decide +kernel) rfl ?_
                refine zwW_gs Ih73 (kd := 13) (bn := 42) (n := 97) (t := 0) (lo := 0) (hi := 400) (nx := 160) (by decide +kernel) ?_
                intro v77 ev77 lv77 uv77
                refine zwW_al Ih73 (a1 := 98) (a2 := 98) (kd := 21) (n := 400) (t := 0) (lo := -128) (hi := 127) (nx := 161) (by decide +kernel) ⟨by decide, by decide⟩ ⟨by omega, by omega⟩ ?_
                intro v78 ev78 lv78 uv78
                have E161 : v78 = t ((pSm0 t n (pFac t n o (sub t n)) s).2.1) := by rw [ev78]; refine Eq.trans ?_ (Bh73.2.2 ((pSm0 t n (pFac t n o (sub t n)) s).2.1) (by omega)); first | rfl | (congr 1; omega)
                have P161 : v78 = pK t n (pSm0 t n (pFac t n o (sub t n)) s).2.1 := by rcases HK with z | z | z <;> (have y := (pK_sg rfl).mp z; omega)
                refine zwW_p [(2, 2, 0), (1, 0, 2)] (q := 163) (ls' := [(2, 37), (0, a), (0, v78)]) (st' := [(2, 37)]) (by decide +kernel) rfl ?_
                refine zwW_cmv Ih73 (op := 60) (k' := 268) (n := 0) (kd := 13) (m := 97) (nx := 166) (r := 37) (tl := []) (st' := []) (by decide +kernel) rfl (by decide +kernel) (Nat.ble_eq_true_of_le (by omega)) (m268_p h73 Ih73 t n ((pSm0 t n (pFac t n o (sub t n)) s).2).1 Bh73 ((S112.qq (by omega))).1) ?_
                rintro h80 ⟨Ih80, Qh80, f79⟩
                have Rh80 : zMR msP h h80 := Rh73.tr Qh80 (by decide +kernel)
                have Bh80 : vB t n h80 := Bh73.fr Qh80 (by decide +kernel)
                have RQh80 : mQ t n w0 h80 (pA t n ((pSm0 t n (pFac t n o (sub t n)) s).2)) := ((S112.qq (by omega))).tk Qh80 (by decide +kernel) ⟨by have z := (Oh73).1; omega, by have z := (Oh73).1; omega⟩ f79
                have Vh80 : rV n (pA t n ((pSm0 t n (pFac t n o (sub t n)) s).2)) := (Wh73).a (by omega)
                have Eh80 : fld h80 37 44 = -1 := (Qh80.f (a1 := 37) (a2 := 37) (j1 := 44) (j2 := 45) (by decide +kernel) ⟨by decide, by decide⟩ ⟨by decide, by decide⟩).trans (S112.e (by omega))
                have Oh80 : mO h h80 := (Oh73).tr (mO.fr Qh80 (by decide +kernel)).1
                refine zwW_p [(1, 0, 2), (1, 1, 0)] (q := 168) (ls' := [(2, 37), (0, a), (0, v78)]) (st' := [(0, a), (2, 37)]) (by decide +kernel) rfl ?_
                refine zwW_cm Ih80 (op := 60) (k' := 248) (n := 1) (kd := 13) (m := 97) (nx := 171) (r := 37) (tl := [(0, a)]) (st' := []) (by decide +kernel) rfl (by decide +kernel) (Nat.ble_eq_true_of_le (by omega)) (m248_q a D0 pa o sub ho hs HS h80 Ih80 t n w0 (pA t n ((pSm0 t n (pFac t n o (sub t n)) s).2)) Bh80 (RQh80) (Vh80.wk) (by have z := (Oh80).1; omega) (Eh80)) ?_
                rintro v81 h85 ⟨Ih85, Qh85, f82, f83, f84⟩
                have Rh85 : zMR msP h h85 := Rh80.tr Qh85 (by decide +kernel)
                have Bh85 : vB t n h85 := Bh80.fr Qh85 (by decide +kernel)
                have S168 : vR t n w0 h85 _ ((pSm0 t n (pFac t n o (sub t n))) (pA t n ((pSm0 t n (pFac t n o (sub t n)) s).2))) := f84
                have Oh85 : mO h h85 := (Oh80).tr f83
                have Vh85 : rV n ((pSm0 t n (pFac t n o (sub t n))) (pA t n ((pSm0 t n (pFac t n o (sub t n)) s).2))).2 := (Vh80).fn (pG_sm0 (pG_fac (hs t n)))
                refine zwif_eq (q := 187) (nx := 174) (by decide +kernel) (fun c86 => ?_) (fun c86 => ?_)
                · refine zwW_p [(0, 0, 0)] (q := 188) (ls' := [(2, 37), (0, a), (0, v78)]) (st' := [(0, 0)]) (by decide +kernel) rfl ?_
                  refine zwW_ret (nx := 189) (a := 1) (b := 0) (by decide +kernel) rfl (Or.inr (Or.inl ⟨rfl, by omega⟩)) ?_
                  refine ⟨Ih85, Rh85, by omega, Oh85, ?_⟩
                  show vR t n w0 h85 0 (pHol t n o (hol t n) (eit t n) (pSm0 t n (pFac t n o (sub t n))) s)
                  first
                  | (rw [pHol_n1 CN.1 CN.2 (ho.resolve_right (fun z => by omega)).2 (S32.b1 (by omega))]; exact mR_t ((S168.qq (by omega))) ((S168.e (by omega))))
                  | (rw [pHol_n0 CN.1 CN.2 (ho.resolve_right (fun z => by omega)).2 (S32.b0 (by omega))]; exact S32.z (by omega))
                  | (rw [pHol_nd CN.1 CN.2 (fun z1 => by have y := ho.resolve_left (fun y => by omega); rw [z1] at y; cases y.2)]; exact mR_f rfl)
                  | (rw [pHol_b1 CP (ho.resolve_right (fun z => by omega)).2 (S85.b1 (by omega)) c75]; exact mR_t ((S168.qq (by omega))) ((S168.e (by omega))))
                  | (rw [pHol_bn CP (ho.resolve_right (fun z => by omega)).2 (S85.b1 (by omega)) c75]; exact mR_f rfl)
                  | (rw [pHol_b0 CP (ho.resolve_right (fun z => by omega)).2 (S85.b0 (by omega))]; exact S85.z (by omega))
                  | (rw [pHol_bd CP (fun z1 => by have y := ho.resolve_left (fun y => by omega); rw [z1] at y; cases y.2)]; exact mR_f rfl)
                  | (rw [pHol_s0 CN CP0 (S112.b0 (by omega))]; exact S112.z (by omega))
                  | (rw [pHol_sn CN CP0 (S112.b1 (by omega)) (by omega)]; exact mR_f rfl)
                  | (rw [pHol_s1 CN CP0 (S112.b1 (by omega)) HK (S168.b1 (by omega)), ← P161]; exact mR_t ((S168.qq (by omega))) ((S168.e (by omega))))
                  | (rw [pHol_s2 CN CP0 (S112.b1 (by omega)) HK (S168.b0 (by omega))]; exact S168.z (by omega))
                  | (exfalso; omega)
                · refine zwW_p [(1, 0, 2), (1, 2, 0), (0, 0, 0)] (q := 177) (ls' := [(2, 37), (0, a), (0, v78)]) (st' := [(0, 0), (0, v78), (2, 37)]) (by decide +kernel) rfl ?_
                  refine zwW_cm Ih85 (op := 60) (k' := 270) (n := 2) (kd := 13) (m := 97) (nx := 180) (r := 37) (tl := [(0, v78), (0, 0)]) (st' := []) (by decide +kernel) rfl (by decide +kernel) (Nat.ble_eq_true_of_le (by omega)) (m270 h85 Ih85 v78 0 (by omega) (by omega) (by have z := (Oh85).1; omega) ((Vh85).mlt Bh85 (S168.qq (by omega)))) ?_
                  rintro x h90 ⟨Ih90, Qh90, rfl, f87, f88, f89⟩
                  have Rh90 : zMR msP h h90 := Rh85.tr Qh90 (by decide +kernel)
                  have Bh90 : vB t n h90 := Bh85.fr Qh90 (by decide +kernel)
                  have RQh90 : mQ t n w0 h90 (pW (-v78) ((pSm0 t n (pFac t n o (sub t n)) (pA t n ((pSm0 t n (pFac t n o (sub t n)) s).2))).2)) := ((S168.qq (by omega))).put Qh90 (by decide +kernel) f87 f88 (eEn_o (by omega)) (Or.inr (Or.inr (by omega)))
                  have Eh90 : fld h90 37 44 = -1 := (Qh90.f (a1 := 37) (a2 := 37) (j1 := 44) (j2 := 45) (by decide +kernel) ⟨by decide, by decide⟩ ⟨by decide, by decide⟩).trans (S168.e (by omega))
                  have Oh90 : mO h h90 := (Oh85).tr (mO.put Qh90 (by decide +kernel) f89)
                  refine zwif_eq (q := 187) (nx := 183) (by decide +kernel) (fun c91 => ?_) (fun c91 => ?_)
                  · exfalso; omega
                  · refine zwW_p [(0, 1, 0), (24, 188, 0)] (q := 188) (ls' := [(2, 37), (0, a), (0, v78)]) (st' := [(0, 1)]) (by decide +kernel) rfl ?_
                    refine zwW_ret (nx := 189) (a := 1) (b := 0) (by decide +kernel) rfl (Or.inr (Or.inl ⟨rfl, by omega⟩)) ?_
                    refine ⟨Ih90, Rh90, by omega, Oh90, ?_⟩
                    show vR t n w0 h90 1 (pHol t n o (hol t n) (eit t n) (pSm0 t n (pFac t n o (sub t n))) s)
                    first
                    | (rw [pHol_n1 CN.1 CN.2 (ho.resolve_right (fun z => by omega)).2 (S32.b1 (by omega))]; exact mR_t (RQh90) (Eh90))
                    | (rw [pHol_n0 CN.1 CN.2 (ho.resolve_right (fun z => by omega)).2 (S32.b0 (by omega))]; exact S32.z (by omega))
                    | (rw [pHol_nd CN.1 CN.2 (fun z1 => by have y := ho.resolve_left (fun y => by omega); rw [z1] at y; cases y.2)]; exact mR_f rfl)
                    | (rw [pHol_b1 CP (ho.resolve_right (fun z => by omega)).2 (S85.b1 (by omega)) c75]; exact mR_t (RQh90) (Eh90))
                    | (rw [pHol_bn CP (ho.resolve_right (fun z => by omega)).2 (S85.b1 (by omega)) c75]; exact mR_f rfl)
                    | (rw [pHol_b0 CP (ho.resolve_right (fun z => by omega)).2 (S85.b0 (by omega))]; exact S85.z (by omega))
                    | (rw [pHol_bd CP (fun z1 => by have y := ho.resolve_left (fun y => by omega); rw [z1] at y; cases y.2)]; exact mR_f rfl)
                    | (rw [pHol_s0 CN CP0 (S112.b0 (by omega))]; exact S112.z (by omega))
                    | (rw [pHol_sn CN CP0 (S112.b1 (by omega)) (by omega)]; exact mR_f rfl)
                    | (rw [pHol_s1 CN CP0 (S112.b1 (by omega)) HK (S168.b1 (by omega)), ← P161]; exact mR_t (RQh90) (Eh90))
                    | (rw [pHol_s2 CN CP0 (S112.b1 (by omega)) HK (S168.b0 (by omega))]; exact S168.z (by omega))
                    | (exfalso; omega)
              · exfalso; omega
            · refine zwif_ne (q := 152) (nx := 129) (by decide +kernel) (fun c92 => ?_) (fun c92 => ?_)
              · exfalso; omega
              · refine zwW_p [(1, 0, 2), (0, 62, 0)] (q := 132) (ls' := [(2, 37), (0, a), (9, 0)]) (st' := [(0, 62), (2, 37)]) (by decide +kernel) rfl ?_
                refine zwW_cm Ih73 (op := 60) (k' := 250) (n := 1) (kd := 13) (m := 97) (nx := 135) (r := 37) (tl := [(0, 62)]) (st' := []) (by decide +kernel) rfl (by decide +kernel) (Nat.ble_eq_true_of_le (by omega)) (m250_p h73 Ih73 62 t n ((pSm0 t n (pFac t n o (sub t n)) s).2).1 Bh73 ((S112.qq (by omega))).1 rfl) ?_
                rintro x _ ⟨rfl, ⟨rfl, c93⟩ | ⟨rfl, c93⟩⟩
                · refine zwif_ne (q := 152) (nx := 138) (by decide +kernel) (fun c94 => ?_) (fun c94 => ?_)
                  · have HK : pK t n (pSm0 t n (pFac t n o (sub t n)) s).2.1 = 60 ∨ pK t n (pSm0 t n (pFac t n o (sub t n)) s).2.1 = 62 ∨ pK t n (pSm0 t n (pFac t n o (sub t n)) s).2.1 = 61 := by first | exact Or.inl c93 | exact Or.inr (Or.inl c93) | exact Or.inr (Or.inr c93)
                    have HZ : pK t n (pSm0 t n (pFac t n o (sub t n)) s).2.1 ≠ 0 := by omega
                    have PL := pK_lt HZ
                    have QT := ((S112.qq (by omega))).1.1
                    refine zwW_p [(1, 0, 2)] (q := 153) (ls' := [(2, 37), (0, a), (9, 0)]) (st' := [(2, 37)]) (by decide +kernel) rfl ?_
                    refine zwW_gc Ih73 (kd := 13) (bn := 40) (n := 97) (c := 98) (nx := 156) (by decide +kernel) ?_
                    refine zwW_p [(1, 0, 2)] (q := 157) (ls' := [(2, 37), (0, a), (9, 0)]) (st' := [(2, 37), (2, 98)]) (by decide +kernel) rfl ?_
                    refine zwW_gs Ih73 (kd := 13) (bn := 42) (n := 97) (t := 0) (lo := 0) (hi := 400) (nx := 160) (by decide +kernel) ?_
                    intro v95 ev95 lv95 uv95
                    refine zwW_al Ih73 (a1 := 98) (a2 := 98) (kd := 21) (n := 400) (t := 0) (lo := -128) (hi := 127) (nx := 161) (by decide +kernel) ⟨by decide, by decide⟩ ⟨by omega, by omega⟩ ?_
                    intro v96 ev96 lv96 uv96
                    have E161 : v96 = t ((pSm0 t n (pFac t n o (sub t n)) s).2.1) := by rw [ev96]; refine Eq.trans ?_ (Bh73.2.2 ((pSm0 t n (pFac t n o (sub t n)) s).2.1) (by omega)); first | rfl | (congr 1; omega)
                    have P161 : v96 = pK t n (pSm0 t n (pFac t n o (sub t n)) s).2.1 := by rcases HK with z | z | z <;> (have y := (pK_sg rfl).mp z; omega)
                    refine zwW_p [(2, 2, 0), (1, 0, 2)] (q := 163) (ls' := [(2, 37), (0, a), (0, v96)]) (st' := [(2, 37)]) (by decide +kernel) rfl ?_
                    refine zwW_cmv Ih73 (op := 60) (k' := 268) (n := 0) (kd := 13) (m := 97) (nx := 166) (r := 37) (tl := []) (st' := []) (by decide +kernel) rfl (by decide +kernel) (Nat.ble_eq_true_of_le (by omega)) (m268_p h73 Ih73 t n ((pSm0 t n (pFac t n o (sub t n)) s).2).1 Bh73 ((S112.qq (by omega))).1) ?_
                    rintro h98 ⟨Ih98, Qh98, f97⟩
                    have Rh98 : zMR msP h h98 := Rh73.tr Qh98 (by decide +kernel)
                    have Bh98 : vB t n h98 := Bh73.fr Qh98 (by decide +kernel)
                    have RQh98 : mQ t n w0 h98 (pA t n ((pSm0 t n (pFac t n o (sub t n)) s).2)) := ((S112.qq (by omega))).tk Qh98 (by decide +kernel) ⟨by have z := (Oh73).1; omega, by have z := (Oh73).1; omega⟩ f97
                    have Vh98 : rV n (pA t n ((pSm0 t n (pFac t n o (sub t n)) s).2)) := (Wh73).a (by omega)
                    have Eh98 : fld h98 37 44 = -1 := (Qh98.f (a1 := 37) (a2 := 37) (j1 := 44) (j2 := 45) (by decide +kernel) ⟨by decide, by decide⟩ ⟨by decide, by decide⟩).trans (S112.e (by omega))
                    have Oh98 : mO h h98 := (Oh73).tr (mO.fr Qh98 (by decide +kernel)).1
                    refine zwW_p [(1, 0, 2), (1, 1, 0)] (q := 168) (ls' := [(2, 37), (0, a), (0, v96)]) (st' := [(0, a), (2, 37)]) (by decide +kernel) rfl ?_
                    refine zwW_cm Ih98 (op := 60) (k' := 248) (n := 1) (kd := 13) (m := 97) (nx := 171) (r := 37) (tl := [(0, a)]) (st' := []) (by decide +kernel) rfl (by decide +kernel) (Nat.ble_eq_true_of_le (by omega)) (m248_q a D0 pa o sub ho hs HS h98 Ih98 t n w0 (pA t n ((pSm0 t n (pFac t n o (sub t n)) s).2)) Bh98 (RQh98) (Vh98.wk) (by have z := (Oh98).1; omega) (Eh98)) ?_
                    rintro v99 h103 ⟨Ih103, Qh103, f100, f101, f102⟩
                    have Rh103 : zMR msP h h103 := Rh98.tr Qh103 (by decide +kernel)
                    have Bh103 : vB t n h103 := Bh98.fr Qh103 (by decide +kernel)
                    have S168 : vR t n w0 h103 _ ((pSm0 t n (pFac t n o (sub t n))) (pA t n ((pSm0 t n (pFac t n o (sub t n)) s).2))) := f102
                    have Oh103 : mO h h103 := (Oh98).tr f101
                    have Vh103 : rV n ((pSm0 t n (pFac t n o (sub t n))) (pA t n ((pSm0 t n (pFac t n o (sub t n)) s).2))).2 := (Vh98).fn (pG_sm0 (pG_fac (hs t n)))
                    refine zwif_eq (q := 187) (nx := 174) (by decide +kernel) (fun c104 => ?_) (fun c104 => ?_)
                    · refine zwW_p [(0, 0, 0)] (q := 188) (ls' := [(2, 37), (0, a), (0, v96)]) (st' := [(0, 0)]) (by decide +kernel) rfl ?_
                      refine zwW_ret (nx := 189) (a := 1) (b := 0) (by decide +kernel) rfl (Or.inr (Or.inl ⟨rfl, by omega⟩)) ?_
                      refine ⟨Ih103, Rh103, by omega, Oh103, ?_⟩
                      show vR t n w0 h103 0 (pHol t n o (hol t n) (eit t n) (pSm0 t n (pFac t n o (sub t n))) s)
                      first
                      | (rw [pHol_n1 CN.1 CN.2 (ho.resolve_right (fun z => by omega)).2 (S32.b1 (by omega))]; exact mR_t ((S168.qq (by omega))) ((S168.e (by omega))))
                      | (rw [pHol_n0 CN.1 CN.2 (ho.resolve_right (fun z => by omega)).2 (S32.b0 (by omega))]; exact S32.z (by omega))
                      | (rw [pHol_nd CN.1 CN.2 (fun z1 => by have y := ho.resolve_left (fun y => by omega); rw [z1] at y; cases y.2)]; exact mR_f rfl)
                      | (rw [pHol_b1 CP (ho.resolve_right (fun z => by omega)).2 (S85.b1 (by omega)) c93]; exact mR_t ((S168.qq (by omega))) ((S168.e (by omega))))
                      | (rw [pHol_bn CP (ho.resolve_right (fun z => by omega)).2 (S85.b1 (by omega)) c93]; exact mR_f rfl)
                      | (rw [pHol_b0 CP (ho.resolve_right (fun z => by omega)).2 (S85.b0 (by omega))]; exact S85.z (by omega))
                      | (rw [pHol_bd CP (fun z1 => by have y := ho.resolve_left (fun y => by omega); rw [z1] at y; cases y.2)]; exact mR_f rfl)
                      | (rw [pHol_s0 CN CP0 (S112.b0 (by omega))]; exact S112.z (by omega))
                      | (rw [pHol_sn CN CP0 (S112.b1 (by omega)) (by omega)]; exact mR_f rfl)
                      | (rw [pHol_s1 CN CP0 (S112.b1 (by omega)) HK (S168.b1 (by omega)), ← P161]; exact mR_t ((S168.qq (by omega))) ((S168.e (by omega))))
                      | (rw [pHol_s2 CN CP0 (S112.b1 (by omega)) HK (S168.b0 (by omega))]; exact S168.z (by omega))
                      | (exfalso; omega)
                    · refine zwW_p [(1, 0, 2), (1, 2, 0), (0, 0, 0)] (q := 177) (ls' := [(2, 37), (0, a), (0, v96)]) (st' := [(0, 0), (0, v96), (2, 37)]) (by decide +kernel) rfl ?_
                      refine zwW_cm Ih103 (op := 60) (k' := 270) (n := 2) (kd := 13) (m := 97) (nx := 180) (r := 37) (tl := [(0, v96), (0, 0)]) (st' := []) (by decide +kernel) rfl (by decide +kernel) (Nat.ble_eq_true_of_le (by omega)) (m270 h103 Ih103 v96 0 (by omega) (by omega) (by have z := (Oh103).1; omega) ((Vh103).mlt Bh103 (S168.qq (by omega)))) ?_
                      rintro x h108 ⟨Ih108, Qh108, rfl, f105, f106, f107⟩
                      have Rh108 : zMR msP h h108 := Rh103.tr Qh108 (by decide +kernel)
                      have Bh108 : vB t n h108 := Bh103.fr Qh108 (by decide +kernel)
                      have RQh108 : mQ t n w0 h108 (pW (-v96) ((pSm0 t n (pFac t n o (sub t n)) (pA t n ((pSm0 t n (pFac t n o (sub t n)) s).2))).2)) := ((S168.qq (by omega))).put Qh108 (by decide +kernel) f105 f106 (eEn_o (by omega)) (Or.inr (Or.inr (by omega)))
                      have Eh108 : fld h108 37 44 = -1 := (Qh108.f (a1 := 37) (a2 := 37) (j1 := 44) (j2 := 45) (by decide +kernel) ⟨by decide, by decide⟩ ⟨by decide, by decide⟩).trans (S168.e (by omega))
                      have Oh108 : mO h h108 := (Oh103).tr (mO.put Qh108 (by decide +kernel) f107)
                      refine zwif_eq (q := 187) (nx := 183) (by decide +kernel) (fun c109 => ?_) (fun c109 => ?_)
                      · exfalso; omega
                      · refine zwW_p [(0, 1, 0), (24, 188, 0)] (q := 188) (ls' := [(2, 37), (0, a), (0, v96)]) (st' := [(0, 1)]) (by decide +kernel) rfl ?_
                        refine zwW_ret (nx := 189) (a := 1) (b := 0) (by decide +kernel) rfl (Or.inr (Or.inl ⟨rfl, by omega⟩)) ?_
                        refine ⟨Ih108, Rh108, by omega, Oh108, ?_⟩
                        show vR t n w0 h108 1 (pHol t n o (hol t n) (eit t n) (pSm0 t n (pFac t n o (sub t n))) s)
                        first
                        | (rw [pHol_n1 CN.1 CN.2 (ho.resolve_right (fun z => by omega)).2 (S32.b1 (by omega))]; exact mR_t (RQh108) (Eh108))
                        | (rw [pHol_n0 CN.1 CN.2 (ho.resolve_right (fun z => by omega)).2 (S32.b0 (by omega))]; exact S32.z (by omega))
                        | (rw [pHol_nd CN.1 CN.2 (fun z1 => by have y := ho.resolve_left (fun y => by omega); rw [z1] at y; cases y.2)]; exact mR_f rfl)
                        | (rw [pHol_b1 CP (ho.resolve_right (fun z => by omega)).2 (S85.b1 (by omega)) c93]; exact mR_t (RQh108) (Eh108))
                        | (rw [pHol_bn CP (ho.resolve_right (fun z => by omega)).2 (S85.b1 (by omega)) c93]; exact mR_f rfl)
                        | (rw [pHol_b0 CP (ho.resolve_right (fun z => by omega)).2 (S85.b0 (by omega))]; exact S85.z (by omega))
                        | (rw [pHol_bd CP (fun z1 => by have y := ho.resolve_left (fun y => by omega); rw [z1] at y; cases y.2)]; exact mR_f rfl)
                        | (rw [pHol_s0 CN CP0 (S112.b0 (by omega))]; exact S112.z (by omega))
                        | (rw [pHol_sn CN CP0 (S112.b1 (by omega)) (by omega)]; exact mR_f rfl)
                        | (rw [pHol_s1 CN CP0 (S112.b1 (by omega)) HK (S168.b1 (by omega)), ← P161]; exact mR_t (RQh108) (Eh108))
                        | (rw [pHol_s2 CN CP0 (S112.b1 (by omega)) HK (S168.b0 (by omega))]; exact S168.z (by omega))
                        | (exfalso; omega)
                  · exfalso; omega
                · refine zwif_ne (q := 152) (nx := 138) (by decide +kernel) (fun c110 => ?_) (fun c110 => ?_)
                  · exfalso; omega
                  · refine zwW_p [(1, 0, 2), (0, 61, 0)] (q := 141) (ls' := [(2, 37), (0, a), (9, 0)]) (st' := [(0, 61), (2, 37)]) (by decide +kernel) rfl ?_
                    refine zwW_cm Ih73 (op := 60) (k' := 250) (n := 1) (kd := 13) (m := 97) (nx := 144) (r := 37) (tl := [(0, 61)]) (st' := []) (by decide +kernel) rfl (by decide +kernel) (Nat.ble_eq_true_of_le (by omega)) (m250_p h73 Ih73 61 t n ((pSm0 t n (pFac t n o (sub t n)) s).2).1 Bh73 ((S112.qq (by omega))).1 rfl) ?_
                    rintro x _ ⟨rfl, ⟨rfl, c111⟩ | ⟨rfl, c111⟩⟩
                    · refine zwif_ne (q := 152) (nx := 147) (by decide +kernel) (fun c112 => ?_) (fun c112 => ?_)
                      · have HK : pK t n (pSm0 t n (pFac t n o (sub t n)) s).2.1 = 60 ∨ pK t n (pSm0 t n (pFac t n o (sub t n)) s).2.1 = 62 ∨ pK t n (pSm0 t n (pFac t n o (sub t n)) s).2.1 = 61 := by first | exact Or.inl c111 | exact Or.inr (Or.inl c111) | exact Or.inr (Or.inr c111)
                        have HZ : pK t n (pSm0 t n (pFac t n o (sub t n)) s).2.1 ≠ 0 := by omega
                        have PL := pK_lt HZ
                        have QT := ((S112.qq (by omega))).1.1
                        refine zwW_p [(1, 0, 2)] (q := 153) (ls' := [(2, 37), (0, a), (9, 0)]) (st' := [(2, 37)]) (by decide +kernel) rfl ?_
                        refine zwW_gc Ih73 (kd := 13) (bn := 40) (n := 97) (c := 98) (nx := 156) (by decide +kernel) ?_
                        refine zwW_p [(1, 0, 2)] (q := 157) (ls' := [(2, 37), (0, a), (9, 0)]) (st' := [(2, 37), (2, 98)]) (by decide +kernel) rfl ?_
                        refine zwW_gs Ih73 (kd := 13) (bn := 42) (n := 97) (t := 0) (lo := 0) (hi := 400) (nx := 160) (by decide +kernel) ?_
                        intro v113 ev113 lv113 uv113
                        refine zwW_al Ih73 (a1 := 98) (a2 := 98) (kd := 21) (n := 400) (t := 0) (lo := -128) (hi := 127) (nx := 161) (by decide +kernel) ⟨by decide, by decide⟩ ⟨by omega, by omega⟩ ?_
                        intro v114 ev114 lv114 uv114
                        have E161 : v114 = t ((pSm0 t n (pFac t n o (sub t n)) s).2.1) := by rw [ev114]; refine Eq.trans ?_ (Bh73.2.2 ((pSm0 t n (pFac t n o (sub t n)) s).2.1) (by omega)); first | rfl | (congr 1; omega)
                        have P161 : v114 = pK t n (pSm0 t n (pFac t n o (sub t n)) s).2.1 := by rcases HK with z | z | z <;> (have y := (pK_sg rfl).mp z; omega)
                        refine zwW_p [(2, 2, 0), (1, 0, 2)] (q := 163) (ls' := [(2, 37), (0, a), (0, v114)]) (st' := [(2, 37)]) (by decide +kernel) rfl ?_
                        refine zwW_cmv Ih73 (op := 60) (k' := 268) (n := 0) (kd := 13) (m := 97) (nx := 166) (r := 37) (tl := []) (st' := []) (by decide +kernel) rfl (by decide +kernel) (Nat.ble_eq_true_of_le (by omega)) (m268_p h73 Ih73 t n ((pSm0 t n (pFac t n o (sub t n)) s).2).1 Bh73 ((S112.qq (by omega))).1) ?_
                        rintro h116 ⟨Ih116, Qh116, f115⟩
                        have Rh116 : zMR msP h h116 := Rh73.tr Qh116 (by decide +kernel)
                        have Bh116 : vB t n h116 := Bh73.fr Qh116 (by decide +kernel)
                        have RQh116 : mQ t n w0 h116 (pA t n ((pSm0 t n (pFac t n o (sub t n)) s).2)) := ((S112.qq (by omega))).tk Qh116 (by decide +kernel) ⟨by have z := (Oh73).1; omega, by have z := (Oh73).1; omega⟩ f115
                        have Vh116 : rV n (pA t n ((pSm0 t n (pFac t n o (sub t n)) s).2)) := (Wh73).a (by omega)
                        have Eh116 : fld h116 37 44 = -1 := (Qh116.f (a1 := 37) (a2 := 37) (j1 := 44) (j2 := 45) (by decide +kernel) ⟨by decide, by decide⟩ ⟨by decide, by decide⟩).trans (S112.e (by omega))
                        have Oh116 : mO h h116 := (Oh73).tr (mO.fr Qh116 (by decide +kernel)).1
                        refine zwW_p [(1, 0, 2), (1, 1, 0)] (q := 168) (ls' := [(2, 37), (0, a), (0, v114)]) (st' := [(0, a), (2, 37)]) (by decide +kernel) rfl ?_
                        refine zwW_cm Ih116 (op := 60) (k' := 248) (n := 1) (kd := 13) (m := 97) (nx := 171) (r := 37) (tl := [(0, a)]) (st' := []) (by decide +kernel) rfl (by decide +kernel) (Nat.ble_eq_true_of_le (by omega)) (m248_q a D0 pa o sub ho hs HS h116 Ih116 t n w0 (pA t n ((pSm0 t n (pFac t n o (sub t n)) s).2)) Bh116 (RQh116) (Vh116.wk) (by have z := (Oh116).1; omega) (Eh116)) ?_
                        rintro v117 h121 ⟨Ih121, Qh121, f118, f119, f120⟩
                        have Rh121 : zMR msP h h121 := Rh116.tr Qh121 (by decide +kernel)
                        have Bh121 : vB t n h121 := Bh116.fr Qh121 (by decide +kernel)
                        have S168 : vR t n w0 h121 _ ((pSm0 t n (pFac t n o (sub t n))) (pA t n ((pSm0 t n (pFac t n o (sub t n)) s).2))) := f120
                        have Oh121 : mO h h121 := (Oh116).tr f119
                        have Vh121 : rV n ((pSm0 t n (pFac t n o (sub t n))) (pA t n ((pSm0 t n (pFac t n o (sub t n)) s).2))).2 := (Vh116).fn (pG_sm0 (pG_fac (hs t n)))
                        refine zwif_eq (q := 187) (nx := 174) (by decide +kernel) (fun c122 => ?_) (fun c122 => ?_)
                        · refine zwW_p [(0, 0, 0)] (q := 188) (ls' := [(2, 37), (0, a), (0, v114)]) (st' := [(0, 0)]) (by decide +kernel) rfl ?_
                          refine zwW_ret (nx := 189) (a := 1) (b := 0) (by decide +kernel) rfl (Or.inr (Or.inl ⟨rfl, by omega⟩)) ?_
                          refine ⟨Ih121, Rh121, by omega, Oh121, ?_⟩
                          show vR t n w0 h121 0 (pHol t n o (hol t n) (eit t n) (pSm0 t n (pFac t n o (sub t n))) s)
                          first
                          | (rw [pHol_n1 CN.1 CN.2 (ho.resolve_right (fun z => by omega)).2 (S32.b1 (by omega))]; exact mR_t ((S168.qq (by omega))) ((S168.e (by omega))))
                          | (rw [pHol_n0 CN.1 CN.2 (ho.resolve_right (fun z => by omega)).2 (S32.b0 (by omega))]; exact S32.z (by omega))
                          | (rw [pHol_nd CN.1 CN.2 (fun z1 => by have y := ho.resolve_left (fun y => by omega); rw [z1] at y; cases y.2)]; exact mR_f rfl)
                          | (rw [pHol_b1 CP (ho.resolve_right (fun z => by omega)).2 (S85.b1 (by omega)) c111]; exact mR_t ((S168.qq (by omega))) ((S168.e (by omega))))
                          | (rw [pHol_bn CP (ho.resolve_right (fun z => by omega)).2 (S85.b1 (by omega)) c111]; exact mR_f rfl)
                          | (rw [pHol_b0 CP (ho.resolve_right (fun z => by omega)).2 (S85.b0 (by omega))]; exact S85.z (by omega))
                          | (rw [pHol_bd CP (fun z1 => by have y := ho.resolve_left (fun y => by omega); rw [z1] at y; cases y.2)]; exact mR_f rfl)
                          | (rw [pHol_s0 CN CP0 (S112.b0 (by omega))]; exact S112.z (by omega))
                          | (rw [pHol_sn CN CP0 (S112.b1 (by omega)) (by omega)]; exact mR_f rfl)
                          | (rw [pHol_s1 CN CP0 (S112.b1 (by omega)) HK (S168.b1 (by omega)), ← P161]; exact mR_t ((S168.qq (by omega))) ((S168.e (by omega))))
                          | (rw [pHol_s2 CN CP0 (S112.b1 (by omega)) HK (S168.b0 (by omega))]; exact S168.z (by omega))
                          | (exfalso; omega)
                        · refine zwW_p [(1, 0, 2), (1, 2, 0), (0, 0, 0)] (q := 177) (ls' := [(2, 37), (0, a), (0, v114)]) (st' := [(0, 0), (0, v114), (2, 37)]) (by decide +kernel) rfl ?_
                          refine zwW_cm Ih121 (op := 60) (k' := 270) (n := 2) (kd := 13) (m := 97) (nx := 180) (r := 37) (tl := [(0, v114), (0, 0)]) (st' := []) (by decide +kernel) rfl (by decide +kernel) (Nat.ble_eq_true_of_le (by omega)) (m270 h121 Ih121 v114 0 (by omega) (by omega) (by have z := (Oh121).1; omega) ((Vh121).mlt Bh121 (S168.qq (by omega)))) ?_
                          rintro x h126 ⟨Ih126, Qh126, rfl, f123, f124, f125⟩
                          have Rh126 : zMR msP h h126 := Rh121.tr Qh126 (by decide +kernel)
                          have Bh126 : vB t n h126 := Bh121.fr Qh126 (by decide +kernel)
                          have RQh126 : mQ t n w0 h126 (pW (-v114) ((pSm0 t n (pFac t n o (sub t n)) (pA t n ((pSm0 t n (pFac t n o (sub t n)) s).2))).2)) := ((S168.qq (by omega))).put Qh126 (by decide +kernel) f123 f124 (eEn_o (by omega)) (Or.inr (Or.inr (by omega)))
                          have Eh126 : fld h126 37 44 = -1 := (Qh126.f (a1 := 37) (a2 := 37) (j1 := 44) (j2 := 45) (by decide +kernel) ⟨by decide, by decide⟩ ⟨by decide, by decide⟩).trans (S168.e (by omega))
                          have Oh126 : mO h h126 := (Oh121).tr (mO.put Qh126 (by decide +kernel) f125)
                          refine zwif_eq (q := 187) (nx := 183) (by decide +kernel) (fun c127 => ?_) (fun c127 => ?_)
                          · exfalso; omega
                          · refine zwW_p [(0, 1, 0), (24, 188, 0)] (q := 188) (ls' := [(2, 37), (0, a), (0, v114)]) (st' := [(0, 1)]) (by decide +kernel) rfl ?_
                            refine zwW_ret (nx := 189) (a := 1) (b := 0) (by decide +kernel) rfl (Or.inr (Or.inl ⟨rfl, by omega⟩)) ?_
                            refine ⟨Ih126, Rh126, by omega, Oh126, ?_⟩
                            show vR t n w0 h126 1 (pHol t n o (hol t n) (eit t n) (pSm0 t n (pFac t n o (sub t n))) s)
                            first
                            | (rw [pHol_n1 CN.1 CN.2 (ho.resolve_right (fun z => by omega)).2 (S32.b1 (by omega))]; exact mR_t (RQh126) (Eh126))
                            | (rw [pHol_n0 CN.1 CN.2 (ho.resolve_right (fun z => by omega)).2 (S32.b0 (by omega))]; exact S32.z (by omega))
                            | (rw [pHol_nd CN.1 CN.2 (fun z1 => by have y := ho.resolve_left (fun y => by omega); rw [z1] at y; cases y.2)]; exact mR_f rfl)
                            | (rw [pHol_b1 CP (ho.resolve_right (fun z => by omega)).2 (S85.b1 (by omega)) c111]; exact mR_t (RQh126) (Eh126))
                            | (rw [pHol_bn CP (ho.resolve_right (fun z => by omega)).2 (S85.b1 (by omega)) c111]; exact mR_f rfl)
                            | (rw [pHol_b0 CP (ho.resolve_right (fun z => by omega)).2 (S85.b0 (by omega))]; exact S85.z (by omega))
                            | (rw [pHol_bd CP (fun z1 => by have y := ho.resolve_left (fun y => by omega); rw [z1] at y; cases y.2)]; exact mR_f rfl)
                            | (rw [pHol_s0 CN CP0 (S112.b0 (by omega))]; exact S112.z (by omega))
                            | (rw [pHol_sn CN CP0 (S112.b1 (by omega)) (by omega)]; exact mR_f rfl)
                            | (rw [pHol_s1 CN CP0 (S112.b1 (by omega)) HK (S168.b1 (by omega)), ← P161]; exact mR_t (RQh126) (Eh126))
                            | (rw [pHol_s2 CN CP0 (S112.b1 (by omega)) HK (S168.b0 (by omega))]; exact S168.z (by omega))
                            | (exfalso; omega)
                      · exfalso; omega
                    · refine zwif_ne (q := 152) (nx := 147) (by decide +kernel) (fun c128 => ?_) (fun c128 => ?_)
                      · exfalso; omega
                      · refine zwW_p [(1, 0, 2)] (q := 148) (ls' := [(2, 37), (0, a), (9, 0)]) (st' := [(2, 37)]) (by decide +kernel) rfl ?_
                        refine zwW_cm Ih73 (op := 60) (k' := 267) (n := 0) (kd := 13) (m := 97) (nx := 151) (r := 37) (tl := []) (st' := []) (by decide +kernel) rfl (by decide +kernel) (Nat.ble_eq_true_of_le (by omega)) (m267_p h73 Ih73 ((S112.e (by omega)))) ?_
                        rintro x h130 ⟨Ih130, Qh130, rfl, f129⟩
                        have Rh130 : zMR msP h h130 := Rh73.tr Qh130 (by decide +kernel)
                        have Bh130 : vB t n h130 := Bh73.fr Qh130 (by decide +kernel)
                        have Oh130 : mO h h130 := (Oh73).tr (mO.fr Qh130 (by decide +kernel)).1
                        refine zwW_ret (nx := 152) (a := 1) (b := 0) (by decide +kernel) rfl (Or.inr (Or.inl ⟨rfl, by omega⟩)) ?_
                        refine ⟨Ih130, Rh130, by omega, Oh130, ?_⟩
                        show vR t n w0 h130 0 (pHol t n o (hol t n) (eit t n) (pSm0 t n (pFac t n o (sub t n))) s)
                        first
                        | (rw [pHol_n1 CN.1 CN.2 (ho.resolve_right (fun z => by omega)).2 (S32.b1 (by omega))]; exact mR_t ((S112.qq (by omega))) ((S112.e (by omega))))
                        | (rw [pHol_n0 CN.1 CN.2 (ho.resolve_right (fun z => by omega)).2 (S32.b0 (by omega))]; exact S32.z (by omega))
                        | (rw [pHol_nd CN.1 CN.2 (fun z1 => by have y := ho.resolve_left (fun y => by omega); rw [z1] at y; cases y.2)]; exact mR_f (f129.trans ((S112.qq (by omega))).1.1))
                        | (rw [pHol_b1 CP (ho.resolve_right (fun z => by omega)).2 (S85.b1 (by omega)) c111]; exact mR_t ((S112.qq (by omega))) ((S112.e (by omega))))
                        | (rw [pHol_bn CP (ho.resolve_right (fun z => by omega)).2 (S85.b1 (by omega)) c111]; exact mR_f (f129.trans ((S112.qq (by omega))).1.1))
                        | (rw [pHol_b0 CP (ho.resolve_right (fun z => by omega)).2 (S85.b0 (by omega))]; exact S85.z (by omega))
                        | (rw [pHol_bd CP (fun z1 => by have y := ho.resolve_left (fun y => by omega); rw [z1] at y; cases y.2)]; exact mR_f (f129.trans ((S112.qq (by omega))).1.1))
                        | (rw [pHol_s0 CN CP0 (S112.b0 (by omega))]; exact S112.z (by omega))
                        | (rw [pHol_sn CN CP0 (S112.b1 (by omega)) (by omega)]; exact mR_f (f129.trans ((S112.qq (by omega))).1.1))
                        | (rw [pHol_s1 CN CP0 (S112.b1 (by omega)) HK (S168.b1 (by omega)), ← P161]; exact mR_t ((S112.qq (by omega))) ((S112.e (by omega))))
                        | (rw [pHol_s2 CN CP0 (S112.b1 (by omega)) HK (S168.b0 (by omega))]; exact S168.z (by omega))
                        | (exfalso; omega)
          · refine zwW_p [(0, 0, 0)] (q := 119) (ls' := [(2, 37), (0, a), (9, 0)]) (st' := [(0, 0)]) (by decide +kernel) rfl ?_
            refine zwW_ret (nx := 120) (a := 1) (b := 0) (by decide +kernel) rfl (Or.inr (Or.inl ⟨rfl, by omega⟩)) ?_
            refine ⟨Ih73, Rh73, by omega, Oh73, ?_⟩
            show vR t n w0 h73 0 (pHol t n o (hol t n) (eit t n) (pSm0 t n (pFac t n o (sub t n))) s)
            first
            | (rw [pHol_n1 CN.1 CN.2 (ho.resolve_right (fun z => by omega)).2 (S32.b1 (by omega))]; exact mR_t ((S112.qq (by omega))) ((S112.e (by omega))))
            | (rw [pHol_n0 CN.1 CN.2 (ho.resolve_right (fun z => by omega)).2 (S32.b0 (by omega))]; exact S32.z (by omega))
            | (rw [pHol_nd CN.1 CN.2 (fun z1 => by have y := ho.resolve_left (fun y => by omega); rw [z1] at y; cases y.2)]; exact mR_f rfl)
            | (rw [pHol_b1 CP (ho.resolve_right (fun z => by omega)).2 (S85.b1 (by omega)) c30]; exact mR_t ((S112.qq (by omega))) ((S112.e (by omega))))
            | (rw [pHol_bn CP (ho.resolve_right (fun z => by omega)).2 (S85.b1 (by omega)) c30]; exact mR_f rfl)
            | (rw [pHol_b0 CP (ho.resolve_right (fun z => by omega)).2 (S85.b0 (by omega))]; exact S85.z (by omega))
            | (rw [pHol_bd CP (fun z1 => by have y := ho.resolve_left (fun y => by omega); rw [z1] at y; cases y.2)]; exact mR_f rfl)
            | (rw [pHol_s0 CN CP0 (S112.b0 (by omega))]; exact S112.z (by omega))
            | (rw [pHol_sn CN CP0 (S112.b1 (by omega)) (by omega)]; exact mR_f rfl)
            | (rw [pHol_s1 CN CP0 (S112.b1 (by omega)) HK (S168.b1 (by omega)), ← P161]; exact mR_t ((S112.qq (by omega))) ((S112.e (by omega))))
            | (rw [pHol_s2 CN CP0 (S112.b1 (by omega)) HK (S168.b0 (by omega))]; exact S168.z (by omega))
            | (exfalso; omega)
        · exfalso; omega
    · exfalso; omega
-- WheelLandModel.each(I)Z
theorem m271_q {sc : List Int} (a : Int) (D0 : Nat) (pa : 0 ≤ a ∧ a ≤ 8) (o : Bool) (sub : pT → Nat → pQ → pR) (ho : (a < 8 ∧ o = true) ∨ (8 ≤ a ∧ o = false)) (hs : ∀ (t : pT) (n : Nat), pG n (sub t n)) (HS : a < 8 → mX sc D0 248 (a + 1) sub) (hol eit : pT → Nat → pQ → pR) (hh : ∀ (t : pT) (n : Nat), pG n (hol t n)) (he : ∀ (t : pT) (n : Nat), pG n (eit t n)) (HT : a < 8 → mX sc D0 286 (a + 1) hol) (HE : a < 8 → mX sc D0 249 (a + 1) eit) : mX sc (D0 + 24) 271 a (fun t n => pBth t n (pHol t n o (hol t n) (eit t n) (pSm0 t n (pFac t n o (sub t n))))) := by
  intro h I t n w0 s B Q0 W0 pc pf
  have bc := I.b (a1 := 37) (a2 := 37) (j1 := 47) (j2 := 48) (lo := -1) (hi := 4) (by decide +kernel) (r := 37) (j := 47) (by decide) (by decide) (by decide) (by decide)
  have B2 := B.2.1
  have O0 : mO h h := mO.rf
  refine zwC_of (D := D0 + 23) 2 (by decide +kernel) rfl (ls := [(2, 37), (0, a)]) rfl ?_
  have R : zMR msP h h := zMR.rf _ _
  refine zwW_p [(1, 0, 2), (1, 1, 0)] (q := 2) (ls' := [(2, 37), (0, a)]) (st' := [(0, a), (2, 37)]) (by decide +kernel) rfl ?_
  refine zwW_cm I (op := 60) (k' := 286) (n := 1) (kd := 13) (m := 97) (nx := 5) (r := 37) (tl := [(0, a)]) (st' := []) (by decide +kernel) rfl (by decide +kernel) (Nat.ble_eq_true_of_le (by omega)) (m286_q a D0 pa o sub ho hs HS hol eit hh he HT HE h I t n w0 s B (Q0) (W0) (by have z := (O0).1; omega) (pf)) ?_
  rintro v1 h5 ⟨Ih5, Qh5, f2, f3, f4⟩
  have Rh5 : zMR msP h h5 := R.tr Qh5 (by decide +kernel)
  have Bh5 : vB t n h5 := B.fr Qh5 (by decide +kernel)
  have S2 : vR t n w0 h5 _ ((pHol t n o (hol t n) (eit t n) (pSm0 t n (pFac t n o (sub t n)))) s) := f4
  have Oh5 : mO h h5 := (O0).tr f3
  have Wh5 : rW n ((pHol t n o (hol t n) (eit t n) (pSm0 t n (pFac t n o (sub t n)))) s).2 := (W0).fn (pG_hol (hh t n) (he t n) (pG_sm0 (pG_fac (hs t n))))
  refine zwif_ne (q := 10) (nx := 8) (by decide +kernel) (fun c6 => ?_) (fun c6 => ?_)
  · have L7 : ∀ (n0 : Nat) (hL7 : Hp), n0 = (fld hL7 37 41 - fld hL7 37 42).toNat → (vB t n hL7) → (mO h hL7) → (vL t n w0 hL7 (pLw t n 19 (pHol t n o (hol t n) (eit t n) (pSm0 t n (pFac t n o (sub t n))))) (pBth t n (pHol t n o (hol t n) (eit t n) (pSm0 t n (pFac t n o (sub t n)))) s)) → zI hL7 → zMR msP h hL7 → zwW sc (D0 + 23) 271 10 [(2, 37), (0, a)] [] hL7 (zwRt 0 (fun x g => zI g ∧ zMR msP h g ∧ (0 ≤ x ∧ x ≤ 1) ∧ mO h g ∧ vR t n w0 g x (pBth t n (pHol t n o (hol t n) (eit t n) (pSm0 t n (pFac t n o (sub t n)))) s))) := by
      intro n0
      induction n0 using Nat.strongRecOn with
      | ind n0 IHL7 =>
        intro hL7 hnL7 iL7_0 iL7_1 iL7_2 IhL7 RhL7
        obtain ⟨kL, qL, QL, WL, EL, NL, TL⟩ := iL7_2
        have AL := QL.1.1
        have BL := iL7_0.1
        refine zwW_p [(1, 0, 2), (0, -31, 2)] (q := 14) (ls' := [(2, 37), (0, a)]) (st' := [(2, -31), (2, 37)]) (by decide +kernel) rfl ?_
        refine zwW_cm IhL7 (op := 60) (k' := 246) (n := 1) (kd := 13) (m := 97) (nx := 17) (r := 37) (tl := [(2, -31)]) (st' := []) (by decide +kernel) rfl (by decide +kernel) (Nat.ble_eq_true_of_le (by omega)) (m246_p hL7 IhL7 (-31) t n (qL).1 ⟨by omega, by omega⟩ iL7_0 (QL).1) ?_
        rintro x _ ⟨rfl, ⟨rfl, c8⟩ | ⟨rfl, c8⟩⟩
        · have CN := c8
          rw [show ((mWi (-31) : Nat) : Int) = 19 by decide] at CN
          refine zwif_eq (q := 45) (nx := 20) (by decide +kernel) (fun c9 => ?_) (fun c9 => ?_)
          · exfalso; omega
          · have HZ : pK t n qL.1 ≠ 0 := by have z := CN.1; omega
            have PL := pK_lt HZ
            have HM := mL_m WL HZ (show pG n (pHol t n o (hol t n) (eit t n) (pSm0 t n (pFac t n o (sub t n)))) from pG_hol (hh t n) (he t n) (pG_sm0 (pG_fac (hs t n)))) NL
            refine zwW_p [(1, 0, 2)] (q := 21) (ls' := [(2, 37), (0, a)]) (st' := [(2, 37)]) (by decide +kernel) rfl ?_
            refine zwW_cmv IhL7 (op := 60) (k' := 268) (n := 0) (kd := 13) (m := 97) (nx := 24) (r := 37) (tl := []) (st' := []) (by decide +kernel) rfl (by decide +kernel) (Nat.ble_eq_true_of_le (by omega)) (m268_p hL7 IhL7 t n (qL).1 iL7_0 (QL).1) ?_
            rintro h11 ⟨Ih11, Qh11, f10⟩
            have Rh11 : zMR msP h h11 := RhL7.tr Qh11 (by decide +kernel)
            have Bh11 : vB t n h11 := iL7_0.fr Qh11 (by decide +kernel)
            have RQh11 : mQ t n w0 h11 (pA t n qL) := (QL).tk Qh11 (by decide +kernel) ⟨by have z := (iL7_1).1; omega, by have z := (iL7_1).1; omega⟩ f10
            have Vh11 : rV n (pA t n qL) := (WL).a (by omega)
            have Eh11 : fld h11 37 44 = -1 := (Qh11.f (a1 := 37) (a2 := 37) (j1 := 44) (j2 := 45) (by decide +kernel) ⟨by decide, by decide⟩ ⟨by decide, by decide⟩).trans EL
            have Oh11 : mO h h11 := (iL7_1).tr (mO.fr Qh11 (by decide +kernel)).1
            refine zwW_p [(1, 0, 2), (1, 1, 0)] (q := 26) (ls' := [(2, 37), (0, a)]) (st' := [(0, a), (2, 37)]) (by decide +kernel) rfl ?_
            refine zwW_cm Ih11 (op := 60) (k' := 286) (n := 1) (kd := 13) (m := 97) (nx := 29) (r := 37) (tl := [(0, a)]) (st' := []) (by decide +kernel) rfl (by decide +kernel) (Nat.ble_eq_true_of_le (by omega)) (m286_q a D0 pa o sub ho hs HS hol eit hh he HT HE h11 Ih11 t n w0 (pA t n qL) Bh11 (RQh11) (Vh11.wk) (by have z := (Oh11).1; omega) (Eh11)) ?_
            rintro v12 h16 ⟨Ih16, Qh16, f13, f14, f15⟩
            have Rh16 : zMR msP h h16 := Rh11.tr Qh16 (by decide +kernel)
            have Bh16 : vB t n h16 := Bh11.fr Qh16 (by decide +kernel)
            have S26 : vR t n w0 h16 _ ((pHol t n o (hol t n) (eit t n) (pSm0 t n (pFac t n o (sub t n)))) (pA t n qL)) := f15
            have Oh16 : mO h h16 := (Oh11).tr f14
            have Vh16 : rV n ((pHol t n o (hol t n) (eit t n) (pSm0 t n (pFac t n o (sub t n)))) (pA t n qL)).2 := (Vh11).fn (pG_hol (hh t n) (he t n) (pG_sm0 (pG_fac (hs t n))))
            refine zwif_ne (q := 34) (nx := 32) (by decide +kernel) (fun c17 => ?_) (fun c17 => ?_)
            · refine zwW_p [(1, 0, 2), (0, 38, 0), (0, 0, 0)] (q := 38) (ls' := [(2, 37), (0, a)]) (st' := [(0, 0), (0, 38), (2, 37)]) (by decide +kernel) rfl ?_
              refine zwW_cm Ih16 (op := 60) (k' := 270) (n := 2) (kd := 13) (m := 97) (nx := 41) (r := 37) (tl := [(0, 38), (0, 0)]) (st' := []) (by decide +kernel) rfl (by decide +kernel) (Nat.ble_eq_true_of_le (by omega)) (m270 h16 Ih16 38 0 (by omega) (by omega) (by have z := (Oh16).1; omega) ((Vh16).mlt Bh16 (S26.qq (by omega)))) ?_
              rintro x h21 ⟨Ih21, Qh21, rfl, f18, f19, f20⟩
              have Rh21 : zMR msP h h21 := Rh16.tr Qh21 (by decide +kernel)
              have Bh21 : vB t n h21 := Bh16.fr Qh21 (by decide +kernel)
              have RQh21 : mQ t n w0 h21 (pW (-19) ((pHol t n o (hol t n) (eit t n) (pSm0 t n (pFac t n o (sub t n))) (pA t n qL)).2)) := ((S26.qq (by omega))).put Qh21 (by decide +kernel) f18 f19 (eEn_x.2.1) (Or.inr (Or.inr (by omega)))
              have Eh21 : fld h21 37 44 = -1 := (Qh21.f (a1 := 37) (a2 := 37) (j1 := 44) (j2 := 45) (by decide +kernel) ⟨by decide, by decide⟩ ⟨by decide, by decide⟩).trans (S26.e (by omega))
              have Oh21 : mO h h21 := (Oh16).tr (mO.put Qh21 (by decide +kernel) f20)
              have A38 : fld h21 37 42 = ((((pHol t n o (hol t n) (eit t n) (pSm0 t n (pFac t n o (sub t n)))) (pA t n qL)).2.1 : Nat) : Int) := (RQh21).1.1
              have B38 := (Bh21).1
              have H38 := HM.2.2
              have LB : vL t n w0 h21 (pLw t n 19 (pHol t n o (hol t n) (eit t n) (pSm0 t n (pFac t n o (sub t n))))) (pBth t n (pHol t n o (hol t n) (eit t n) (pSm0 t n (pFac t n o (sub t n)))) s) := mL_n (RQh21) ((Vh16).pw) (Eh21) HM.2.1 (by rw [TL]; exact pLw_n (k := kL - 1) HM.1 CN (S26.b1 (by omega)))
              refine zwW_p [(15, 0, 0), (24, 10, 0)] (q := 10) (ls' := [(2, 37), (0, a)]) (st' := []) (by decide +kernel) rfl ?_
              exact IHL7 (fld h21 37 41 - fld h21 37 42).toNat (by omega) h21 rfl (Bh21) (Oh21) (LB) Ih21 Rh21
            · refine zwW_p [(0, 0, 0)] (q := 33) (ls' := [(2, 37), (0, a)]) (st' := [(0, 0)]) (by decide +kernel) rfl ?_
              refine zwW_ret (nx := 34) (a := 1) (b := 0) (by decide +kernel) rfl (Or.inr (Or.inl ⟨rfl, by omega⟩)) ?_
              refine ⟨Ih16, Rh16, by omega, Oh16, ?_⟩
              show vR t n w0 h16 0 (pBth t n (pHol t n o (hol t n) (eit t n) (pSm0 t n (pFac t n o (sub t n)))) s)
              first
              | (unfold pBth; rw [if_neg (S2.b0 (by omega))]; exact S2.z (by omega))
              | (rw [TL, pLw_z (Or.inr CN)]; exact mR_t QL EL)
              | (rw [TL, pLw_f (k := kL - 1) HM.1 CN (S26.b0 (by omega))]; exact mR_f (S26.fl (by omega)).2)
              | (exfalso; omega)
        · have CN := c8
          rw [show ((mWi (-31) : Nat) : Int) = 19 by decide] at CN
          refine zwif_eq (q := 45) (nx := 20) (by decide +kernel) (fun c22 => ?_) (fun c22 => ?_)
          · refine zwW_p [(0, 1, 0)] (q := 46) (ls' := [(2, 37), (0, a)]) (st' := [(0, 1)]) (by decide +kernel) rfl ?_
            refine zwW_ret (nx := 47) (a := 1) (b := 0) (by decide +kernel) rfl (Or.inr (Or.inl ⟨rfl, by omega⟩)) ?_
            refine ⟨IhL7, RhL7, by omega, iL7_1, ?_⟩
            show vR t n w0 hL7 1 (pBth t n (pHol t n o (hol t n) (eit t n) (pSm0 t n (pFac t n o (sub t n)))) s)
            first
            | (unfold pBth; rw [if_neg (S2.b0 (by omega))]; exact S2.z (by omega))
            | (rw [TL, pLw_z (Or.inr CN)]; exact mR_t QL EL)
            | (rw [TL, pLw_f (k := kL - 1) HM.1 CN (S26.b0 (by omega))]; exact mR_f (S26.fl (by omega)).2)
            | (exfalso; omega)
          · exfalso; omega
    exact L7 _ h5 rfl (Bh5) (Oh5) (mL_0 S2 (by omega) (Wh5) B2) Ih5 Rh5
  · refine zwW_p [(0, 0, 0)] (q := 9) (ls' := [(2, 37), (0, a)]) (st' := [(0, 0)]) (by decide +kernel) rfl ?_
    refine zwW_ret (nx := 10) (a := 1) (b := 0) (by decide +kernel) rfl (Or.inr (Or.inl ⟨rfl, by omega⟩)) ?_
    refine ⟨Ih5, Rh5, by omega, Oh5, ?_⟩
    show vR t n w0 h5 0 (pBth t n (pHol t n o (hol t n) (eit t n) (pSm0 t n (pFac t n o (sub t n)))) s)
    first
    | (unfold pBth; rw [if_neg (S2.b0 (by omega))]; exact S2.z (by omega))
    | (rw [TL, pLw_z (Or.inr CN)]; exact mR_t QL EL)
    | (rw [TL, pLw_f (k := kL - 1) HM.1 CN (S26.b0 (by omega))]; exact mR_f (S26.fl (by omega)).2)
    | (exfalso; omega)
-- WheelLandModel.either(I)Z
theorem m249_q {sc : List Int} (a : Int) (D0 : Nat) (pa : 0 ≤ a ∧ a ≤ 8) (o : Bool) (sub : pT → Nat → pQ → pR) (ho : (a < 8 ∧ o = true) ∨ (8 ≤ a ∧ o = false)) (hs : ∀ (t : pT) (n : Nat), pG n (sub t n)) (HS : a < 8 → mX sc D0 248 (a + 1) sub) (hol eit : pT → Nat → pQ → pR) (hh : ∀ (t : pT) (n : Nat), pG n (hol t n)) (he : ∀ (t : pT) (n : Nat), pG n (eit t n)) (HT : a < 8 → mX sc D0 286 (a + 1) hol) (HE : a < 8 → mX sc D0 249 (a + 1) eit) : mX sc (D0 + 25) 249 a (fun t n => pEi0 t n (pHol t n o (hol t n) (eit t n) (pSm0 t n (pFac t n o (sub t n))))) := by
  intro h I t n w0 s B Q0 W0 pc pf
  have bc := I.b (a1 := 37) (a2 := 37) (j1 := 47) (j2 := 48) (lo := -1) (hi := 4) (by decide +kernel) (r := 37) (j := 47) (by decide) (by decide) (by decide) (by decide)
  have B2 := B.2.1
  have O0 : mO h h := mO.rf
  refine zwC_of (D := D0 + 24) 2 (by decide +kernel) rfl (ls := [(2, 37), (0, a)]) rfl ?_
  have R : zMR msP h h := zMR.rf _ _
  refine zwW_p [(1, 0, 2), (1, 1, 0)] (q := 2) (ls' := [(2, 37), (0, a)]) (st' := [(0, a), (2, 37)]) (by decide +kernel) rfl ?_
  refine zwW_cm I (op := 60) (k' := 271) (n := 1) (kd := 13) (m := 97) (nx := 5) (r := 37) (tl := [(0, a)]) (st' := []) (by decide +kernel) rfl (by decide +kernel) (Nat.ble_eq_true_of_le (by omega)) (m271_q a D0 pa o sub ho hs HS hol eit hh he HT HE h I t n w0 s B (Q0) (W0) (by have z := (O0).1; omega) (pf)) ?_
  rintro v1 h5 ⟨Ih5, Qh5, f2, f3, f4⟩
  have Rh5 : zMR msP h h5 := R.tr Qh5 (by decide +kernel)
  have Bh5 : vB t n h5 := B.fr Qh5 (by decide +kernel)
  have S2 : vR t n w0 h5 _ ((pBth t n (pHol t n o (hol t n) (eit t n) (pSm0 t n (pFac t n o (sub t n))))) s) := f4
  have Oh5 : mO h h5 := (O0).tr f3
  have Wh5 : rW n ((pBth t n (pHol t n o (hol t n) (eit t n) (pSm0 t n (pFac t n o (sub t n))))) s).2 := (W0).fn (pG_bth (pG_hol (hh t n) (he t n) (pG_sm0 (pG_fac (hs t n)))))
  refine zwif_ne (q := 10) (nx := 8) (by decide +kernel) (fun c6 => ?_) (fun c6 => ?_)
  · have L7 : ∀ (n0 : Nat) (hL7 : Hp), n0 = (fld hL7 37 41 - fld hL7 37 42).toNat → (vB t n hL7) → (mO h hL7) → (vL t n w0 hL7 (pLw t n 18 (pBth t n (pHol t n o (hol t n) (eit t n) (pSm0 t n (pFac t n o (sub t n)))))) (pEi0 t n (pHol t n o (hol t n) (eit t n) (pSm0 t n (pFac t n o (sub t n)))) s)) → zI hL7 → zMR msP h hL7 → zwW sc (D0 + 24) 249 10 [(2, 37), (0, a)] [] hL7 (zwRt 0 (fun x g => zI g ∧ zMR msP h g ∧ (0 ≤ x ∧ x ≤ 1) ∧ mO h g ∧ vR t n w0 g x (pEi0 t n (pHol t n o (hol t n) (eit t n) (pSm0 t n (pFac t n o (sub t n)))) s))) := by
      intro n0
      induction n0 using Nat.strongRecOn with
      | ind n0 IHL7 =>
        intro hL7 hnL7 iL7_0 iL7_1 iL7_2 IhL7 RhL7
        obtain ⟨kL, qL, QL, WL, EL, NL, TL⟩ := iL7_2
        have AL := QL.1.1
        have BL := iL7_0.1
        refine zwW_p [(1, 0, 2), (0, -32, 2)] (q := 14) (ls' := [(2, 37), (0, a)]) (st' := [(2, -32), (2, 37)]) (by decide +kernel) rfl ?_
        refine zwW_cm IhL7 (op := 60) (k' := 246) (n := 1) (kd := 13) (m := 97) (nx := 17) (r := 37) (tl := [(2, -32)]) (st' := []) (by decide +kernel) rfl (by decide +kernel) (Nat.ble_eq_true_of_le (by omega)) (m246_p hL7 IhL7 (-32) t n (qL).1 ⟨by omega, by omega⟩ iL7_0 (QL).1) ?_
        rintro x _ ⟨rfl, ⟨rfl, c8⟩ | ⟨rfl, c8⟩⟩
        · have CN := c8
          rw [show ((mWi (-32) : Nat) : Int) = 18 by decide] at CN
          refine zwif_eq (q := 45) (nx := 20) (by decide +kernel) (fun c9 => ?_) (fun c9 => ?_)
          · exfalso; omega
          · have HZ : pK t n qL.1 ≠ 0 := by have z := CN.1; omega
            have PL := pK_lt HZ
            have HM := mL_m WL HZ (show pG n (pBth t n (pHol t n o (hol t n) (eit t n) (pSm0 t n (pFac t n o (sub t n))))) from pG_bth (pG_hol (hh t n) (he t n) (pG_sm0 (pG_fac (hs t n))))) NL
            refine zwW_p [(1, 0, 2)] (q := 21) (ls' := [(2, 37), (0, a)]) (st' := [(2, 37)]) (by decide +kernel) rfl ?_
            refine zwW_cmv IhL7 (op := 60) (k' := 268) (n := 0) (kd := 13) (m := 97) (nx := 24) (r := 37) (tl := []) (st' := []) (by decide +kernel) rfl (by decide +kernel) (Nat.ble_eq_true_of_le (by omega)) (m268_p hL7 IhL7 t n (qL).1 iL7_0 (QL).1) ?_
            rintro h11 ⟨Ih11, Qh11, f10⟩
            have Rh11 : zMR msP h h11 := RhL7.tr Qh11 (by decide +kernel)
            have Bh11 : vB t n h11 := iL7_0.fr Qh11 (by decide +kernel)
            have RQh11 : mQ t n w0 h11 (pA t n qL) := (QL).tk Qh11 (by decide +kernel) ⟨by have z := (iL7_1).1; omega, by have z := (iL7_1).1; omega⟩ f10
            have Vh11 : rV n (pA t n qL) := (WL).a (by omega)
            have Eh11 : fld h11 37 44 = -1 := (Qh11.f (a1 := 37) (a2 := 37) (j1 := 44) (j2 := 45) (by decide +kernel) ⟨by decide, by decide⟩ ⟨by decide, by decide⟩).trans EL
            have Oh11 : mO h h11 := (iL7_1).tr (mO.fr Qh11 (by decide +kernel)).1
            refine zwW_p [(1, 0, 2), (1, 1, 0)] (q := 26) (ls' := [(2, 37), (0, a)]) (st' := [(0, a), (2, 37)]) (by decide +kernel) rfl ?_
            refine zwW_cm Ih11 (op := 60) (k' := 271) (n := 1) (kd := 13) (m := 97) (nx := 29) (r := 37) (tl := [(0, a)]) (st' := []) (by decide +kernel) rfl (by decide +kernel) (Nat.ble_eq_true_of_le (by omega)) (m271_q a D0 pa o sub ho hs HS hol eit hh he HT HE h11 Ih11 t n w0 (pA t n qL) Bh11 (RQh11) (Vh11.wk) (by have z := (Oh11).1; omega) (Eh11)) ?_
            rintro v12 h16 ⟨Ih16, Qh16, f13, f14, f15⟩
            have Rh16 : zMR msP h h16 := Rh11.tr Qh16 (by decide +kernel)
            have Bh16 : vB t n h16 := Bh11.fr Qh16 (by decide +kernel)
            have S26 : vR t n w0 h16 _ ((pBth t n (pHol t n o (hol t n) (eit t n) (pSm0 t n (pFac t n o (sub t n))))) (pA t n qL)) := f15
            have Oh16 : mO h h16 := (Oh11).tr f14
            have Vh16 : rV n ((pBth t n (pHol t n o (hol t n) (eit t n) (pSm0 t n (pFac t n o (sub t n))))) (pA t n qL)).2 := (Vh11).fn (pG_bth (pG_hol (hh t n) (he t n) (pG_sm0 (pG_fac (hs t n)))))
            refine zwif_ne (q := 34) (nx := 32) (by decide +kernel) (fun c17 => ?_) (fun c17 => ?_)
            · refine zwW_p [(1, 0, 2), (0, 124, 0), (0, 0, 0)] (q := 38) (ls' := [(2, 37), (0, a)]) (st' := [(0, 0), (0, 124), (2, 37)]) (by decide +kernel) rfl ?_
              refine zwW_cm Ih16 (op := 60) (k' := 270) (n := 2) (kd := 13) (m := 97) (nx := 41) (r := 37) (tl := [(0, 124), (0, 0)]) (st' := []) (by decide +kernel) rfl (by decide +kernel) (Nat.ble_eq_true_of_le (by omega)) (m270 h16 Ih16 124 0 (by omega) (by omega) (by have z := (Oh16).1; omega) ((Vh16).mlt Bh16 (S26.qq (by omega)))) ?_
              rintro x h21 ⟨Ih21, Qh21, rfl, f18, f19, f20⟩
              have Rh21 : zMR msP h h21 := Rh16.tr Qh21 (by decide +kernel)
              have Bh21 : vB t n h21 := Bh16.fr Qh21 (by decide +kernel)
              have RQh21 : mQ t n w0 h21 (pW (-18) ((pBth t n (pHol t n o (hol t n) (eit t n) (pSm0 t n (pFac t n o (sub t n)))) (pA t n qL)).2)) := ((S26.qq (by omega))).put Qh21 (by decide +kernel) f18 f19 (eEn_x.2.2) (Or.inr (Or.inr (by omega)))
              have Eh21 : fld h21 37 44 = -1 := (Qh21.f (a1 := 37) (a2 := 37) (j1 := 44) (j2 := 45) (by decide +kernel) ⟨by decide, by decide⟩ ⟨by decide, by decide⟩).trans (S26.e (by omega))
              have Oh21 : mO h h21 := (Oh16).tr (mO.put Qh21 (by decide +kernel) f20)
              have A38 : fld h21 37 42 = ((((pBth t n (pHol t n o (hol t n) (eit t n) (pSm0 t n (pFac t n o (sub t n))))) (pA t n qL)).2.1 : Nat) : Int) := (RQh21).1.1
              have B38 := (Bh21).1
              have H38 := HM.2.2
              have LB : vL t n w0 h21 (pLw t n 18 (pBth t n (pHol t n o (hol t n) (eit t n) (pSm0 t n (pFac t n o (sub t n)))))) (pEi0 t n (pHol t n o (hol t n) (eit t n) (pSm0 t n (pFac t n o (sub t n)))) s) := mL_n (RQh21) ((Vh16).pw) (Eh21) HM.2.1 (by rw [TL]; exact pLw_n (k := kL - 1) HM.1 CN (S26.b1 (by omega)))
              refine zwW_p [(15, 0, 0), (24, 10, 0)] (q := 10) (ls' := [(2, 37), (0, a)]) (st' := []) (by decide +kernel) rfl ?_
              exact IHL7 (fld h21 37 41 - fld h21 37 42).toNat (by omega) h21 rfl (Bh21) (Oh21) (LB) Ih21 Rh21
            · refine zwW_p [(0, 0, 0)] (q := 33) (ls' := [(2, 37), (0, a)]) (st' := [(0, 0)]) (by decide +kernel) rfl ?_
              refine zwW_ret (nx := 34) (a := 1) (b := 0) (by decide +kernel) rfl (Or.inr (Or.inl ⟨rfl, by omega⟩)) ?_
              refine ⟨Ih16, Rh16, by omega, Oh16, ?_⟩
              show vR t n w0 h16 0 (pEi0 t n (pHol t n o (hol t n) (eit t n) (pSm0 t n (pFac t n o (sub t n)))) s)
              first
              | (unfold pEi0; rw [if_neg (S2.b0 (by omega))]; exact S2.z (by omega))
              | (rw [TL, pLw_z (Or.inr CN)]; exact mR_t QL EL)
              | (rw [TL, pLw_f (k := kL - 1) HM.1 CN (S26.b0 (by omega))]; exact mR_f (S26.fl (by omega)).2)
              | (exfalso; omega)
        · have CN := c8
          rw [show ((mWi (-32) : Nat) : Int) = 18 by decide] at CN
          refine zwif_eq (q := 45) (nx := 20) (by decide +kernel) (fun c22 => ?_) (fun c22 => ?_)
          · refine zwW_p [(0, 1, 0)] (q := 46) (ls' := [(2, 37), (0, a)]) (st' := [(0, 1)]) (by decide +kernel) rfl ?_
            refine zwW_ret (nx := 47) (a := 1) (b := 0) (by decide +kernel) rfl (Or.inr (Or.inl ⟨rfl, by omega⟩)) ?_
            refine ⟨IhL7, RhL7, by omega, iL7_1, ?_⟩
            show vR t n w0 hL7 1 (pEi0 t n (pHol t n o (hol t n) (eit t n) (pSm0 t n (pFac t n o (sub t n)))) s)
            first
            | (unfold pEi0; rw [if_neg (S2.b0 (by omega))]; exact S2.z (by omega))
            | (rw [TL, pLw_z (Or.inr CN)]; exact mR_t QL EL)
            | (rw [TL, pLw_f (k := kL - 1) HM.1 CN (S26.b0 (by omega))]; exact mR_f (S26.fl (by omega)).2)
            | (exfalso; omega)
          · exfalso; omega
    exact L7 _ h5 rfl (Bh5) (Oh5) (mL_0 S2 (by omega) (Wh5) B2) Ih5 Rh5
  · refine zwW_p [(0, 0, 0)] (q := 9) (ls' := [(2, 37), (0, a)]) (st' := [(0, 0)]) (by decide +kernel) rfl ?_
    refine zwW_ret (nx := 10) (a := 1) (b := 0) (by decide +kernel) rfl (Or.inr (Or.inl ⟨rfl, by omega⟩)) ?_
    refine ⟨Ih5, Rh5, by omega, Oh5, ?_⟩
    show vR t n w0 h5 0 (pEi0 t n (pHol t n o (hol t n) (eit t n) (pSm0 t n (pFac t n o (sub t n)))) s)
    first
    | (unfold pEi0; rw [if_neg (S2.b0 (by omega))]; exact S2.z (by omega))
    | (rw [TL, pLw_z (Or.inr CN)]; exact mR_t QL EL)
    | (rw [TL, pLw_f (k := kL - 1) HM.1 CN (S26.b0 (by omega))]; exact mR_f (S26.fl (by omega)).2)
    | (exfalso; omega)
