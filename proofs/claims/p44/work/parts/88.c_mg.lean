/-! joined: 88.c_mg 89.a_cl 89.b_xc 89.c_mc 89.d_tx 89.e_tx 89.f_tm 89.g_det 89.ga_sheet 89.ga_why 89.gb_why 89.gc_why 89.gd_why 89.ge_sh -/
section
/-! contracts of methods -/
-- WheelLandModel.factor(I)Z
theorem m285_q {sc : List Int} (a : Int) (D0 : Nat) (pa : 0 ≤ a ∧ a ≤ 8) (o : Bool) (sub : pT → Nat → pQ → pR) (ho : (a < 8 ∧ o = true) ∨ (8 ≤ a ∧ o = false)) (hs : ∀ (t : pT) (n : Nat), pG n (sub t n)) (HS : a < 8 → mX sc D0 248 (a + 1) sub) : mX sc (D0 + 20) 285 a (fun t n => pFac t n o (sub t n)) := by
  intro h I t n w0 s B Q0 W0 pc pf
  have bc := I.b (a1 := 37) (a2 := 37) (j1 := 47) (j2 := 48) (lo := -1) (hi := 4) (by decide +kernel) (r := 37) (j := 47) (by decide) (by decide) (by decide) (by decide)
  have B2 := B.2.1
  have O0 : mO h h := mO.rf
  refine zwC_of (D := D0 + 19) 3 (by decide +kernel) rfl (ls := [(2, 37), (0, a), (9, 0)]) rfl ?_
  have R : zMR msP h h := zMR.rf _ _
  refine zwW_p [(1, 0, 2), (0, 40, 0)] (q := 3) (ls' := [(2, 37), (0, a), (9, 0)]) (st' := [(0, 40), (2, 37)]) (by decide +kernel) rfl ?_
  refine zwW_cm I (op := 60) (k' := 250) (n := 1) (kd := 13) (m := 97) (nx := 6) (r := 37) (tl := [(0, 40)]) (st' := []) (by decide +kernel) rfl (by decide +kernel) (Nat.ble_eq_true_of_le (by omega)) (m250_p h I 40 t n (s).1 B (Q0).1 rfl) ?_
  rintro x _ ⟨rfl, ⟨rfl, c1⟩ | ⟨rfl, c1⟩⟩
  · refine zwif_eq (q := 56) (nx := 9) (by decide +kernel) (fun c2 => ?_) (fun c2 => ?_)
    · exfalso; omega
    · have CP := c1
      refine zwW_p [(1, 0, 2), (1, 1, 0), (0, 8, 0)] (q := 13) (ls' := [(2, 37), (0, a), (9, 0)]) (st' := [(0, 8), (0, a), (2, 37)]) (by decide +kernel) rfl ?_
      refine zwic_ge (q := 20) (nx := 16) (by decide +kernel) (fun c3 => ?_) (fun c3 => ?_)
      · refine zwW_p [(0, 0, 0)] (q := 21) (ls' := [(2, 37), (0, a), (9, 0)]) (st' := [(0, 0), (2, 37)]) (by decide +kernel) rfl ?_
        refine zwW_cm I (op := 60) (k' := 247) (n := 1) (kd := 13) (m := 97) (nx := 24) (r := 37) (tl := [(0, 0)]) (st' := []) (by decide +kernel) rfl (by decide +kernel) (Nat.ble_eq_true_of_le (by omega)) (m247_p h I 0 t n (s).1 B (Q0).1 (pf)) ?_
        rintro x h4 ⟨Ih4, Qh4, ⟨rfl, f5, f6, f7⟩ | ⟨rfl, f8, f9⟩⟩
        · exfalso; omega
        · have Rh4 : zMR msP h h4 := R.tr Qh4 (by decide +kernel)
          have Bh4 : vB t n h4 := B.fr Qh4 (by decide +kernel)
          have Oh4 : mO h h4 := (O0).tr (mO.fr Qh4 (by decide +kernel)).1
          refine zwif_eq (q := 54) (nx := 27) (by decide +kernel) (fun c10 => ?_) (fun c10 => ?_)
          · refine zwW_p [(0, 0, 0)] (q := 55) (ls' := [(2, 37), (0, a), (9, 0)]) (st' := [(0, 0)]) (by decide +kernel) rfl ?_
            refine zwW_ret (nx := 56) (a := 1) (b := 0) (by decide +kernel) rfl (Or.inr (Or.inl ⟨rfl, Or.inl rfl⟩)) ?_
            refine ⟨Ih4, Rh4, by omega, Oh4, ?_⟩
            show vR t n w0 h4 0 (pFac t n o (sub t n) s)
            first
            | (rw [pFac_num rfl (by omega), show pV t n s.1 = 0 by omega]; exact mR_t (Q0) (pf))
            | (rw [pFac_wd CW.1 ⟨by omega, by omega⟩, show pV t n s.1 = 0 by omega]; exact mR_t (Q0) (pf))
            | (rw [pFac_par (ho.resolve_right (fun z => by omega)).2 CP (S31.b1 (by omega)) c1]; exact mR_t (Q0) (pf))
            | (rw [pFac_pn (ho.resolve_right (fun z => by omega)).2 CP (S31.b1 (by omega)) c1]; exact mR_f f9)
            | (rw [pFac_pf (ho.resolve_right (fun z => by omega)).2 CP (S31.b0 (by omega))]; exact S31.z (by omega))
            | (rw [pFac_no (fun z => by omega) (fun z => by omega) (fun z => by first | exact absurd z.2 rfl | exact absurd z.1 (fun z1 => by have y := ho.resolve_left (fun y => by omega); rw [z1] at y; cases y.2))]; exact mR_f f9)
            | (rw [pFac_no (fun z => by omega) (fun z => by have w := NW z.1; omega) (fun z => absurd z.2 rfl)]; exact mR_f f9)
            | (exfalso; omega)
          · exfalso; omega
      · refine zwW_p [(0, 1, 0), (24, 21, 0)] (q := 21) (ls' := [(2, 37), (0, a), (9, 0)]) (st' := [(0, 1), (2, 37)]) (by decide +kernel) rfl ?_
        refine zwW_cm I (op := 60) (k' := 247) (n := 1) (kd := 13) (m := 97) (nx := 24) (r := 37) (tl := [(0, 1)]) (st' := []) (by decide +kernel) rfl (by decide +kernel) (Nat.ble_eq_true_of_le (by omega)) (m247_p h I 1 t n (s).1 B (Q0).1 (pf)) ?_
        rintro x h11 ⟨Ih11, Qh11, ⟨rfl, f12, f13, f14⟩ | ⟨rfl, f15, f16⟩⟩
        · have Rh11 : zMR msP h h11 := R.tr Qh11 (by decide +kernel)
          have Bh11 : vB t n h11 := B.fr Qh11 (by decide +kernel)
          have RQh11 : mQ t n w0 h11 (pA t n s) := (Q0).tk Qh11 (by decide +kernel) ⟨by have z := (O0).1; omega, by have z := (O0).1; omega⟩ f13
          have Vh11 : rV n (pA t n s) := (W0).a (by omega)
          have Oh11 : mO h h11 := (O0).tr (mO.fr Qh11 (by decide +kernel)).1
          refine zwif_eq (q := 54) (nx := 27) (by decide +kernel) (fun c17 => ?_) (fun c17 => ?_)
          · exfalso; omega
          · refine zwW_p [(1, 0, 2), (1, 1, 0), (0, 1, 0)] (q := 30) (ls' := [(2, 37), (0, a), (9, 0)]) (st' := [(0, 1), (0, a), (2, 37)]) (by decide +kernel) rfl ?_
            refine zwW_add (nx := 31) (by decide +kernel) (by first | omega | exact ⟨by omega, by omega⟩) ?_
            refine zwW_cm Ih11 (op := 60) (k' := 248) (n := 1) (kd := 13) (m := 97) (nx := 34) (r := 37) (tl := [(0, (a + 1))]) (st' := []) (by decide +kernel) rfl (by decide +kernel) (Nat.ble_eq_true_of_le (by omega)) (HS (by omega) h11 Ih11 t n w0 (pA t n s) Bh11 (RQh11) (Vh11.wk) (by have z := (Oh11).1; omega) (f14)) ?_
            rintro v18 h22 ⟨Ih22, Qh22, f19, f20, f21⟩
            have Rh22 : zMR msP h h22 := Rh11.tr Qh22 (by decide +kernel)
            have Bh22 : vB t n h22 := Bh11.fr Qh22 (by decide +kernel)
            have S31 : vR t n w0 h22 _ ((sub t n) (pA t n s)) := f21
            have Oh22 : mO h h22 := (Oh11).tr f20
            have Vh22 : rV n ((sub t n) (pA t n s)).2 := (Vh11).fn (hs t n)
            refine zwif_eq (q := 54) (nx := 37) (by decide +kernel) (fun c23 => ?_) (fun c23 => ?_)
            · refine zwW_p [(0, 0, 0)] (q := 55) (ls' := [(2, 37), (0, a), (9, 0)]) (st' := [(0, 0)]) (by decide +kernel) rfl ?_
              refine zwW_ret (nx := 56) (a := 1) (b := 0) (by decide +kernel) rfl (Or.inr (Or.inl ⟨rfl, Or.inl rfl⟩)) ?_
              refine ⟨Ih22, Rh22, by omega, Oh22, ?_⟩
              show vR t n w0 h22 0 (pFac t n o (sub t n) s)
              first
              | (rw [pFac_num rfl (by omega), show pV t n s.1 = 0 by omega]; exact mR_t ((S31.qq (by omega))) ((S31.e (by omega))))
              | (rw [pFac_wd CW.1 ⟨by omega, by omega⟩, show pV t n s.1 = 0 by omega]; exact mR_t ((S31.qq (by omega))) ((S31.e (by omega))))
              | (rw [pFac_par (ho.resolve_right (fun z => by omega)).2 CP (S31.b1 (by omega)) c1]; exact mR_t ((S31.qq (by omega))) ((S31.e (by omega))))
              | (rw [pFac_pn (ho.resolve_right (fun z => by omega)).2 CP (S31.b1 (by omega)) c1]; exact mR_f rfl)
              | (rw [pFac_pf (ho.resolve_right (fun z => by omega)).2 CP (S31.b0 (by omega))]; exact S31.z (by omega))
              | (rw [pFac_no (fun z => by omega) (fun z => by omega) (fun z => by first | exact absurd z.2 rfl | exact absurd z.1 (fun z1 => by have y := ho.resolve_left (fun y => by omega); rw [z1] at y; cases y.2))]; exact mR_f rfl)
              | (rw [pFac_no (fun z => by omega) (fun z => by have w := NW z.1; omega) (fun z => absurd z.2 rfl)]; exact mR_f rfl)
              | (exfalso; omega)
            · refine zwW_p [(1, 0, 2), (1, 0, 2), (0, 41, 0)] (q := 41) (ls' := [(2, 37), (0, a), (9, 0)]) (st' := [(0, 41), (2, 37), (2, 37)]) (by decide +kernel) rfl ?_
              refine zwW_cm Ih22 (op := 60) (k' := 250) (n := 1) (kd := 13) (m := 97) (nx := 44) (r := 37) (tl := [(0, 41)]) (st' := [(2, 37)]) (by decide +kernel) rfl (by decide +kernel) (Nat.ble_eq_true_of_le (by omega)) (m250_p h22 Ih22 41 t n ((sub t n (pA t n s)).2).1 Bh22 ((S31.qq (by omega))).1 rfl) ?_
              rintro x _ ⟨rfl, ⟨rfl, c24⟩ | ⟨rfl, c24⟩⟩
              · refine zwW_cm Ih22 (op := 60) (k' := 247) (n := 1) (kd := 13) (m := 97) (nx := 47) (r := 37) (tl := [(0, 1)]) (st' := []) (by decide +kernel) rfl (by decide +kernel) (Nat.ble_eq_true_of_le (by omega)) (m247_p h22 Ih22 1 t n ((sub t n (pA t n s)).2).1 Bh22 ((S31.qq (by omega))).1 ((S31.e (by omega)))) ?_
                rintro x h25 ⟨Ih25, Qh25, ⟨rfl, f26, f27, f28⟩ | ⟨rfl, f29, f30⟩⟩
                · have Rh25 : zMR msP h h25 := Rh22.tr Qh25 (by decide +kernel)
                  have Bh25 : vB t n h25 := Bh22.fr Qh25 (by decide +kernel)
                  have RQh25 : mQ t n w0 h25 (pA t n ((sub t n (pA t n s)).2)) := ((S31.qq (by omega))).tk Qh25 (by decide +kernel) ⟨by have z := (Oh22).1; omega, by have z := (Oh22).1; omega⟩ f27
                  have Vh25 : rV n (pA t n ((sub t n (pA t n s)).2)) := (Vh22.wk).a (by omega)
                  have Oh25 : mO h h25 := (Oh22).tr (mO.fr Qh25 (by decide +kernel)).1
                  refine zwif_eq (q := 54) (nx := 50) (by decide +kernel) (fun c31 => ?_) (fun c31 => ?_)
                  · exfalso; omega
                  · refine zwW_p [(0, 1, 0), (24, 55, 0)] (q := 55) (ls' := [(2, 37), (0, a), (9, 0)]) (st' := [(0, 1)]) (by decide +kernel) rfl ?_
                    refine zwW_ret (nx := 56) (a := 1) (b := 0) (by decide +kernel) rfl (Or.inr (Or.inl ⟨rfl, Or.inr rfl⟩)) ?_
                    refine ⟨Ih25, Rh25, by omega, Oh25, ?_⟩
                    show vR t n w0 h25 1 (pFac t n o (sub t n) s)
                    first
                    | (rw [pFac_num rfl (by omega), show pV t n s.1 = 0 by omega]; exact mR_t (RQh25) (f28))
                    | (rw [pFac_wd CW.1 ⟨by omega, by omega⟩, show pV t n s.1 = 0 by omega]; exact mR_t (RQh25) (f28))
                    | (rw [pFac_par (ho.resolve_right (fun z => by omega)).2 CP (S31.b1 (by omega)) c24]; exact mR_t (RQh25) (f28))
                    | (rw [pFac_pn (ho.resolve_right (fun z => by omega)).2 CP (S31.b1 (by omega)) c24]; exact mR_f rfl)
                    | (rw [pFac_pf (ho.resolve_right (fun z => by omega)).2 CP (S31.b0 (by omega))]; exact S31.z (by omega))
                    | (rw [pFac_no (fun z => by omega) (fun z => by omega) (fun z => by first | exact absurd z.2 rfl | exact absurd z.1 (fun z1 => by have y := ho.resolve_left (fun y => by omega); rw [z1] at y; cases y.2))]; exact mR_f rfl)
                    | (rw [pFac_no (fun z => by omega) (fun z => by have w := NW z.1; omega) (fun z => absurd z.2 rfl)]; exact mR_f rfl)
                    | (exfalso; omega)
                · exfalso; omega
              · refine zwW_cm Ih22 (op := 60) (k' := 247) (n := 1) (kd := 13) (m := 97) (nx := 47) (r := 37) (tl := [(0, 0)]) (st' := []) (by decide +kernel) rfl (by decide +kernel) (Nat.ble_eq_true_of_le (by omega)) (m247_p h22 Ih22 0 t n ((sub t n (pA t n s)).2).1 Bh22 ((S31.qq (by omega))).1 ((S31.e (by omega)))) ?_
                rintro x h32 ⟨Ih32, Qh32, ⟨rfl, f33, f34, f35⟩ | ⟨rfl, f36, f37⟩⟩
                · exfalso; omega
                · have Rh32 : zMR msP h h32 := Rh22.tr Qh32 (by decide +kernel)
                  have Bh32 : vB t n h32 := Bh22.fr Qh32 (by decide +kernel)
                  have Oh32 : mO h h32 := (Oh22).tr (mO.fr Qh32 (by decide +kernel)).1
                  refine zwif_eq (q := 54) (nx := 50) (by decide +kernel) (fun c38 => ?_) (fun c38 => ?_)
                  · refine zwW_p [(0, 0, 0)] (q := 55) (ls' := [(2, 37), (0, a), (9, 0)]) (st' := [(0, 0)]) (by decide +kernel) rfl ?_
                    refine zwW_ret (nx := 56) (a := 1) (b := 0) (by decide +kernel) rfl (Or.inr (Or.inl ⟨rfl, Or.inl rfl⟩)) ?_
                    refine ⟨Ih32, Rh32, by omega, Oh32, ?_⟩
                    show vR t n w0 h32 0 (pFac t n o (sub t n) s)
                    first
                    | (rw [pFac_num rfl (by omega), show pV t n s.1 = 0 by omega]; exact mR_t ((S31.qq (by omega))) ((S31.e (by omega))))
                    | (rw [pFac_wd CW.1 ⟨by omega, by omega⟩, show pV t n s.1 = 0 by omega]; exact mR_t ((S31.qq (by omega))) ((S31.e (by omega))))
                    | (rw [pFac_par (ho.resolve_right (fun z => by omega)).2 CP (S31.b1 (by omega)) c24]; exact mR_t ((S31.qq (by omega))) ((S31.e (by omega))))
                    | (rw [pFac_pn (ho.resolve_right (fun z => by omega)).2 CP (S31.b1 (by omega)) c24]; exact mR_f f37)
                    | (rw [pFac_pf (ho.resolve_right (fun z => by omega)).2 CP (S31.b0 (by omega))]; exact S31.z (by omega))
                    | (rw [pFac_no (fun z => by omega) (fun z => by omega) (fun z => by first | exact absurd z.2 rfl | exact absurd z.1 (fun z1 => by have y := ho.resolve_left (fun y => by omega); rw [z1] at y; cases y.2))]; exact mR_f f37)
                    | (rw [pFac_no (fun z => by omega) (fun z => by have w := NW z.1; omega) (fun z => absurd z.2 rfl)]; exact mR_f f37)
                    | (exfalso; omega)
                  · exfalso; omega
        · exfalso; omega
  · refine zwif_eq (q := 56) (nx := 9) (by decide +kernel) (fun c39 => ?_) (fun c39 => ?_)
    · refine zwW_p [(1, 0, 2)] (q := 57) (ls' := [(2, 37), (0, a), (9, 0)]) (st' := [(2, 37)]) (by decide +kernel) rfl ?_
      refine zwW_cm I (op := 60) (k' := 296) (n := 0) (kd := 13) (m := 97) (nx := 60) (r := 37) (tl := []) (st' := []) (by decide +kernel) rfl (by decide +kernel) (Nat.ble_eq_true_of_le (by omega)) (m296_p h I t n (s).1 B (Q0).1) ?_
      rintro x h40 ⟨Ih40, Qh40, ⟨rfl, f41, f42⟩ | ⟨rfl, f43⟩⟩
      · have Rh40 : zMR msP h h40 := R.tr Qh40 (by decide +kernel)
        have Bh40 : vB t n h40 := B.fr Qh40 (by decide +kernel)
        have RQh40 : mQ t n w0 h40 s := (Q0).fr Qh40 (by decide +kernel) ⟨by have z := (O0).1; omega, by have z := (O0).1; omega⟩
        have Eh40 : fld h40 37 44 = -1 := (Qh40.f (a1 := 37) (a2 := 37) (j1 := 44) (j2 := 45) (by decide +kernel) (by first | decide | exact ⟨by decide, by decide⟩) (by first | decide | exact ⟨by decide, by decide⟩)).trans pf
        have Oh40 : mO h h40 := (O0).tr (mO.fr Qh40 (by decide +kernel)).1
        refine zwif_eq (q := 103) (nx := 63) (by decide +kernel) (fun c44 => ?_) (fun c44 => ?_)
        · exfalso; omega
        · refine zwW_p [(1, 0, 2)] (q := 64) (ls' := [(2, 37), (0, a), (9, 0)]) (st' := [(2, 37)]) (by decide +kernel) rfl ?_
          refine zwW_gs Ih40 (kd := 13) (bn := 46) (n := 97) (t := 0) (lo := -2147483648) (hi := 2147483647) (nx := 67) (by decide +kernel) ?_
          intro v45 ev45 lv45 uv45
          refine zwW_p [(2, 2, 0)] (q := 68) (ls' := [(2, 37), (0, a), (0, v45)]) (st' := []) (by decide +kernel) rfl ?_
          have NV := f42
          refine zwW_p [(1, 0, 2), (1, 2, 0), (0, 9999, 0)] (q := 73) (ls' := [(2, 37), (0, a), (0, v45)]) (st' := [(0, 9999), (0, v45), (2, 37)]) (by decide +kernel) rfl ?_
          refine zwic_gt (q := 80) (nx := 76) (by decide +kernel) (fun c46 => ?_) (fun c46 => ?_)
          · refine zwW_p [(0, 0, 0)] (q := 81) (ls' := [(2, 37), (0, a), (0, v45)]) (st' := [(0, 0), (2, 37)]) (by decide +kernel) rfl ?_
            refine zwW_cm Ih40 (op := 60) (k' := 247) (n := 1) (kd := 13) (m := 97) (nx := 84) (r := 37) (tl := [(0, 0)]) (st' := []) (by decide +kernel) rfl (by decide +kernel) (Nat.ble_eq_true_of_le (by omega)) (m247_p h40 Ih40 0 t n (s).1 Bh40 (RQh40).1 (Eh40)) ?_
            rintro x h47 ⟨Ih47, Qh47, ⟨rfl, f48, f49, f50⟩ | ⟨rfl, f51, f52⟩⟩
            · exfalso; omega
            · have Rh47 : zMR msP h h47 := Rh40.tr Qh47 (by decide +kernel)
              have Bh47 : vB t n h47 := Bh40.fr Qh47 (by decide +kernel)
              have Oh47 : mO h h47 := (Oh40).tr (mO.fr Qh47 (by decide +kernel)).1
              refine zwif_eq (q := 101) (nx := 87) (by decide +kernel) (fun c53 => ?_) (fun c53 => ?_)
              · refine zwW_p [(0, 0, 0)] (q := 102) (ls' := [(2, 37), (0, a), (0, v45)]) (st' := [(0, 0)]) (by decide +kernel) rfl ?_
                refine zwW_ret (nx := 103) (a := 1) (b := 0) (by decide +kernel) rfl (Or.inr (Or.inl ⟨rfl, Or.inl rfl⟩)) ?_
                refine ⟨Ih47, Rh47, by omega, Oh47, ?_⟩
                show vR t n w0 h47 0 (pFac t n o (sub t n) s)
                first
                | (rw [pFac_num f41 (by omega), show pV t n s.1 = v45 by omega]; exact mR_t (RQh40) (Eh40))
                | (rw [pFac_wd CW.1 ⟨by omega, by omega⟩, show pV t n s.1 = v45 by omega]; exact mR_t (RQh40) (Eh40))
                | (rw [pFac_par (ho.resolve_right (fun z => by omega)).2 CP (S31.b1 (by omega)) c1]; exact mR_t (RQh40) (Eh40))
                | (rw [pFac_pn (ho.resolve_right (fun z => by omega)).2 CP (S31.b1 (by omega)) c1]; exact mR_f f52)
                | (rw [pFac_pf (ho.resolve_right (fun z => by omega)).2 CP (S31.b0 (by omega))]; exact S31.z (by omega))
                | (rw [pFac_no (fun z => by omega) (fun z => by omega) (fun z => by first | exact absurd z.2 c1 | exact absurd z.1 (fun z1 => by have y := ho.resolve_left (fun y => by omega); rw [z1] at y; cases y.2))]; exact mR_f f52)
                | (rw [pFac_no (fun z => by omega) (fun z => by have w := NW z.1; omega) (fun z => absurd z.2 c1)]; exact mR_f f52)
                | (exfalso; omega)
              · exfalso; omega
          · refine zwW_p [(0, 1, 0), (24, 81, 0)] (q := 81) (ls' := [(2, 37), (0, a), (0, v45)]) (st' := [(0, 1), (2, 37)]) (by decide +kernel) rfl ?_
            refine zwW_cm Ih40 (op := 60) (k' := 247) (n := 1) (kd := 13) (m := 97) (nx := 84) (r := 37) (tl := [(0, 1)]) (st' := []) (by decide +kernel) rfl (by decide +kernel) (Nat.ble_eq_true_of_le (by omega)) (m247_p h40 Ih40 1 t n (s).1 Bh40 (RQh40).1 (Eh40)) ?_
            rintro x h54 ⟨Ih54, Qh54, ⟨rfl, f55, f56, f57⟩ | ⟨rfl, f58, f59⟩⟩
            · have Rh54 : zMR msP h h54 := Rh40.tr Qh54 (by decide +kernel)
              have Bh54 : vB t n h54 := Bh40.fr Qh54 (by decide +kernel)
              have RQh54 : mQ t n w0 h54 (pA t n s) := (RQh40).tk Qh54 (by decide +kernel) ⟨by have z := (Oh40).1; omega, by have z := (Oh40).1; omega⟩ f56
              have Vh54 : rV n (pA t n s) := (W0).a (by omega)
              have Oh54 : mO h h54 := (Oh40).tr (mO.fr Qh54 (by decide +kernel)).1
              refine zwif_eq (q := 101) (nx := 87) (by decide +kernel) (fun c60 => ?_) (fun c60 => ?_)
              · exfalso; omega
              · refine zwW_p [(1, 0, 2), (0, 110, 0), (1, 2, 0)] (q := 91) (ls' := [(2, 37), (0, a), (0, v45)]) (st' := [(0, v45), (0, 110), (2, 37)]) (by decide +kernel) rfl ?_
                refine zwW_cm Ih54 (op := 60) (k' := 270) (n := 2) (kd := 13) (m := 97) (nx := 94) (r := 37) (tl := [(0, 110), (0, v45)]) (st' := []) (by decide +kernel) rfl (by decide +kernel) (Nat.ble_eq_true_of_le (by omega)) (m270 h54 Ih54 110 v45 (by omega) (by omega) (by have z := (Oh54).1; omega) ((Vh54).mlt Bh54 RQh54)) ?_
                rintro x h64 ⟨Ih64, Qh64, rfl, f61, f62, f63⟩
                have Rh64 : zMR msP h h64 := Rh54.tr Qh64 (by decide +kernel)
                have Bh64 : vB t n h64 := Bh54.fr Qh64 (by decide +kernel)
                have RQh64 : mQ t n w0 h64 (pW v45 (pA t n s)) := (RQh54).put Qh64 (by decide +kernel) f61 f62 (eEn_n) (Or.inl ⟨rfl, by omega⟩)
                have Eh64 : fld h64 37 44 = -1 := (Qh64.f (a1 := 37) (a2 := 37) (j1 := 44) (j2 := 45) (by decide +kernel) (by first | decide | exact ⟨by decide, by decide⟩) (by first | decide | exact ⟨by decide, by decide⟩)).trans f57
                have Oh64 : mO h h64 := (Oh54).tr (mO.put Qh64 (by decide +kernel) f63)
                refine zwif_eq (q := 101) (nx := 97) (by decide +kernel) (fun c65 => ?_) (fun c65 => ?_)
                · exfalso; omega
                · refine zwW_p [(0, 1, 0), (24, 102, 0)] (q := 102) (ls' := [(2, 37), (0, a), (0, v45)]) (st' := [(0, 1)]) (by decide +kernel) rfl ?_
                  refine zwW_ret (nx := 103) (a := 1) (b := 0) (by decide +kernel) rfl (Or.inr (Or.inl ⟨rfl, Or.inr rfl⟩)) ?_
                  refine ⟨Ih64, Rh64, by omega, Oh64, ?_⟩
                  show vR t n w0 h64 1 (pFac t n o (sub t n) s)
                  first
                  | (rw [pFac_num f41 (by omega), show pV t n s.1 = v45 by omega]; exact mR_t (RQh64) (Eh64))
                  | (rw [pFac_wd CW.1 ⟨by omega, by omega⟩, show pV t n s.1 = v45 by omega]; exact mR_t (RQh64) (Eh64))
                  | (rw [pFac_par (ho.resolve_right (fun z => by omega)).2 CP (S31.b1 (by omega)) c1]; exact mR_t (RQh64) (Eh64))
                  | (rw [pFac_pn (ho.resolve_right (fun z => by omega)).2 CP (S31.b1 (by omega)) c1]; exact mR_f rfl)
                  | (rw [pFac_pf (ho.resolve_right (fun z => by omega)).2 CP (S31.b0 (by omega))]; exact S31.z (by omega))
                  | (rw [pFac_no (fun z => by omega) (fun z => by omega) (fun z => by first | exact absurd z.2 c1 | exact absurd z.1 (fun z1 => by have y := ho.resolve_left (fun y => by omega); rw [z1] at y; cases y.2))]; exact mR_f rfl)
                  | (rw [pFac_no (fun z => by omega) (fun z => by have w := NW z.1; omega) (fun z => absurd z.2 c1)]; exact mR_f rfl)
                  | (exfalso; omega)
            · exfalso; omega
      · have Rh40 : zMR msP h h40 := R.tr Qh40 (by decide +kernel)
        have Bh40 : vB t n h40 := B.fr Qh40 (by decide +kernel)
        have RQh40 : mQ t n w0 h40 s := (Q0).fr Qh40 (by decide +kernel) ⟨by have z := (O0).1; omega, by have z := (O0).1; omega⟩
        have Eh40 : fld h40 37 44 = -1 := (Qh40.f (a1 := 37) (a2 := 37) (j1 := 44) (j2 := 45) (by decide +kernel) (by first | decide | exact ⟨by decide, by decide⟩) (by first | decide | exact ⟨by decide, by decide⟩)).trans pf
        have Oh40 : mO h h40 := (O0).tr (mO.fr Qh40 (by decide +kernel)).1
        refine zwif_eq (q := 103) (nx := 63) (by decide +kernel) (fun c66 => ?_) (fun c66 => ?_)
        · refine zwW_p [(0, 0, 0), (2, 2, 0)] (q := 105) (ls' := [(2, 37), (0, a), (0, 0)]) (st' := []) (by decide +kernel) rfl ?_
          have L67 : ∀ (n0 : Nat) (kL67 : Int), n0 = ((1000 - kL67)).toNat → (0 ≤ kL67 ∧ kL67 ≤ 13) → (∀ j : Nat, (j : Int) < kL67 → ¬ (pK t n s.1 = 1 ∧ pV t n s.1 = (j : Int))) → zwW sc (D0 + 19) 285 105 [(2, 37), (0, a), (0, kL67)] [] h40 (zwRt 0 (fun x g => zI g ∧ zMR msP h g ∧ (0 ≤ x ∧ x ≤ 1) ∧ mO h g ∧ vR t n w0 g x (pFac t n o (sub t n) s))) := by
            intro n0
            induction n0 using Nat.strongRecOn with
            | ind n0 IHL67 =>
              intro kL67 hnL67 iL67_0 iL67_1
              refine zwW_p [(1, 2, 0), (0, 13, 0)] (q := 108) (ls' := [(2, 37), (0, a), (0, kL67)]) (st' := [(0, 13), (0, kL67)]) (by decide +kernel) rfl ?_
              refine zwic_ge (q := 154) (nx := 111) (by decide +kernel) (fun c68 => ?_) (fun c68 => ?_)
              · have NW : pK t n s.1 = 1 → ¬ (0 ≤ pV t n s.1 ∧ pV t n s.1 ≤ 12) := fun z z2 => iL67_1 (pV t n s.1).toNat (by omega) ⟨z, by omega⟩
                refine zwW_p [(1, 0, 2)] (q := 155) (ls' := [(2, 37), (0, a), (0, kL67)]) (st' := [(2, 37)]) (by decide +kernel) rfl ?_
                refine zwW_cm Ih40 (op := 60) (k' := 267) (n := 0) (kd := 13) (m := 97) (nx := 158) (r := 37) (tl := []) (st' := []) (by decide +kernel) rfl (by decide +kernel) (Nat.ble_eq_true_of_le (by omega)) (m267_p h40 Ih40 (Eh40)) ?_
                rintro x h70 ⟨Ih70, Qh70, rfl, f69⟩
                have Rh70 : zMR msP h h70 := Rh40.tr Qh70 (by decide +kernel)
                have Bh70 : vB t n h70 := Bh40.fr Qh70 (by decide +kernel)
                have Oh70 : mO h h70 := (Oh40).tr (mO.fr Qh70 (by decide +kernel)).1
                refine zwW_ret (nx := 159) (a := 1) (b := 0) (by decide +kernel) rfl (Or.inr (Or.inl ⟨rfl, by omega⟩)) ?_
                refine ⟨Ih70, Rh70, by omega, Oh70, ?_⟩
                show vR t n w0 h70 0 (pFac t n o (sub t n) s)
                first
                | (rw [pFac_num f43 (by omega), show pV t n s.1 = kL67 by omega]; exact mR_t (RQh40) (Eh40))
                | (rw [pFac_wd CW.1 ⟨by omega, by omega⟩, show pV t n s.1 = kL67 by omega]; exact mR_t (RQh40) (Eh40))
                | (rw [pFac_par (ho.resolve_right (fun z => by omega)).2 CP (S31.b1 (by omega)) c1]; exact mR_t (RQh40) (Eh40))
                | (rw [pFac_pn (ho.resolve_right (fun z => by omega)).2 CP (S31.b1 (by omega)) c1]; exact mR_f (f69.trans (RQh40).1.1))
                | (rw [pFac_pf (ho.resolve_right (fun z => by omega)).2 CP (S31.b0 (by omega))]; exact S31.z (by omega))
                | (rw [pFac_no (fun z => by omega) (fun z => by omega) (fun z => by first | exact absurd z.2 c1 | exact absurd z.1 (fun z1 => by have y := ho.resolve_left (fun y => by omega); rw [z1] at y; cases y.2))]; exact mR_f (f69.trans (RQh40).1.1))
                | (rw [pFac_no (fun z => by omega) (fun z => by have w := NW z.1; omega) (fun z => absurd z.2 c1)]; exact mR_f (f69.trans (RQh40).1.1))
                | (exfalso; omega)
              · refine zwW_p [(1, 0, 2), (1, 0, 2)] (q := 113) (ls' := [(2, 37), (0, a), (0, kL67)]) (st' := [(2, 37), (2, 37)]) (by decide +kernel) rfl ?_
                refine zwW_gc Ih40 (kd := 13) (bn := 55) (n := 97) (c := 167) (nx := 116) (by decide +kernel) ?_
                refine zwW_p [(1, 2, 0)] (q := 117) (ls' := [(2, 37), (0, a), (0, kL67)]) (st' := [(0, kL67), (2, 167), (2, 37)]) (by decide +kernel) rfl ?_
                refine zwW_wd13 Ih40 (nx := 118) (by decide +kernel) (by first | omega | exact ⟨by omega, by omega⟩) ?_
                refine zwW_cm Ih40 (op := 60) (k' := 246) (n := 1) (kd := 13) (m := 97) (nx := 121) (r := 37) (tl := [(2, (-17 - kL67))]) (st' := []) (by decide +kernel) rfl (by decide +kernel) (Nat.ble_eq_true_of_le (by omega)) (m246_p h40 Ih40 (-17 - kL67) t n (s).1 (by first | omega | exact ⟨by omega, by omega⟩) Bh40 (RQh40).1) ?_
                rintro x _ ⟨rfl, ⟨rfl, c71⟩ | ⟨rfl, c71⟩⟩
                · refine zwif_eq (q := 148) (nx := 124) (by decide +kernel) (fun c72 => ?_) (fun c72 => ?_)
                  · exfalso; omega
                  · have CW := c71
                    have NK2 : mWi (-17 - kL67) = (kL67).toNat := by unfold mWi; rw [if_neg (by omega), if_pos (by omega)]; omega
                    rw [NK2] at CW
                    refine zwW_p [(1, 0, 2), (0, 1, 0)] (q := 126) (ls' := [(2, 37), (0, a), (0, kL67)]) (st' := [(0, 1), (2, 37)]) (by decide +kernel) rfl ?_
                    refine zwW_cm Ih40 (op := 60) (k' := 247) (n := 1) (kd := 13) (m := 97) (nx := 129) (r := 37) (tl := [(0, 1)]) (st' := []) (by decide +kernel) rfl (by decide +kernel) (Nat.ble_eq_true_of_le (by omega)) (m247_p h40 Ih40 1 t n (s).1 Bh40 (RQh40).1 (Eh40)) ?_
                    rintro x h73 ⟨Ih73, Qh73, ⟨rfl, f74, f75, f76⟩ | ⟨rfl, f77, f78⟩⟩
                    · have Rh73 : zMR msP h h73 := Rh40.tr Qh73 (by decide +kernel)
                      have Bh73 : vB t n h73 := Bh40.fr Qh73 (by decide +kernel)
                      have RQh73 : mQ t n w0 h73 (pA t n s) := (RQh40).tk Qh73 (by decide +kernel) ⟨by have z := (Oh40).1; omega, by have z := (Oh40).1; omega⟩ f75
                      have Vh73 : rV n (pA t n s) := (W0).a (by omega)
                      have Oh73 : mO h h73 := (Oh40).tr (mO.fr Qh73 (by decide +kernel)).1
                      refine zwif_eq (q := 146) (nx := 132) (by decide +kernel) (fun c79 => ?_) (fun c79 => ?_)
                      · exfalso; omega
                      · refine zwW_p [(1, 0, 2), (0, 118, 0), (1, 2, 0)] (q := 136) (ls' := [(2, 37), (0, a), (0, kL67)]) (st' := [(0, kL67), (0, 118), (2, 37)]) (by decide +kernel) rfl ?_
                        refine zwW_cm Ih73 (op := 60) (k' := 270) (n := 2) (kd := 13) (m := 97) (nx := 139) (r := 37) (tl := [(0, 118), (0, kL67)]) (st' := []) (by decide +kernel) rfl (by decide +kernel) (Nat.ble_eq_true_of_le (by omega)) (m270 h73 Ih73 118 kL67 (by omega) (by omega) (by have z := (Oh73).1; omega) ((Vh73).mlt Bh73 RQh73)) ?_
                        rintro x h83 ⟨Ih83, Qh83, rfl, f80, f81, f82⟩
                        have Rh83 : zMR msP h h83 := Rh73.tr Qh83 (by decide +kernel)
                        have Bh83 : vB t n h83 := Bh73.fr Qh83 (by decide +kernel)
                        have RQh83 : mQ t n w0 h83 (pW (-1 - kL67) (pA t n s)) := (RQh73).put Qh83 (by decide +kernel) f80 f81 (eEn_v) (Or.inr (Or.inl ⟨rfl, by omega, by omega⟩))
                        have Eh83 : fld h83 37 44 = -1 := (Qh83.f (a1 := 37) (a2 := 37) (j1 := 44) (j2 := 45) (by decide +kernel) (by first | decide | exact ⟨by decide, by decide⟩) (by first | decide | exact ⟨by decide, by decide⟩)).trans f76
                        have Oh83 : mO h h83 := (Oh73).tr (mO.put Qh83 (by decide +kernel) f82)
                        refine zwif_eq (q := 146) (nx := 142) (by decide +kernel) (fun c84 => ?_) (fun c84 => ?_)
                        · exfalso; omega
                        · refine zwW_p [(0, 1, 0), (24, 147, 0)] (q := 147) (ls' := [(2, 37), (0, a), (0, kL67)]) (st' := [(0, 1)]) (by decide +kernel) rfl ?_
                          refine zwW_ret (nx := 148) (a := 1) (b := 0) (by decide +kernel) rfl (Or.inr (Or.inl ⟨rfl, Or.inr rfl⟩)) ?_
                          refine ⟨Ih83, Rh83, by omega, Oh83, ?_⟩
                          show vR t n w0 h83 1 (pFac t n o (sub t n) s)
                          first
                          | (rw [pFac_num f43 (by omega), show pV t n s.1 = kL67 by omega]; exact mR_t (RQh83) (Eh83))
                          | (rw [pFac_wd CW.1 ⟨by omega, by omega⟩, show pV t n s.1 = kL67 by omega]; exact mR_t (RQh83) (Eh83))
                          | (rw [pFac_par (ho.resolve_right (fun z => by omega)).2 CP (S31.b1 (by omega)) c71]; exact mR_t (RQh83) (Eh83))
                          | (rw [pFac_pn (ho.resolve_right (fun z => by omega)).2 CP (S31.b1 (by omega)) c71]; exact mR_f rfl)
                          | (rw [pFac_pf (ho.resolve_right (fun z => by omega)).2 CP (S31.b0 (by omega))]; exact S31.z (by omega))
                          | (rw [pFac_no (fun z => by omega) (fun z => by omega) (fun z => by first | exact absurd z.2 c1 | exact absurd z.1 (fun z1 => by have y := ho.resolve_left (fun y => by omega); rw [z1] at y; cases y.2))]; exact mR_f rfl)
                          | (rw [pFac_no (fun z => by omega) (fun z => by have w := NW z.1; omega) (fun z => absurd z.2 c1)]; exact mR_f rfl)
                          | (exfalso; omega)
                    · exfalso; omega
                · refine zwif_eq (q := 148) (nx := 124) (by decide +kernel) (fun c85 => ?_) (fun c85 => ?_)
                  · have CX := c71
                    have NK2 : mWi (-17 - kL67) = (kL67).toNat := by unfold mWi; rw [if_neg (by omega), if_pos (by omega)]; omega
                    rw [NK2] at CX
                    refine zwW_inc (i := 2) (c := 1) (x := kL67) (nx := 151) (by decide +kernel) rfl (by first | omega | exact ⟨by omega, by omega⟩) (ls' := [(2, 37), (0, a), (0, (kL67 + 1))]) rfl ?_
                    refine zwW_p [(24, 105, 0)] (q := 105) (ls' := [(2, 37), (0, a), (0, (kL67 + 1))]) (st' := []) (by decide +kernel) rfl ?_
                    exact IHL67 ((1000 - (kL67 + 1))).toNat (by omega) (kL67 + 1) rfl (by omega) (fun j hj => by by_cases z : j = (kL67).toNat; exact z ▸ CX; exact iL67_1 j (by omega))
                  · exfalso; omega
          exact L67 _ 0 rfl (by omega) (fun j hj => by omega)
        · exfalso; omega
    · exfalso; omega
-- WheelLandModel.product(I)Z
theorem m269_q {sc : List Int} (a : Int) (D0 : Nat) (pa : 0 ≤ a ∧ a ≤ 8) (o : Bool) (sub : pT → Nat → pQ → pR) (ho : (a < 8 ∧ o = true) ∨ (8 ≤ a ∧ o = false)) (hs : ∀ (t : pT) (n : Nat), pG n (sub t n)) (HS : a < 8 → mX sc D0 248 (a + 1) sub) : mX sc (D0 + 21) 269 a (fun t n => pPro t n (pFac t n o (sub t n))) := by
  intro h I t n w0 s B Q0 W0 pc pf
  have bc := I.b (a1 := 37) (a2 := 37) (j1 := 47) (j2 := 48) (lo := -1) (hi := 4) (by decide +kernel) (r := 37) (j := 47) (by decide) (by decide) (by decide) (by decide)
  have B2 := B.2.1
  have O0 : mO h h := mO.rf
  refine zwC_of (D := D0 + 20) 3 (by decide +kernel) rfl (ls := [(2, 37), (0, a), (9, 0)]) rfl ?_
  have R : zMR msP h h := zMR.rf _ _
  refine zwW_p [(1, 0, 2), (1, 1, 0)] (q := 2) (ls' := [(2, 37), (0, a), (9, 0)]) (st' := [(0, a), (2, 37)]) (by decide +kernel) rfl ?_
  refine zwW_cm I (op := 60) (k' := 285) (n := 1) (kd := 13) (m := 97) (nx := 5) (r := 37) (tl := [(0, a)]) (st' := []) (by decide +kernel) rfl (by decide +kernel) (Nat.ble_eq_true_of_le (by omega)) (m285_q a D0 pa o sub ho hs HS h I t n w0 s B (Q0) (W0) (by have z := (O0).1; omega) (pf)) ?_
  rintro v1 h5 ⟨Ih5, Qh5, f2, f3, f4⟩
  have Rh5 : zMR msP h h5 := R.tr Qh5 (by decide +kernel)
  have Bh5 : vB t n h5 := B.fr Qh5 (by decide +kernel)
  have S2 : vR t n w0 h5 _ ((pFac t n o (sub t n)) s) := f4
  have Oh5 : mO h h5 := (O0).tr f3
  have Wh5 : rW n ((pFac t n o (sub t n)) s).2 := (W0).fn (pG_fac (hs t n))
  refine zwif_ne (q := 10) (nx := 8) (by decide +kernel) (fun c6 => ?_) (fun c6 => ?_)
  · have L7 : ∀ (n0 : Nat) (w2L7 : Vl) (hL7 : Hp), n0 = (fld hL7 37 41 - fld hL7 37 42).toNat → (vB t n hL7) → (mO h hL7) → (vL t n w0 hL7 (pLp t n 42 47 (pFac t n o (sub t n))) (pPro t n (pFac t n o (sub t n)) s)) → zI hL7 → zMR msP h hL7 → zwW sc (D0 + 20) 269 10 [(2, 37), (0, a), w2L7] [] hL7 (zwRt 0 (fun x g => zI g ∧ zMR msP h g ∧ (0 ≤ x ∧ x ≤ 1) ∧ mO h g ∧ vR t n w0 g x (pPro t n (pFac t n o (sub t n)) s))) := by
      intro n0
      induction n0 using Nat.strongRecOn with
      | ind n0 IHL7 =>
        intro w2L7 hL7 hnL7 iL7_0 iL7_1 iL7_2 IhL7 RhL7
        obtain ⟨kL, qL, QL, WL, EL, NL, TL⟩ := iL7_2
        have AL := QL.1.1
        have BL := iL7_0.1
        refine zwW_p [(1, 0, 2), (0, 42, 0)] (q := 13) (ls' := [(2, 37), (0, a), w2L7]) (st' := [(0, 42), (2, 37)]) (by decide +kernel) rfl ?_
        refine zwW_cm IhL7 (op := 60) (k' := 250) (n := 1) (kd := 13) (m := 97) (nx := 16) (r := 37) (tl := [(0, 42)]) (st' := []) (by decide +kernel) rfl (by decide +kernel) (Nat.ble_eq_true_of_le (by omega)) (m250_p hL7 IhL7 42 t n (qL).1 iL7_0 (QL).1 rfl) ?_
        rintro x _ ⟨rfl, ⟨rfl, c8⟩ | ⟨rfl, c8⟩⟩
        · refine zwif_ne (q := 28) (nx := 19) (by decide +kernel) (fun c9 => ?_) (fun c9 => ?_)
          · have HK : pK t n qL.1 = 42 ∨ pK t n qL.1 = 47 := by first | exact Or.inl c8 | exact Or.inr c8
            have HZ : pK t n qL.1 ≠ 0 := by omega
            have PL := pK_lt HZ
            have HM := mL_m WL HZ (show pG n (pFac t n o (sub t n)) from pG_fac (hs t n)) NL
            refine zwW_p [(1, 0, 2)] (q := 29) (ls' := [(2, 37), (0, a), w2L7]) (st' := [(2, 37)]) (by decide +kernel) rfl ?_
            refine zwW_gc IhL7 (kd := 13) (bn := 40) (n := 97) (c := 98) (nx := 32) (by decide +kernel) ?_
            refine zwW_p [(1, 0, 2)] (q := 33) (ls' := [(2, 37), (0, a), w2L7]) (st' := [(2, 37), (2, 98)]) (by decide +kernel) rfl ?_
            refine zwW_gs IhL7 (kd := 13) (bn := 42) (n := 97) (t := 0) (lo := 0) (hi := 400) (nx := 36) (by decide +kernel) ?_
            intro v10 ev10 lv10 uv10
            have ib1 : 0 ≤ v10 ∧ v10 < ((400 : Nat) : Int) := (by first | omega | exact ⟨by omega, by omega⟩)
            refine zwW_al IhL7 (a1 := 98) (a2 := 98) (kd := 21) (n := 400) (t := 0) (lo := -128) (hi := 127) (nx := 37) (by decide +kernel) (by first | decide | exact ⟨by decide, by decide⟩) ib1 ?_
            intro v11 ev11 lv11 uv11
            have A37 := (QL).1.1
            have E37 : v11 = t (qL.1) := by rw [ev11]; refine Eq.trans ?_ (iL7_0.2.2 (qL.1) (by omega)); first | rfl | (congr 1; omega)
            have P37 : v11 = pK t n qL.1 := by rcases HK with z | z <;> (have y := (pK_sg rfl).mp z; omega)
            refine zwW_p [(2, 2, 0), (1, 0, 2)] (q := 39) (ls' := [(2, 37), (0, a), (0, v11)]) (st' := [(2, 37)]) (by decide +kernel) rfl ?_
            refine zwW_cmv IhL7 (op := 60) (k' := 268) (n := 0) (kd := 13) (m := 97) (nx := 42) (r := 37) (tl := []) (st' := []) (by decide +kernel) rfl (by decide +kernel) (Nat.ble_eq_true_of_le (by omega)) (m268_p hL7 IhL7 t n (qL).1 iL7_0 (QL).1) ?_
            rintro h13 ⟨Ih13, Qh13, f12⟩
            have Rh13 : zMR msP h h13 := RhL7.tr Qh13 (by decide +kernel)
            have Bh13 : vB t n h13 := iL7_0.fr Qh13 (by decide +kernel)
            have RQh13 : mQ t n w0 h13 (pA t n qL) := (QL).tk Qh13 (by decide +kernel) ⟨by have z := (iL7_1).1; omega, by have z := (iL7_1).1; omega⟩ f12
            have Vh13 : rV n (pA t n qL) := (WL).a (by omega)
            have Eh13 : fld h13 37 44 = -1 := (Qh13.f (a1 := 37) (a2 := 37) (j1 := 44) (j2 := 45) (by decide +kernel) (by first | decide | exact ⟨by decide, by decide⟩) (by first | decide | exact ⟨by decide, by decide⟩)).trans EL
            have Oh13 : mO h h13 := (iL7_1).tr (mO.fr Qh13 (by decide +kernel)).1
            refine zwW_p [(1, 0, 2), (1, 1, 0)] (q := 44) (ls' := [(2, 37), (0, a), (0, v11)]) (st' := [(0, a), (2, 37)]) (by decide +kernel) rfl ?_
            refine zwW_cm Ih13 (op := 60) (k' := 285) (n := 1) (kd := 13) (m := 97) (nx := 47) (r := 37) (tl := [(0, a)]) (st' := []) (by decide +kernel) rfl (by decide +kernel) (Nat.ble_eq_true_of_le (by omega)) (m285_q a D0 pa o sub ho hs HS h13 Ih13 t n w0 (pA t n qL) Bh13 (RQh13) (Vh13.wk) (by have z := (Oh13).1; omega) (Eh13)) ?_
            rintro v14 h18 ⟨Ih18, Qh18, f15, f16, f17⟩
            have Rh18 : zMR msP h h18 := Rh13.tr Qh18 (by decide +kernel)
            have Bh18 : vB t n h18 := Bh13.fr Qh18 (by decide +kernel)
            have S44 : vR t n w0 h18 _ ((pFac t n o (sub t n)) (pA t n qL)) := f17
            have Oh18 : mO h h18 := (Oh13).tr f16
            have Vh18 : rV n ((pFac t n o (sub t n)) (pA t n qL)).2 := (Vh13).fn (pG_fac (hs t n))
            refine zwif_ne (q := 52) (nx := 50) (by decide +kernel) (fun c19 => ?_) (fun c19 => ?_)
            · refine zwW_p [(1, 0, 2), (1, 2, 0), (0, 0, 0)] (q := 55) (ls' := [(2, 37), (0, a), (0, v11)]) (st' := [(0, 0), (0, v11), (2, 37)]) (by decide +kernel) rfl ?_
              refine zwW_cm Ih18 (op := 60) (k' := 270) (n := 2) (kd := 13) (m := 97) (nx := 58) (r := 37) (tl := [(0, v11), (0, 0)]) (st' := []) (by decide +kernel) rfl (by decide +kernel) (Nat.ble_eq_true_of_le (by omega)) (m270 h18 Ih18 v11 0 (by omega) (by omega) (by have z := (Oh18).1; omega) ((Vh18).mlt Bh18 (S44.qq (by omega)))) ?_
              rintro x h23 ⟨Ih23, Qh23, rfl, f20, f21, f22⟩
              have Rh23 : zMR msP h h23 := Rh18.tr Qh23 (by decide +kernel)
              have Bh23 : vB t n h23 := Bh18.fr Qh23 (by decide +kernel)
              have RQh23 : mQ t n w0 h23 (pW (-v11) ((pFac t n o (sub t n) (pA t n qL)).2)) := ((S44.qq (by omega))).put Qh23 (by decide +kernel) f20 f21 (eEn_o (by omega)) (Or.inr (Or.inr (by omega)))
              have Eh23 : fld h23 37 44 = -1 := (Qh23.f (a1 := 37) (a2 := 37) (j1 := 44) (j2 := 45) (by decide +kernel) (by first | decide | exact ⟨by decide, by decide⟩) (by first | decide | exact ⟨by decide, by decide⟩)).trans (S44.e (by omega))
              have Oh23 : mO h h23 := (Oh18).tr (mO.put Qh23 (by decide +kernel) f22)
              have A55 : fld h23 37 42 = ((((pFac t n o (sub t n)) (pA t n qL)).2.1 : Nat) : Int) := (RQh23).1.1
              have B55 := (Bh23).1
              have H55 := HM.2.2
              have LB : vL t n w0 h23 (pLp t n 42 47 (pFac t n o (sub t n))) (pPro t n (pFac t n o (sub t n)) s) := mL_n (RQh23) ((Vh18).pw) (Eh23) HM.2.1 (by rw [TL]; exact pLp_n (k := kL - 1) HM.1 HK (S44.b1 (by omega)) P37)
              refine zwW_p [(15, 0, 0), (24, 10, 0)] (q := 10) (ls' := [(2, 37), (0, a), (0, v11)]) (st' := []) (by decide +kernel) rfl ?_
              exact IHL7 (fld h23 37 41 - fld h23 37 42).toNat (by omega) (0, v11) h23 rfl (Bh23) (Oh23) (LB) Ih23 Rh23
            · refine zwW_p [(0, 0, 0)] (q := 51) (ls' := [(2, 37), (0, a), (0, v11)]) (st' := [(0, 0)]) (by decide +kernel) rfl ?_
              refine zwW_ret (nx := 52) (a := 1) (b := 0) (by decide +kernel) rfl (Or.inr (Or.inl ⟨rfl, Or.inl rfl⟩)) ?_
              refine ⟨Ih18, Rh18, by omega, Oh18, ?_⟩
              show vR t n w0 h18 0 (pPro t n (pFac t n o (sub t n)) s)
              first
              | (unfold pPro; rw [if_neg (S2.b0 (by omega))]; exact S2.z (by omega))
              | (rw [TL, pLp_z (Or.inr (by omega))]; exact mR_t QL EL)
              | (rw [TL, pLp_f (k := kL - 1) HM.1 HK (S44.b0 (by omega))]; exact mR_f (S44.fl (by omega)).2)
              | (exfalso; omega)
          · exfalso; omega
        · refine zwif_ne (q := 28) (nx := 19) (by decide +kernel) (fun c24 => ?_) (fun c24 => ?_)
          · exfalso; omega
          · refine zwW_p [(1, 0, 2), (0, 47, 0)] (q := 22) (ls' := [(2, 37), (0, a), w2L7]) (st' := [(0, 47), (2, 37)]) (by decide +kernel) rfl ?_
            refine zwW_cm IhL7 (op := 60) (k' := 250) (n := 1) (kd := 13) (m := 97) (nx := 25) (r := 37) (tl := [(0, 47)]) (st' := []) (by decide +kernel) rfl (by decide +kernel) (Nat.ble_eq_true_of_le (by omega)) (m250_p hL7 IhL7 47 t n (qL).1 iL7_0 (QL).1 rfl) ?_
            rintro x _ ⟨rfl, ⟨rfl, c25⟩ | ⟨rfl, c25⟩⟩
            · refine zwif_eq (q := 62) (nx := 28) (by decide +kernel) (fun c26 => ?_) (fun c26 => ?_)
              · exfalso; omega
              · have HK : pK t n qL.1 = 42 ∨ pK t n qL.1 = 47 := by first | exact Or.inl c25 | exact Or.inr c25
                have HZ : pK t n qL.1 ≠ 0 := by omega
                have PL := pK_lt HZ
                have HM := mL_m WL HZ (show pG n (pFac t n o (sub t n)) from pG_fac (hs t n)) NL
                refine zwW_p [(1, 0, 2)] (q := 29) (ls' := [(2, 37), (0, a), w2L7]) (st' := [(2, 37)]) (by decide +kernel) rfl ?_
                refine zwW_gc IhL7 (kd := 13) (bn := 40) (n := 97) (c := 98) (nx := 32) (by decide +kernel) ?_
                refine zwW_p [(1, 0, 2)] (q := 33) (ls' := [(2, 37), (0, a), w2L7]) (st' := [(2, 37), (2, 98)]) (by decide +kernel) rfl ?_
                refine zwW_gs IhL7 (kd := 13) (bn := 42) (n := 97) (t := 0) (lo := 0) (hi := 400) (nx := 36) (by decide +kernel) ?_
                intro v27 ev27 lv27 uv27
                have ib2 : 0 ≤ v27 ∧ v27 < ((400 : Nat) : Int) := (by first | omega | exact ⟨by omega, by omega⟩)
                refine zwW_al IhL7 (a1 := 98) (a2 := 98) (kd := 21) (n := 400) (t := 0) (lo := -128) (hi := 127) (nx := 37) (by decide +kernel) (by first | decide | exact ⟨by decide, by decide⟩) ib2 ?_
                intro v28 ev28 lv28 uv28
                have A37 := (QL).1.1
                have E37 : v28 = t (qL.1) := by rw [ev28]; refine Eq.trans ?_ (iL7_0.2.2 (qL.1) (by omega)); first | rfl | (congr 1; omega)
                have P37 : v28 = pK t n qL.1 := by rcases HK with z | z <;> (have y := (pK_sg rfl).mp z; omega)
                refine zwW_p [(2, 2, 0), (1, 0, 2)] (q := 39) (ls' := [(2, 37), (0, a), (0, v28)]) (st' := [(2, 37)]) (by decide +kernel) rfl ?_
                refine zwW_cmv IhL7 (op := 60) (k' := 268) (n := 0) (kd := 13) (m := 97) (nx := 42) (r := 37) (tl := []) (st' := []) (by decide +kernel) rfl (by decide +kernel) (Nat.ble_eq_true_of_le (by omega)) (m268_p hL7 IhL7 t n (qL).1 iL7_0 (QL).1) ?_
                rintro h30 ⟨Ih30, Qh30, f29⟩
                have Rh30 : zMR msP h h30 := RhL7.tr Qh30 (by decide +kernel)
                have Bh30 : vB t n h30 := iL7_0.fr Qh30 (by decide +kernel)
                have RQh30 : mQ t n w0 h30 (pA t n qL) := (QL).tk Qh30 (by decide +kernel) ⟨by have z := (iL7_1).1; omega, by have z := (iL7_1).1; omega⟩ f29
                have Vh30 : rV n (pA t n qL) := (WL).a (by omega)
                have Eh30 : fld h30 37 44 = -1 := (Qh30.f (a1 := 37) (a2 := 37) (j1 := 44) (j2 := 45) (by decide +kernel) (by first | decide | exact ⟨by decide, by decide⟩) (by first | decide | exact ⟨by decide, by decide⟩)).trans EL
                have Oh30 : mO h h30 := (iL7_1).tr (mO.fr Qh30 (by decide +kernel)).1
                refine zwW_p [(1, 0, 2), (1, 1, 0)] (q := 44) (ls' := [(2, 37), (0, a), (0, v28)]) (st' := [(0, a), (2, 37)]) (by decide +kernel) rfl ?_
                refine zwW_cm Ih30 (op := 60) (k' := 285) (n := 1) (kd := 13) (m := 97) (nx := 47) (r := 37) (tl := [(0, a)]) (st' := []) (by decide +kernel) rfl (by decide +kernel) (Nat.ble_eq_true_of_le (by omega)) (m285_q a D0 pa o sub ho hs HS h30 Ih30 t n w0 (pA t n qL) Bh30 (RQh30) (Vh30.wk) (by have z := (Oh30).1; omega) (Eh30)) ?_
                rintro v31 h35 ⟨Ih35, Qh35, f32, f33, f34⟩
                have Rh35 : zMR msP h h35 := Rh30.tr Qh35 (by decide +kernel)
                have Bh35 : vB t n h35 := Bh30.fr Qh35 (by decide +kernel)
                have S44 : vR t n w0 h35 _ ((pFac t n o (sub t n)) (pA t n qL)) := f34
                have Oh35 : mO h h35 := (Oh30).tr f33
                have Vh35 : rV n ((pFac t n o (sub t n)) (pA t n qL)).2 := (Vh30).fn (pG_fac (hs t n))
                refine zwif_ne (q := 52) (nx := 50) (by decide +kernel) (fun c36 => ?_) (fun c36 => ?_)
                · refine zwW_p [(1, 0, 2), (1, 2, 0), (0, 0, 0)] (q := 55) (ls' := [(2, 37), (0, a), (0, v28)]) (st' := [(0, 0), (0, v28), (2, 37)]) (by decide +kernel) rfl ?_
                  refine zwW_cm Ih35 (op := 60) (k' := 270) (n := 2) (kd := 13) (m := 97) (nx := 58) (r := 37) (tl := [(0, v28), (0, 0)]) (st' := []) (by decide +kernel) rfl (by decide +kernel) (Nat.ble_eq_true_of_le (by omega)) (m270 h35 Ih35 v28 0 (by omega) (by omega) (by have z := (Oh35).1; omega) ((Vh35).mlt Bh35 (S44.qq (by omega)))) ?_
                  rintro x h40 ⟨Ih40, Qh40, rfl, f37, f38, f39⟩
                  have Rh40 : zMR msP h h40 := Rh35.tr Qh40 (by decide +kernel)
                  have Bh40 : vB t n h40 := Bh35.fr Qh40 (by decide +kernel)
                  have RQh40 : mQ t n w0 h40 (pW (-v28) ((pFac t n o (sub t n) (pA t n qL)).2)) := ((S44.qq (by omega))).put Qh40 (by decide +kernel) f37 f38 (eEn_o (by omega)) (Or.inr (Or.inr (by omega)))
                  have Eh40 : fld h40 37 44 = -1 := (Qh40.f (a1 := 37) (a2 := 37) (j1 := 44) (j2 := 45) (by decide +kernel) (by first | decide | exact ⟨by decide, by decide⟩) (by first | decide | exact ⟨by decide, by decide⟩)).trans (S44.e (by omega))
                  have Oh40 : mO h h40 := (Oh35).tr (mO.put Qh40 (by decide +kernel) f39)
                  have A55 : fld h40 37 42 = ((((pFac t n o (sub t n)) (pA t n qL)).2.1 : Nat) : Int) := (RQh40).1.1
                  have B55 := (Bh40).1
                  have H55 := HM.2.2
                  have LB : vL t n w0 h40 (pLp t n 42 47 (pFac t n o (sub t n))) (pPro t n (pFac t n o (sub t n)) s) := mL_n (RQh40) ((Vh35).pw) (Eh40) HM.2.1 (by rw [TL]; exact pLp_n (k := kL - 1) HM.1 HK (S44.b1 (by omega)) P37)
                  refine zwW_p [(15, 0, 0), (24, 10, 0)] (q := 10) (ls' := [(2, 37), (0, a), (0, v28)]) (st' := []) (by decide +kernel) rfl ?_
                  exact IHL7 (fld h40 37 41 - fld h40 37 42).toNat (by omega) (0, v28) h40 rfl (Bh40) (Oh40) (LB) Ih40 Rh40
                · refine zwW_p [(0, 0, 0)] (q := 51) (ls' := [(2, 37), (0, a), (0, v28)]) (st' := [(0, 0)]) (by decide +kernel) rfl ?_
                  refine zwW_ret (nx := 52) (a := 1) (b := 0) (by decide +kernel) rfl (Or.inr (Or.inl ⟨rfl, Or.inl rfl⟩)) ?_
                  refine ⟨Ih35, Rh35, by omega, Oh35, ?_⟩
                  show vR t n w0 h35 0 (pPro t n (pFac t n o (sub t n)) s)
                  first
                  | (unfold pPro; rw [if_neg (S2.b0 (by omega))]; exact S2.z (by omega))
                  | (rw [TL, pLp_z (Or.inr (by omega))]; exact mR_t QL EL)
                  | (rw [TL, pLp_f (k := kL - 1) HM.1 HK (S44.b0 (by omega))]; exact mR_f (S44.fl (by omega)).2)
                  | (exfalso; omega)
            · refine zwif_eq (q := 62) (nx := 28) (by decide +kernel) (fun c41 => ?_) (fun c41 => ?_)
              · refine zwW_p [(0, 1, 0)] (q := 63) (ls' := [(2, 37), (0, a), w2L7]) (st' := [(0, 1)]) (by decide +kernel) rfl ?_
                refine zwW_ret (nx := 64) (a := 1) (b := 0) (by decide +kernel) rfl (Or.inr (Or.inl ⟨rfl, Or.inr rfl⟩)) ?_
                refine ⟨IhL7, RhL7, by omega, iL7_1, ?_⟩
                show vR t n w0 hL7 1 (pPro t n (pFac t n o (sub t n)) s)
                first
                | (unfold pPro; rw [if_neg (S2.b0 (by omega))]; exact S2.z (by omega))
                | (rw [TL, pLp_z (Or.inr (by omega))]; exact mR_t QL EL)
                | (rw [TL, pLp_f (k := kL - 1) HM.1 HK (S44.b0 (by omega))]; exact mR_f (S44.fl (by omega)).2)
                | (exfalso; omega)
              · exfalso; omega
    exact L7 _ (9, 0) h5 rfl (Bh5) (Oh5) (mL_0 S2 (by omega) (Wh5) B2) Ih5 Rh5
  · refine zwW_p [(0, 0, 0)] (q := 9) (ls' := [(2, 37), (0, a), (9, 0)]) (st' := [(0, 0)]) (by decide +kernel) rfl ?_
    refine zwW_ret (nx := 10) (a := 1) (b := 0) (by decide +kernel) rfl (Or.inr (Or.inl ⟨rfl, Or.inl rfl⟩)) ?_
    refine ⟨Ih5, Rh5, by omega, Oh5, ?_⟩
    show vR t n w0 h5 0 (pPro t n (pFac t n o (sub t n)) s)
    first
    | (unfold pPro; rw [if_neg (S2.b0 (by omega))]; exact S2.z (by omega))
    | (rw [TL, pLp_z (Or.inr (by omega))]; exact mR_t QL EL)
    | (rw [TL, pLp_f (k := kL - 1) HM.1 HK (S44.b0 (by omega))]; exact mR_f (S44.fl (by omega)).2)
    | (exfalso; omega)
-- WheelLandModel.sum(I)Z
theorem m248_q {sc : List Int} (a : Int) (D0 : Nat) (pa : 0 ≤ a ∧ a ≤ 8) (o : Bool) (sub : pT → Nat → pQ → pR) (ho : (a < 8 ∧ o = true) ∨ (8 ≤ a ∧ o = false)) (hs : ∀ (t : pT) (n : Nat), pG n (sub t n)) (HS : a < 8 → mX sc D0 248 (a + 1) sub) : mX sc (D0 + 22) 248 a (fun t n => pSm0 t n (pFac t n o (sub t n))) := by
  intro h I t n w0 s B Q0 W0 pc pf
  have bc := I.b (a1 := 37) (a2 := 37) (j1 := 47) (j2 := 48) (lo := -1) (hi := 4) (by decide +kernel) (r := 37) (j := 47) (by decide) (by decide) (by decide) (by decide)
  have B2 := B.2.1
  have O0 : mO h h := mO.rf
  refine zwC_of (D := D0 + 21) 3 (by decide +kernel) rfl (ls := [(2, 37), (0, a), (9, 0)]) rfl ?_
  have R : zMR msP h h := zMR.rf _ _
  refine zwW_p [(1, 0, 2), (1, 1, 0)] (q := 2) (ls' := [(2, 37), (0, a), (9, 0)]) (st' := [(0, a), (2, 37)]) (by decide +kernel) rfl ?_
  refine zwW_cm I (op := 60) (k' := 269) (n := 1) (kd := 13) (m := 97) (nx := 5) (r := 37) (tl := [(0, a)]) (st' := []) (by decide +kernel) rfl (by decide +kernel) (Nat.ble_eq_true_of_le (by omega)) (m269_q a D0 pa o sub ho hs HS h I t n w0 s B (Q0) (W0) (by have z := (O0).1; omega) (pf)) ?_
  rintro v1 h5 ⟨Ih5, Qh5, f2, f3, f4⟩
  have Rh5 : zMR msP h h5 := R.tr Qh5 (by decide +kernel)
  have Bh5 : vB t n h5 := B.fr Qh5 (by decide +kernel)
  have S2 : vR t n w0 h5 _ ((pPro t n (pFac t n o (sub t n))) s) := f4
  have Oh5 : mO h h5 := (O0).tr f3
  have Wh5 : rW n ((pPro t n (pFac t n o (sub t n))) s).2 := (W0).fn (pG_pro (pG_fac (hs t n)))
  refine zwif_ne (q := 10) (nx := 8) (by decide +kernel) (fun c6 => ?_) (fun c6 => ?_)
  · have L7 : ∀ (n0 : Nat) (w2L7 : Vl) (hL7 : Hp), n0 = (fld hL7 37 41 - fld hL7 37 42).toNat → (vB t n hL7) → (mO h hL7) → (vL t n w0 hL7 (pLp t n 43 45 (pPro t n (pFac t n o (sub t n)))) (pSm0 t n (pFac t n o (sub t n)) s)) → zI hL7 → zMR msP h hL7 → zwW sc (D0 + 21) 248 10 [(2, 37), (0, a), w2L7] [] hL7 (zwRt 0 (fun x g => zI g ∧ zMR msP h g ∧ (0 ≤ x ∧ x ≤ 1) ∧ mO h g ∧ vR t n w0 g x (pSm0 t n (pFac t n o (sub t n)) s))) := by
      intro n0
      induction n0 using Nat.strongRecOn with
      | ind n0 IHL7 =>
        intro w2L7 hL7 hnL7 iL7_0 iL7_1 iL7_2 IhL7 RhL7
        obtain ⟨kL, qL, QL, WL, EL, NL, TL⟩ := iL7_2
        have AL := QL.1.1
        have BL := iL7_0.1
        refine zwW_p [(1, 0, 2), (0, 43, 0)] (q := 13) (ls' := [(2, 37), (0, a), w2L7]) (st' := [(0, 43), (2, 37)]) (by decide +kernel) rfl ?_
        refine zwW_cm IhL7 (op := 60) (k' := 250) (n := 1) (kd := 13) (m := 97) (nx := 16) (r := 37) (tl := [(0, 43)]) (st' := []) (by decide +kernel) rfl (by decide +kernel) (Nat.ble_eq_true_of_le (by omega)) (m250_p hL7 IhL7 43 t n (qL).1 iL7_0 (QL).1 rfl) ?_
        rintro x _ ⟨rfl, ⟨rfl, c8⟩ | ⟨rfl, c8⟩⟩
        · refine zwif_ne (q := 28) (nx := 19) (by decide +kernel) (fun c9 => ?_) (fun c9 => ?_)
          · have HK : pK t n qL.1 = 43 ∨ pK t n qL.1 = 45 := by first | exact Or.inl c8 | exact Or.inr c8
            have HZ : pK t n qL.1 ≠ 0 := by omega
            have PL := pK_lt HZ
            have HM := mL_m WL HZ (show pG n (pPro t n (pFac t n o (sub t n))) from pG_pro (pG_fac (hs t n))) NL
            refine zwW_p [(1, 0, 2)] (q := 29) (ls' := [(2, 37), (0, a), w2L7]) (st' := [(2, 37)]) (by decide +kernel) rfl ?_
            refine zwW_gc IhL7 (kd := 13) (bn := 40) (n := 97) (c := 98) (nx := 32) (by decide +kernel) ?_
            refine zwW_p [(1, 0, 2)] (q := 33) (ls' := [(2, 37), (0, a), w2L7]) (st' := [(2, 37), (2, 98)]) (by decide +kernel) rfl ?_
            refine zwW_gs IhL7 (kd := 13) (bn := 42) (n := 97) (t := 0) (lo := 0) (hi := 400) (nx := 36) (by decide +kernel) ?_
            intro v10 ev10 lv10 uv10
            have ib1 : 0 ≤ v10 ∧ v10 < ((400 : Nat) : Int) := (by first | omega | exact ⟨by omega, by omega⟩)
            refine zwW_al IhL7 (a1 := 98) (a2 := 98) (kd := 21) (n := 400) (t := 0) (lo := -128) (hi := 127) (nx := 37) (by decide +kernel) (by first | decide | exact ⟨by decide, by decide⟩) ib1 ?_
            intro v11 ev11 lv11 uv11
            have A37 := (QL).1.1
            have E37 : v11 = t (qL.1) := by rw [ev11]; refine Eq.trans ?_ (iL7_0.2.2 (qL.1) (by omega)); first | rfl | (congr 1; omega)
            have P37 : v11 = pK t n qL.1 := by rcases HK with z | z <;> (have y := (pK_sg rfl).mp z; omega)
            refine zwW_p [(2, 2, 0), (1, 0, 2)] (q := 39) (ls' := [(2, 37), (0, a), (0, v11)]) (st' := [(2, 37)]) (by decide +kernel) rfl ?_
            refine zwW_cmv IhL7 (op := 60) (k' := 268) (n := 0) (kd := 13) (m := 97) (nx := 42) (r := 37) (tl := []) (st' := []) (by decide +kernel) rfl (by decide +kernel) (Nat.ble_eq_true_of_le (by omega)) (m268_p hL7 IhL7 t n (qL).1 iL7_0 (QL).1) ?_
            rintro h13 ⟨Ih13, Qh13, f12⟩
            have Rh13 : zMR msP h h13 := RhL7.tr Qh13 (by decide +kernel)
            have Bh13 : vB t n h13 := iL7_0.fr Qh13 (by decide +kernel)
            have RQh13 : mQ t n w0 h13 (pA t n qL) := (QL).tk Qh13 (by decide +kernel) ⟨by have z := (iL7_1).1; omega, by have z := (iL7_1).1; omega⟩ f12
            have Vh13 : rV n (pA t n qL) := (WL).a (by omega)
            have Eh13 : fld h13 37 44 = -1 := (Qh13.f (a1 := 37) (a2 := 37) (j1 := 44) (j2 := 45) (by decide +kernel) (by first | decide | exact ⟨by decide, by decide⟩) (by first | decide | exact ⟨by decide, by decide⟩)).trans EL
            have Oh13 : mO h h13 := (iL7_1).tr (mO.fr Qh13 (by decide +kernel)).1
            refine zwW_p [(1, 0, 2), (1, 1, 0)] (q := 44) (ls' := [(2, 37), (0, a), (0, v11)]) (st' := [(0, a), (2, 37)]) (by decide +kernel) rfl ?_
            refine zwW_cm Ih13 (op := 60) (k' := 269) (n := 1) (kd := 13) (m := 97) (nx := 47) (r := 37) (tl := [(0, a)]) (st' := []) (by decide +kernel) rfl (by decide +kernel) (Nat.ble_eq_true_of_le (by omega)) (m269_q a D0 pa o sub ho hs HS h13 Ih13 t n w0 (pA t n qL) Bh13 (RQh13) (Vh13.wk) (by have z := (Oh13).1; omega) (Eh13)) ?_
            rintro v14 h18 ⟨Ih18, Qh18, f15, f16, f17⟩
            have Rh18 : zMR msP h h18 := Rh13.tr Qh18 (by decide +kernel)
            have Bh18 : vB t n h18 := Bh13.fr Qh18 (by decide +kernel)
            have S44 : vR t n w0 h18 _ ((pPro t n (pFac t n o (sub t n))) (pA t n qL)) := f17
            have Oh18 : mO h h18 := (Oh13).tr f16
            have Vh18 : rV n ((pPro t n (pFac t n o (sub t n))) (pA t n qL)).2 := (Vh13).fn (pG_pro (pG_fac (hs t n)))
            refine zwif_ne (q := 52) (nx := 50) (by decide +kernel) (fun c19 => ?_) (fun c19 => ?_)
            · refine zwW_p [(1, 0, 2), (1, 2, 0), (0, 0, 0)] (q := 55) (ls' := [(2, 37), (0, a), (0, v11)]) (st' := [(0, 0), (0, v11), (2, 37)]) (by decide +kernel) rfl ?_
              refine zwW_cm Ih18 (op := 60) (k' := 270) (n := 2) (kd := 13) (m := 97) (nx := 58) (r := 37) (tl := [(0, v11), (0, 0)]) (st' := []) (by decide +kernel) rfl (by decide +kernel) (Nat.ble_eq_true_of_le (by omega)) (m270 h18 Ih18 v11 0 (by omega) (by omega) (by have z := (Oh18).1; omega) ((Vh18).mlt Bh18 (S44.qq (by omega)))) ?_
              rintro x h23 ⟨Ih23, Qh23, rfl, f20, f21, f22⟩
              have Rh23 : zMR msP h h23 := Rh18.tr Qh23 (by decide +kernel)
              have Bh23 : vB t n h23 := Bh18.fr Qh23 (by decide +kernel)
              have RQh23 : mQ t n w0 h23 (pW (-v11) ((pPro t n (pFac t n o (sub t n)) (pA t n qL)).2)) := ((S44.qq (by omega))).put Qh23 (by decide +kernel) f20 f21 (eEn_o (by omega)) (Or.inr (Or.inr (by omega)))
              have Eh23 : fld h23 37 44 = -1 := (Qh23.f (a1 := 37) (a2 := 37) (j1 := 44) (j2 := 45) (by decide +kernel) (by first | decide | exact ⟨by decide, by decide⟩) (by first | decide | exact ⟨by decide, by decide⟩)).trans (S44.e (by omega))
              have Oh23 : mO h h23 := (Oh18).tr (mO.put Qh23 (by decide +kernel) f22)
              have A55 : fld h23 37 42 = ((((pPro t n (pFac t n o (sub t n))) (pA t n qL)).2.1 : Nat) : Int) := (RQh23).1.1
              have B55 := (Bh23).1
              have H55 := HM.2.2
              have LB : vL t n w0 h23 (pLp t n 43 45 (pPro t n (pFac t n o (sub t n)))) (pSm0 t n (pFac t n o (sub t n)) s) := mL_n (RQh23) ((Vh18).pw) (Eh23) HM.2.1 (by rw [TL]; exact pLp_n (k := kL - 1) HM.1 HK (S44.b1 (by omega)) P37)
              refine zwW_p [(15, 0, 0), (24, 10, 0)] (q := 10) (ls' := [(2, 37), (0, a), (0, v11)]) (st' := []) (by decide +kernel) rfl ?_
              exact IHL7 (fld h23 37 41 - fld h23 37 42).toNat (by omega) (0, v11) h23 rfl (Bh23) (Oh23) (LB) Ih23 Rh23
            · refine zwW_p [(0, 0, 0)] (q := 51) (ls' := [(2, 37), (0, a), (0, v11)]) (st' := [(0, 0)]) (by decide +kernel) rfl ?_
              refine zwW_ret (nx := 52) (a := 1) (b := 0) (by decide +kernel) rfl (Or.inr (Or.inl ⟨rfl, Or.inl rfl⟩)) ?_
              refine ⟨Ih18, Rh18, by omega, Oh18, ?_⟩
              show vR t n w0 h18 0 (pSm0 t n (pFac t n o (sub t n)) s)
              first
              | (unfold pSm0; rw [if_neg (S2.b0 (by omega))]; exact S2.z (by omega))
              | (rw [TL, pLp_z (Or.inr (by omega))]; exact mR_t QL EL)
              | (rw [TL, pLp_f (k := kL - 1) HM.1 HK (S44.b0 (by omega))]; exact mR_f (S44.fl (by omega)).2)
              | (exfalso; omega)
          · exfalso; omega
        · refine zwif_ne (q := 28) (nx := 19) (by decide +kernel) (fun c24 => ?_) (fun c24 => ?_)
          · exfalso; omega
          · refine zwW_p [(1, 0, 2), (0, 45, 0)] (q := 22) (ls' := [(2, 37), (0, a), w2L7]) (st' := [(0, 45), (2, 37)]) (by decide +kernel) rfl ?_
            refine zwW_cm IhL7 (op := 60) (k' := 250) (n := 1) (kd := 13) (m := 97) (nx := 25) (r := 37) (tl := [(0, 45)]) (st' := []) (by decide +kernel) rfl (by decide +kernel) (Nat.ble_eq_true_of_le (by omega)) (m250_p hL7 IhL7 45 t n (qL).1 iL7_0 (QL).1 rfl) ?_
            rintro x _ ⟨rfl, ⟨rfl, c25⟩ | ⟨rfl, c25⟩⟩
            · refine zwif_eq (q := 62) (nx := 28) (by decide +kernel) (fun c26 => ?_) (fun c26 => ?_)
              · exfalso; omega
              · have HK : pK t n qL.1 = 43 ∨ pK t n qL.1 = 45 := by first | exact Or.inl c25 | exact Or.inr c25
                have HZ : pK t n qL.1 ≠ 0 := by omega
                have PL := pK_lt HZ
                have HM := mL_m WL HZ (show pG n (pPro t n (pFac t n o (sub t n))) from pG_pro (pG_fac (hs t n))) NL
                refine zwW_p [(1, 0, 2)] (q := 29) (ls' := [(2, 37), (0, a), w2L7]) (st' := [(2, 37)]) (by decide +kernel) rfl ?_
                refine zwW_gc IhL7 (kd := 13) (bn := 40) (n := 97) (c := 98) (nx := 32) (by decide +kernel) ?_
                refine zwW_p [(1, 0, 2)] (q := 33) (ls' := [(2, 37), (0, a), w2L7]) (st' := [(2, 37), (2, 98)]) (by decide +kernel) rfl ?_
                refine zwW_gs IhL7 (kd := 13) (bn := 42) (n := 97) (t := 0) (lo := 0) (hi := 400) (nx := 36) (by decide +kernel) ?_
                intro v27 ev27 lv27 uv27
                have ib2 : 0 ≤ v27 ∧ v27 < ((400 : Nat) : Int) := (by first | omega | exact ⟨by omega, by omega⟩)
                refine zwW_al IhL7 (a1 := 98) (a2 := 98) (kd := 21) (n := 400) (t := 0) (lo := -128) (hi := 127) (nx := 37) (by decide +kernel) (by first | decide | exact ⟨by decide, by decide⟩) ib2 ?_
                intro v28 ev28 lv28 uv28
                have A37 := (QL).1.1
                have E37 : v28 = t (qL.1) := by rw [ev28]; refine Eq.trans ?_ (iL7_0.2.2 (qL.1) (by omega)); first | rfl | (congr 1; omega)
                have P37 : v28 = pK t n qL.1 := by rcases HK with z | z <;> (have y := (pK_sg rfl).mp z; omega)
                refine zwW_p [(2, 2, 0), (1, 0, 2)] (q := 39) (ls' := [(2, 37), (0, a), (0, v28)]) (st' := [(2, 37)]) (by decide +kernel) rfl ?_
                refine zwW_cmv IhL7 (op := 60) (k' := 268) (n := 0) (kd := 13) (m := 97) (nx := 42) (r := 37) (tl := []) (st' := []) (by decide +kernel) rfl (by decide +kernel) (Nat.ble_eq_true_of_le (by omega)) (m268_p hL7 IhL7 t n (qL).1 iL7_0 (QL).1) ?_
                rintro h30 ⟨Ih30, Qh30, f29⟩
                have Rh30 : zMR msP h h30 := RhL7.tr Qh30 (by decide +kernel)
                have Bh30 : vB t n h30 := iL7_0.fr Qh30 (by decide +kernel)
                have RQh30 : mQ t n w0 h30 (pA t n qL) := (QL).tk Qh30 (by decide +kernel) ⟨by have z := (iL7_1).1; omega, by have z := (iL7_1).1; omega⟩ f29
                have Vh30 : rV n (pA t n qL) := (WL).a (by omega)
                have Eh30 : fld h30 37 44 = -1 := (Qh30.f (a1 := 37) (a2 := 37) (j1 := 44) (j2 := 45) (by decide +kernel) (by first | decide | exact ⟨by decide, by decide⟩) (by first | decide | exact ⟨by decide, by decide⟩)).trans EL
                have Oh30 : mO h h30 := (iL7_1).tr (mO.fr Qh30 (by decide +kernel)).1
                refine zwW_p [(1, 0, 2), (1, 1, 0)] (q := 44) (ls' := [(2, 37), (0, a), (0, v28)]) (st' := [(0, a), (2, 37)]) (by decide +kernel) rfl ?_
                refine zwW_cm Ih30 (op := 60) (k' := 269) (n := 1) (kd := 13) (m := 97) (nx := 47) (r := 37) (tl := [(0, a)]) (st' := []) (by decide +kernel) rfl (by decide +kernel) (Nat.ble_eq_true_of_le (by omega)) (m269_q a D0 pa o sub ho hs HS h30 Ih30 t n w0 (pA t n qL) Bh30 (RQh30) (Vh30.wk) (by have z := (Oh30).1; omega) (Eh30)) ?_
                rintro v31 h35 ⟨Ih35, Qh35, f32, f33, f34⟩
                have Rh35 : zMR msP h h35 := Rh30.tr Qh35 (by decide +kernel)
                have Bh35 : vB t n h35 := Bh30.fr Qh35 (by decide +kernel)
                have S44 : vR t n w0 h35 _ ((pPro t n (pFac t n o (sub t n))) (pA t n qL)) := f34
                have Oh35 : mO h h35 := (Oh30).tr f33
                have Vh35 : rV n ((pPro t n (pFac t n o (sub t n))) (pA t n qL)).2 := (Vh30).fn (pG_pro (pG_fac (hs t n)))
                refine zwif_ne (q := 52) (nx := 50) (by decide +kernel) (fun c36 => ?_) (fun c36 => ?_)
                · refine zwW_p [(1, 0, 2), (1, 2, 0), (0, 0, 0)] (q := 55) (ls' := [(2, 37), (0, a), (0, v28)]) (st' := [(0, 0), (0, v28), (2, 37)]) (by decide +kernel) rfl ?_
                  refine zwW_cm Ih35 (op := 60) (k' := 270) (n := 2) (kd := 13) (m := 97) (nx := 58) (r := 37) (tl := [(0, v28), (0, 0)]) (st' := []) (by decide +kernel) rfl (by decide +kernel) (Nat.ble_eq_true_of_le (by omega)) (m270 h35 Ih35 v28 0 (by omega) (by omega) (by have z := (Oh35).1; omega) ((Vh35).mlt Bh35 (S44.qq (by omega)))) ?_
                  rintro x h40 ⟨Ih40, Qh40, rfl, f37, f38, f39⟩
                  have Rh40 : zMR msP h h40 := Rh35.tr Qh40 (by decide +kernel)
                  have Bh40 : vB t n h40 := Bh35.fr Qh40 (by decide +kernel)
                  have RQh40 : mQ t n w0 h40 (pW (-v28) ((pPro t n (pFac t n o (sub t n)) (pA t n qL)).2)) := ((S44.qq (by omega))).put Qh40 (by decide +kernel) f37 f38 (eEn_o (by omega)) (Or.inr (Or.inr (by omega)))
                  have Eh40 : fld h40 37 44 = -1 := (Qh40.f (a1 := 37) (a2 := 37) (j1 := 44) (j2 := 45) (by decide +kernel) (by first | decide | exact ⟨by decide, by decide⟩) (by first | decide | exact ⟨by decide, by decide⟩)).trans (S44.e (by omega))
                  have Oh40 : mO h h40 := (Oh35).tr (mO.put Qh40 (by decide +kernel) f39)
                  have A55 : fld h40 37 42 = ((((pPro t n (pFac t n o (sub t n))) (pA t n qL)).2.1 : Nat) : Int) := (RQh40).1.1
                  have B55 := (Bh40).1
                  have H55 := HM.2.2
                  have LB : vL t n w0 h40 (pLp t n 43 45 (pPro t n (pFac t n o (sub t n)))) (pSm0 t n (pFac t n o (sub t n)) s) := mL_n (RQh40) ((Vh35).pw) (Eh40) HM.2.1 (by rw [TL]; exact pLp_n (k := kL - 1) HM.1 HK (S44.b1 (by omega)) P37)
                  refine zwW_p [(15, 0, 0), (24, 10, 0)] (q := 10) (ls' := [(2, 37), (0, a), (0, v28)]) (st' := []) (by decide +kernel) rfl ?_
                  exact IHL7 (fld h40 37 41 - fld h40 37 42).toNat (by omega) (0, v28) h40 rfl (Bh40) (Oh40) (LB) Ih40 Rh40
                · refine zwW_p [(0, 0, 0)] (q := 51) (ls' := [(2, 37), (0, a), (0, v28)]) (st' := [(0, 0)]) (by decide +kernel) rfl ?_
                  refine zwW_ret (nx := 52) (a := 1) (b := 0) (by decide +kernel) rfl (Or.inr (Or.inl ⟨rfl, Or.inl rfl⟩)) ?_
                  refine ⟨Ih35, Rh35, by omega, Oh35, ?_⟩
                  show vR t n w0 h35 0 (pSm0 t n (pFac t n o (sub t n)) s)
                  first
                  | (unfold pSm0; rw [if_neg (S2.b0 (by omega))]; exact S2.z (by omega))
                  | (rw [TL, pLp_z (Or.inr (by omega))]; exact mR_t QL EL)
                  | (rw [TL, pLp_f (k := kL - 1) HM.1 HK (S44.b0 (by omega))]; exact mR_f (S44.fl (by omega)).2)
                  | (exfalso; omega)
            · refine zwif_eq (q := 62) (nx := 28) (by decide +kernel) (fun c41 => ?_) (fun c41 => ?_)
              · refine zwW_p [(0, 1, 0)] (q := 63) (ls' := [(2, 37), (0, a), w2L7]) (st' := [(0, 1)]) (by decide +kernel) rfl ?_
                refine zwW_ret (nx := 64) (a := 1) (b := 0) (by decide +kernel) rfl (Or.inr (Or.inl ⟨rfl, Or.inr rfl⟩)) ?_
                refine ⟨IhL7, RhL7, by omega, iL7_1, ?_⟩
                show vR t n w0 hL7 1 (pSm0 t n (pFac t n o (sub t n)) s)
                first
                | (unfold pSm0; rw [if_neg (S2.b0 (by omega))]; exact S2.z (by omega))
                | (rw [TL, pLp_z (Or.inr (by omega))]; exact mR_t QL EL)
                | (rw [TL, pLp_f (k := kL - 1) HM.1 HK (S44.b0 (by omega))]; exact mR_f (S44.fl (by omega)).2)
                | (exfalso; omega)
              · exfalso; omega
    exact L7 _ (9, 0) h5 rfl (Bh5) (Oh5) (mL_0 S2 (by omega) (Wh5) B2) Ih5 Rh5
  · refine zwW_p [(0, 0, 0)] (q := 9) (ls' := [(2, 37), (0, a), (9, 0)]) (st' := [(0, 0)]) (by decide +kernel) rfl ?_
    refine zwW_ret (nx := 10) (a := 1) (b := 0) (by decide +kernel) rfl (Or.inr (Or.inl ⟨rfl, Or.inl rfl⟩)) ?_
    refine ⟨Ih5, Rh5, by omega, Oh5, ?_⟩
    show vR t n w0 h5 0 (pSm0 t n (pFac t n o (sub t n)) s)
    first
    | (unfold pSm0; rw [if_neg (S2.b0 (by omega))]; exact S2.z (by omega))
    | (rw [TL, pLp_z (Or.inr (by omega))]; exact mR_t QL EL)
    | (rw [TL, pLp_f (k := kL - 1) HM.1 HK (S44.b0 (by omega))]; exact mR_f (S44.fl (by omega)).2)
    | (exfalso; omega)
-- WheelLandModel.test(I)Z
theorem m286_q {sc : List Int} (a : Int) (D0 : Nat) (pa : 0 ≤ a ∧ a ≤ 8) (o : Bool) (sub : pT → Nat → pQ → pR) (ho : (a < 8 ∧ o = true) ∨ (8 ≤ a ∧ o = false)) (hs : ∀ (t : pT) (n : Nat), pG n (sub t n)) (HS : a < 8 → mX sc D0 248 (a + 1) sub) (hol eit : pT → Nat → pQ → pR) (hh : ∀ (t : pT) (n : Nat), pG n (hol t n)) (he : ∀ (t : pT) (n : Nat), pG n (eit t n)) (HT : a < 8 → mX sc D0 286 (a + 1) hol) (HE : a < 8 → mX sc D0 249 (a + 1) eit) : mX sc (D0 + 23) 286 a (fun t n => pHol t n o (hol t n) (eit t n) (pSm0 t n (pFac t n o (sub t n)))) := by
  intro h I t n w0 s B Q0 W0 pc pf
  have bc := I.b (a1 := 37) (a2 := 37) (j1 := 47) (j2 := 48) (lo := -1) (hi := 4) (by decide +kernel) (r := 37) (j := 47) (by decide) (by decide) (by decide) (by decide)
  have B2 := B.2.1
  have O0 : mO h h := mO.rf
  refine zwC_of (D := D0 + 22) 3 (by decide +kernel) rfl (ls := [(2, 37), (0, a), (9, 0)]) rfl ?_
  have R : zMR msP h h := zMR.rf _ _
  refine zwW_p [(1, 0, 2), (0, -30, 2)] (q := 4) (ls' := [(2, 37), (0, a), (9, 0)]) (st' := [(2, -30), (2, 37)]) (by decide +kernel) rfl ?_
  refine zwW_cm I (op := 60) (k' := 246) (n := 1) (kd := 13) (m := 97) (nx := 7) (r := 37) (tl := [(2, -30)]) (st' := []) (by decide +kernel) rfl (by decide +kernel) (Nat.ble_eq_true_of_le (by omega)) (m246_p h I (-30) t n (s).1 (by first | omega | exact ⟨by omega, by omega⟩) B (Q0).1) ?_
  rintro x _ ⟨rfl, ⟨rfl, c1⟩ | ⟨rfl, c1⟩⟩
  · have CN := c1
    rw [show ((mWi (-30) : Nat) : Int) = 20 by decide] at CN
    refine zwif_eq (q := 54) (nx := 10) (by decide +kernel) (fun c2 => ?_) (fun c2 => ?_)
    · exfalso; omega
    · refine zwW_p [(1, 0, 2), (1, 1, 0), (0, 8, 0)] (q := 14) (ls' := [(2, 37), (0, a), (9, 0)]) (st' := [(0, 8), (0, a), (2, 37)]) (by decide +kernel) rfl ?_
      refine zwic_ge (q := 21) (nx := 17) (by decide +kernel) (fun c3 => ?_) (fun c3 => ?_)
      · refine zwW_p [(0, 0, 0)] (q := 22) (ls' := [(2, 37), (0, a), (9, 0)]) (st' := [(0, 0), (2, 37)]) (by decide +kernel) rfl ?_
        refine zwW_cm I (op := 60) (k' := 247) (n := 1) (kd := 13) (m := 97) (nx := 25) (r := 37) (tl := [(0, 0)]) (st' := []) (by decide +kernel) rfl (by decide +kernel) (Nat.ble_eq_true_of_le (by omega)) (m247_p h I 0 t n (s).1 B (Q0).1 (pf)) ?_
        rintro x h4 ⟨Ih4, Qh4, ⟨rfl, f5, f6, f7⟩ | ⟨rfl, f8, f9⟩⟩
        · exfalso; omega
        · have Rh4 : zMR msP h h4 := R.tr Qh4 (by decide +kernel)
          have Bh4 : vB t n h4 := B.fr Qh4 (by decide +kernel)
          have Oh4 : mO h h4 := (O0).tr (mO.fr Qh4 (by decide +kernel)).1
          refine zwif_eq (q := 52) (nx := 28) (by decide +kernel) (fun c10 => ?_) (fun c10 => ?_)
          · refine zwW_p [(0, 0, 0)] (q := 53) (ls' := [(2, 37), (0, a), (9, 0)]) (st' := [(0, 0)]) (by decide +kernel) rfl ?_
            refine zwW_ret (nx := 54) (a := 1) (b := 0) (by decide +kernel) rfl (Or.inr (Or.inl ⟨rfl, Or.inl rfl⟩)) ?_
            refine ⟨Ih4, Rh4, by omega, Oh4, ?_⟩
            show vR t n w0 h4 0 (pHol t n o (hol t n) (eit t n) (pSm0 t n (pFac t n o (sub t n))) s)
            first
            | (rw [pHol_n1 CN.1 CN.2 (ho.resolve_right (fun z => by omega)).2 (S32.b1 (by omega))]; exact mR_t (Q0) (pf))
            | (rw [pHol_n0 CN.1 CN.2 (ho.resolve_right (fun z => by omega)).2 (S32.b0 (by omega))]; exact S32.z (by omega))
            | (rw [pHol_nd CN.1 CN.2 (fun z1 => by have y := ho.resolve_left (fun y => by omega); rw [z1] at y; cases y.2)]; exact mR_f f9)
            | (rw [pHol_b1 CP (ho.resolve_right (fun z => by omega)).2 (S85.b1 (by omega)) c1]; exact mR_t (Q0) (pf))
            | (rw [pHol_bn CP (ho.resolve_right (fun z => by omega)).2 (S85.b1 (by omega)) c1]; exact mR_f f9)
            | (rw [pHol_b0 CP (ho.resolve_right (fun z => by omega)).2 (S85.b0 (by omega))]; exact S85.z (by omega))
            | (rw [pHol_bd CP (fun z1 => by have y := ho.resolve_left (fun y => by omega); rw [z1] at y; cases y.2)]; exact mR_f f9)
            | (rw [pHol_s0 CN CP0 (S112.b0 (by omega))]; exact S112.z (by omega))
            | (rw [pHol_sn CN CP0 (S112.b1 (by omega)) (by omega)]; exact mR_f f9)
            | (rw [pHol_s1 CN CP0 (S112.b1 (by omega)) HK (S168.b1 (by omega)), ← P161]; exact mR_t (Q0) (pf))
            | (rw [pHol_s2 CN CP0 (S112.b1 (by omega)) HK (S168.b0 (by omega))]; exact S168.z (by omega))
            | (exfalso; omega)
          · exfalso; omega
      · refine zwW_p [(0, 1, 0), (24, 22, 0)] (q := 22) (ls' := [(2, 37), (0, a), (9, 0)]) (st' := [(0, 1), (2, 37)]) (by decide +kernel) rfl ?_
        refine zwW_cm I (op := 60) (k' := 247) (n := 1) (kd := 13) (m := 97) (nx := 25) (r := 37) (tl := [(0, 1)]) (st' := []) (by decide +kernel) rfl (by decide +kernel) (Nat.ble_eq_true_of_le (by omega)) (m247_p h I 1 t n (s).1 B (Q0).1 (pf)) ?_
        rintro x h11 ⟨Ih11, Qh11, ⟨rfl, f12, f13, f14⟩ | ⟨rfl, f15, f16⟩⟩
        · have Rh11 : zMR msP h h11 := R.tr Qh11 (by decide +kernel)
          have Bh11 : vB t n h11 := B.fr Qh11 (by decide +kernel)
          have RQh11 : mQ t n w0 h11 (pA t n s) := (Q0).tk Qh11 (by decide +kernel) ⟨by have z := (O0).1; omega, by have z := (O0).1; omega⟩ f13
          have Vh11 : rV n (pA t n s) := (W0).a (by omega)
          have Oh11 : mO h h11 := (O0).tr (mO.fr Qh11 (by decide +kernel)).1
          refine zwif_eq (q := 52) (nx := 28) (by decide +kernel) (fun c17 => ?_) (fun c17 => ?_)
          · exfalso; omega
          · refine zwW_p [(1, 0, 2), (1, 1, 0), (0, 1, 0)] (q := 31) (ls' := [(2, 37), (0, a), (9, 0)]) (st' := [(0, 1), (0, a), (2, 37)]) (by decide +kernel) rfl ?_
            refine zwW_add (nx := 32) (by decide +kernel) (by first | omega | exact ⟨by omega, by omega⟩) ?_
            refine zwW_cm Ih11 (op := 60) (k' := 286) (n := 1) (kd := 13) (m := 97) (nx := 35) (r := 37) (tl := [(0, (a + 1))]) (st' := []) (by decide +kernel) rfl (by decide +kernel) (Nat.ble_eq_true_of_le (by omega)) (HT (by omega) h11 Ih11 t n w0 (pA t n s) Bh11 (RQh11) (Vh11.wk) (by have z := (Oh11).1; omega) (f14)) ?_
            rintro v18 h22 ⟨Ih22, Qh22, f19, f20, f21⟩
            have Rh22 : zMR msP h h22 := Rh11.tr Qh22 (by decide +kernel)
            have Bh22 : vB t n h22 := Bh11.fr Qh22 (by decide +kernel)
            have S32 : vR t n w0 h22 _ ((hol t n) (pA t n s)) := f21
            have Oh22 : mO h h22 := (Oh11).tr f20
            have Vh22 : rV n ((hol t n) (pA t n s)).2 := (Vh11).fn (hh t n)
            refine zwif_eq (q := 52) (nx := 38) (by decide +kernel) (fun c23 => ?_) (fun c23 => ?_)
            · refine zwW_p [(0, 0, 0)] (q := 53) (ls' := [(2, 37), (0, a), (9, 0)]) (st' := [(0, 0)]) (by decide +kernel) rfl ?_
              refine zwW_ret (nx := 54) (a := 1) (b := 0) (by decide +kernel) rfl (Or.inr (Or.inl ⟨rfl, Or.inl rfl⟩)) ?_
              refine ⟨Ih22, Rh22, by omega, Oh22, ?_⟩
              show vR t n w0 h22 0 (pHol t n o (hol t n) (eit t n) (pSm0 t n (pFac t n o (sub t n))) s)
              first
              | (rw [pHol_n1 CN.1 CN.2 (ho.resolve_right (fun z => by omega)).2 (S32.b1 (by omega))]; exact mR_t ((S32.qq (by omega))) ((S32.e (by omega))))
              | (rw [pHol_n0 CN.1 CN.2 (ho.resolve_right (fun z => by omega)).2 (S32.b0 (by omega))]; exact S32.z (by omega))
              | (rw [pHol_nd CN.1 CN.2 (fun z1 => by have y := ho.resolve_left (fun y => by omega); rw [z1] at y; cases y.2)]; exact mR_f rfl)
              | (rw [pHol_b1 CP (ho.resolve_right (fun z => by omega)).2 (S85.b1 (by omega)) c1]; exact mR_t ((S32.qq (by omega))) ((S32.e (by omega))))
              | (rw [pHol_bn CP (ho.resolve_right (fun z => by omega)).2 (S85.b1 (by omega)) c1]; exact mR_f rfl)
              | (rw [pHol_b0 CP (ho.resolve_right (fun z => by omega)).2 (S85.b0 (by omega))]; exact S85.z (by omega))
              | (rw [pHol_bd CP (fun z1 => by have y := ho.resolve_left (fun y => by omega); rw [z1] at y; cases y.2)]; exact mR_f rfl)
              | (rw [pHol_s0 CN CP0 (S112.b0 (by omega))]; exact S112.z (by omega))
              | (rw [pHol_sn CN CP0 (S112.b1 (by omega)) (by omega)]; exact mR_f rfl)
              | (rw [pHol_s1 CN CP0 (S112.b1 (by omega)) HK (S168.b1 (by omega)), ← P161]; exact mR_t ((S32.qq (by omega))) ((S32.e (by omega))))
              | (rw [pHol_s2 CN CP0 (S112.b1 (by omega)) HK (S168.b0 (by omega))]; exact S168.z (by omega))
              | (exfalso; omega)
            · refine zwW_p [(1, 0, 2), (0, 33, 0), (0, 0, 0)] (q := 42) (ls' := [(2, 37), (0, a), (9, 0)]) (st' := [(0, 0), (0, 33), (2, 37)]) (by decide +kernel) rfl ?_
              refine zwW_cm Ih22 (op := 60) (k' := 270) (n := 2) (kd := 13) (m := 97) (nx := 45) (r := 37) (tl := [(0, 33), (0, 0)]) (st' := []) (by decide +kernel) rfl (by decide +kernel) (Nat.ble_eq_true_of_le (by omega)) (m270 h22 Ih22 33 0 (by omega) (by omega) (by have z := (Oh22).1; omega) ((Vh22).mlt Bh22 (S32.qq (by omega)))) ?_
              rintro x h27 ⟨Ih27, Qh27, rfl, f24, f25, f26⟩
              have Rh27 : zMR msP h h27 := Rh22.tr Qh27 (by decide +kernel)
              have Bh27 : vB t n h27 := Bh22.fr Qh27 (by decide +kernel)
              have RQh27 : mQ t n w0 h27 (pW (-20) ((hol t n (pA t n s)).2)) := ((S32.qq (by omega))).put Qh27 (by decide +kernel) f24 f25 (eEn_x.1) (Or.inr (Or.inr (by omega)))
              have Eh27 : fld h27 37 44 = -1 := (Qh27.f (a1 := 37) (a2 := 37) (j1 := 44) (j2 := 45) (by decide +kernel) (by first | decide | exact ⟨by decide, by decide⟩) (by first | decide | exact ⟨by decide, by decide⟩)).trans (S32.e (by omega))
              have Oh27 : mO h h27 := (Oh22).tr (mO.put Qh27 (by decide +kernel) f26)
              refine zwif_eq (q := 52) (nx := 48) (by decide +kernel) (fun c28 => ?_) (fun c28 => ?_)
              · exfalso; omega
              · refine zwW_p [(0, 1, 0), (24, 53, 0)] (q := 53) (ls' := [(2, 37), (0, a), (9, 0)]) (st' := [(0, 1)]) (by decide +kernel) rfl ?_
                refine zwW_ret (nx := 54) (a := 1) (b := 0) (by decide +kernel) rfl (Or.inr (Or.inl ⟨rfl, Or.inr rfl⟩)) ?_
                refine ⟨Ih27, Rh27, by omega, Oh27, ?_⟩
                show vR t n w0 h27 1 (pHol t n o (hol t n) (eit t n) (pSm0 t n (pFac t n o (sub t n))) s)
                first
                | (rw [pHol_n1 CN.1 CN.2 (ho.resolve_right (fun z => by omega)).2 (S32.b1 (by omega))]; exact mR_t (RQh27) (Eh27))
                | (rw [pHol_n0 CN.1 CN.2 (ho.resolve_right (fun z => by omega)).2 (S32.b0 (by omega))]; exact S32.z (by omega))
                | (rw [pHol_nd CN.1 CN.2 (fun z1 => by have y := ho.resolve_left (fun y => by omega); rw [z1] at y; cases y.2)]; exact mR_f rfl)
                | (rw [pHol_b1 CP (ho.resolve_right (fun z => by omega)).2 (S85.b1 (by omega)) c1]; exact mR_t (RQh27) (Eh27))
                | (rw [pHol_bn CP (ho.resolve_right (fun z => by omega)).2 (S85.b1 (by omega)) c1]; exact mR_f rfl)
                | (rw [pHol_b0 CP (ho.resolve_right (fun z => by omega)).2 (S85.b0 (by omega))]; exact S85.z (by omega))
                | (rw [pHol_bd CP (fun z1 => by have y := ho.resolve_left (fun y => by omega); rw [z1] at y; cases y.2)]; exact mR_f rfl)
                | (rw [pHol_s0 CN CP0 (S112.b0 (by omega))]; exact S112.z (by omega))
                | (rw [pHol_sn CN CP0 (S112.b1 (by omega)) (by omega)]; exact mR_f rfl)
                | (rw [pHol_s1 CN CP0 (S112.b1 (by omega)) HK (S168.b1 (by omega)), ← P161]; exact mR_t (RQh27) (Eh27))
                | (rw [pHol_s2 CN CP0 (S112.b1 (by omega)) HK (S168.b0 (by omega))]; exact S168.z (by omega))
                | (exfalso; omega)
        · exfalso; omega
  · have CN := c1
    rw [show ((mWi (-30) : Nat) : Int) = 20 by decide] at CN
    refine zwif_eq (q := 54) (nx := 10) (by decide +kernel) (fun c29 => ?_) (fun c29 => ?_)
    · refine zwW_p [(1, 0, 2), (0, 91, 0)] (q := 57) (ls' := [(2, 37), (0, a), (9, 0)]) (st' := [(0, 91), (2, 37)]) (by decide +kernel) rfl ?_
      refine zwW_cm I (op := 60) (k' := 250) (n := 1) (kd := 13) (m := 97) (nx := 60) (r := 37) (tl := [(0, 91)]) (st' := []) (by decide +kernel) rfl (by decide +kernel) (Nat.ble_eq_true_of_le (by omega)) (m250_p h I 91 t n (s).1 B (Q0).1 rfl) ?_
      rintro x _ ⟨rfl, ⟨rfl, c30⟩ | ⟨rfl, c30⟩⟩
      · refine zwif_eq (q := 110) (nx := 63) (by decide +kernel) (fun c31 => ?_) (fun c31 => ?_)
        · exfalso; omega
        · have CP := c30
          refine zwW_p [(1, 0, 2), (1, 1, 0), (0, 8, 0)] (q := 67) (ls' := [(2, 37), (0, a), (9, 0)]) (st' := [(0, 8), (0, a), (2, 37)]) (by decide +kernel) rfl ?_
          refine zwic_ge (q := 74) (nx := 70) (by decide +kernel) (fun c32 => ?_) (fun c32 => ?_)
          · refine zwW_p [(0, 0, 0)] (q := 75) (ls' := [(2, 37), (0, a), (9, 0)]) (st' := [(0, 0), (2, 37)]) (by decide +kernel) rfl ?_
            refine zwW_cm I (op := 60) (k' := 247) (n := 1) (kd := 13) (m := 97) (nx := 78) (r := 37) (tl := [(0, 0)]) (st' := []) (by decide +kernel) rfl (by decide +kernel) (Nat.ble_eq_true_of_le (by omega)) (m247_p h I 0 t n (s).1 B (Q0).1 (pf)) ?_
            rintro x h33 ⟨Ih33, Qh33, ⟨rfl, f34, f35, f36⟩ | ⟨rfl, f37, f38⟩⟩
            · exfalso; omega
            · have Rh33 : zMR msP h h33 := R.tr Qh33 (by decide +kernel)
              have Bh33 : vB t n h33 := B.fr Qh33 (by decide +kernel)
              have Oh33 : mO h h33 := (O0).tr (mO.fr Qh33 (by decide +kernel)).1
              refine zwif_eq (q := 108) (nx := 81) (by decide +kernel) (fun c39 => ?_) (fun c39 => ?_)
              · refine zwW_p [(0, 0, 0)] (q := 109) (ls' := [(2, 37), (0, a), (9, 0)]) (st' := [(0, 0)]) (by decide +kernel) rfl ?_
                refine zwW_ret (nx := 110) (a := 1) (b := 0) (by decide +kernel) rfl (Or.inr (Or.inl ⟨rfl, Or.inl rfl⟩)) ?_
                refine ⟨Ih33, Rh33, by omega, Oh33, ?_⟩
                show vR t n w0 h33 0 (pHol t n o (hol t n) (eit t n) (pSm0 t n (pFac t n o (sub t n))) s)
                first
                | (rw [pHol_n1 CN.1 CN.2 (ho.resolve_right (fun z => by omega)).2 (S32.b1 (by omega))]; exact mR_t (Q0) (pf))
                | (rw [pHol_n0 CN.1 CN.2 (ho.resolve_right (fun z => by omega)).2 (S32.b0 (by omega))]; exact S32.z (by omega))
                | (rw [pHol_nd CN.1 CN.2 (fun z1 => by have y := ho.resolve_left (fun y => by omega); rw [z1] at y; cases y.2)]; exact mR_f f38)
                | (rw [pHol_b1 CP (ho.resolve_right (fun z => by omega)).2 (S85.b1 (by omega)) c30]; exact mR_t (Q0) (pf))
                | (rw [pHol_bn CP (ho.resolve_right (fun z => by omega)).2 (S85.b1 (by omega)) c30]; exact mR_f f38)
                | (rw [pHol_b0 CP (ho.resolve_right (fun z => by omega)).2 (S85.b0 (by omega))]; exact S85.z (by omega))
                | (rw [pHol_bd CP (fun z1 => by have y := ho.resolve_left (fun y => by omega); rw [z1] at y; cases y.2)]; exact mR_f f38)
                | (rw [pHol_s0 CN CP0 (S112.b0 (by omega))]; exact S112.z (by omega))
                | (rw [pHol_sn CN CP0 (S112.b1 (by omega)) (by omega)]; exact mR_f f38)
                | (rw [pHol_s1 CN CP0 (S112.b1 (by omega)) HK (S168.b1 (by omega)), ← P161]; exact mR_t (Q0) (pf))
                | (rw [pHol_s2 CN CP0 (S112.b1 (by omega)) HK (S168.b0 (by omega))]; exact S168.z (by omega))
                | (exfalso; omega)
              · exfalso; omega
          · refine zwW_p [(0, 1, 0), (24, 75, 0)] (q := 75) (ls' := [(2, 37), (0, a), (9, 0)]) (st' := [(0, 1), (2, 37)]) (by decide +kernel) rfl ?_
            refine zwW_cm I (op := 60) (k' := 247) (n := 1) (kd := 13) (m := 97) (nx := 78) (r := 37) (tl := [(0, 1)]) (st' := []) (by decide +kernel) rfl (by decide +kernel) (Nat.ble_eq_true_of_le (by omega)) (m247_p h I 1 t n (s).1 B (Q0).1 (pf)) ?_
            rintro x h40 ⟨Ih40, Qh40, ⟨rfl, f41, f42, f43⟩ | ⟨rfl, f44, f45⟩⟩
            · have Rh40 : zMR msP h h40 := R.tr Qh40 (by decide +kernel)
              have Bh40 : vB t n h40 := B.fr Qh40 (by decide +kernel)
              have RQh40 : mQ t n w0 h40 (pA t n s) := (Q0).tk Qh40 (by decide +kernel) ⟨by have z := (O0).1; omega, by have z := (O0).1; omega⟩ f42
              have Vh40 : rV n (pA t n s) := (W0).a (by omega)
              have Oh40 : mO h h40 := (O0).tr (mO.fr Qh40 (by decide +kernel)).1
              refine zwif_eq (q := 108) (nx := 81) (by decide +kernel) (fun c46 => ?_) (fun c46 => ?_)
              · exfalso; omega
              · refine zwW_p [(1, 0, 2), (1, 1, 0), (0, 1, 0)] (q := 84) (ls' := [(2, 37), (0, a), (9, 0)]) (st' := [(0, 1), (0, a), (2, 37)]) (by decide +kernel) rfl ?_
                refine zwW_add (nx := 85) (by decide +kernel) (by first | omega | exact ⟨by omega, by omega⟩) ?_
                refine zwW_cm Ih40 (op := 60) (k' := 249) (n := 1) (kd := 13) (m := 97) (nx := 88) (r := 37) (tl := [(0, (a + 1))]) (st' := []) (by decide +kernel) rfl (by decide +kernel) (Nat.ble_eq_true_of_le (by omega)) (HE (by omega) h40 Ih40 t n w0 (pA t n s) Bh40 (RQh40) (Vh40.wk) (by have z := (Oh40).1; omega) (f43)) ?_
                rintro v47 h51 ⟨Ih51, Qh51, f48, f49, f50⟩
                have Rh51 : zMR msP h h51 := Rh40.tr Qh51 (by decide +kernel)
                have Bh51 : vB t n h51 := Bh40.fr Qh51 (by decide +kernel)
                have S85 : vR t n w0 h51 _ ((eit t n) (pA t n s)) := f50
                have Oh51 : mO h h51 := (Oh40).tr f49
                have Vh51 : rV n ((eit t n) (pA t n s)).2 := (Vh40).fn (he t n)
                refine zwif_eq (q := 108) (nx := 91) (by decide +kernel) (fun c52 => ?_) (fun c52 => ?_)
                · refine zwW_p [(0, 0, 0)] (q := 109) (ls' := [(2, 37), (0, a), (9, 0)]) (st' := [(0, 0)]) (by decide +kernel) rfl ?_
                  refine zwW_ret (nx := 110) (a := 1) (b := 0) (by decide +kernel) rfl (Or.inr (Or.inl ⟨rfl, Or.inl rfl⟩)) ?_
                  refine ⟨Ih51, Rh51, by omega, Oh51, ?_⟩
                  show vR t n w0 h51 0 (pHol t n o (hol t n) (eit t n) (pSm0 t n (pFac t n o (sub t n))) s)
                  first
                  | (rw [pHol_n1 CN.1 CN.2 (ho.resolve_right (fun z => by omega)).2 (S32.b1 (by omega))]; exact mR_t ((S85.qq (by omega))) ((S85.e (by omega))))
                  | (rw [pHol_n0 CN.1 CN.2 (ho.resolve_right (fun z => by omega)).2 (S32.b0 (by omega))]; exact S32.z (by omega))
                  | (rw [pHol_nd CN.1 CN.2 (fun z1 => by have y := ho.resolve_left (fun y => by omega); rw [z1] at y; cases y.2)]; exact mR_f rfl)
                  | (rw [pHol_b1 CP (ho.resolve_right (fun z => by omega)).2 (S85.b1 (by omega)) c30]; exact mR_t ((S85.qq (by omega))) ((S85.e (by omega))))
                  | (rw [pHol_bn CP (ho.resolve_right (fun z => by omega)).2 (S85.b1 (by omega)) c30]; exact mR_f rfl)
                  | (rw [pHol_b0 CP (ho.resolve_right (fun z => by omega)).2 (S85.b0 (by omega))]; exact S85.z (by omega))
                  | (rw [pHol_bd CP (fun z1 => by have y := ho.resolve_left (fun y => by omega); rw [z1] at y; cases y.2)]; exact mR_f rfl)
                  | (rw [pHol_s0 CN CP0 (S112.b0 (by omega))]; exact S112.z (by omega))
                  | (rw [pHol_sn CN CP0 (S112.b1 (by omega)) (by omega)]; exact mR_f rfl)
                  | (rw [pHol_s1 CN CP0 (S112.b1 (by omega)) HK (S168.b1 (by omega)), ← P161]; exact mR_t ((S85.qq (by omega))) ((S85.e (by omega))))
                  | (rw [pHol_s2 CN CP0 (S112.b1 (by omega)) HK (S168.b0 (by omega))]; exact S168.z (by omega))
                  | (exfalso; omega)
                · refine zwW_p [(1, 0, 2), (1, 0, 2), (0, 93, 0)] (q := 95) (ls' := [(2, 37), (0, a), (9, 0)]) (st' := [(0, 93), (2, 37), (2, 37)]) (by decide +kernel) rfl ?_
                  refine zwW_cm Ih51 (op := 60) (k' := 250) (n := 1) (kd := 13) (m := 97) (nx := 98) (r := 37) (tl := [(0, 93)]) (st' := [(2, 37)]) (by decide +kernel) rfl (by decide +kernel) (Nat.ble_eq_true_of_le (by omega)) (m250_p h51 Ih51 93 t n ((eit t n (pA t n s)).2).1 Bh51 ((S85.qq (by omega))).1 rfl) ?_
                  rintro x _ ⟨rfl, ⟨rfl, c53⟩ | ⟨rfl, c53⟩⟩
                  · refine zwW_cm Ih51 (op := 60) (k' := 247) (n := 1) (kd := 13) (m := 97) (nx := 101) (r := 37) (tl := [(0, 1)]) (st' := []) (by decide +kernel) rfl (by decide +kernel) (Nat.ble_eq_true_of_le (by omega)) (m247_p h51 Ih51 1 t n ((eit t n (pA t n s)).2).1 Bh51 ((S85.qq (by omega))).1 ((S85.e (by omega)))) ?_
                    rintro x h54 ⟨Ih54, Qh54, ⟨rfl, f55, f56, f57⟩ | ⟨rfl, f58, f59⟩⟩
                    · have Rh54 : zMR msP h h54 := Rh51.tr Qh54 (by decide +kernel)
                      have Bh54 : vB t n h54 := Bh51.fr Qh54 (by decide +kernel)
                      have RQh54 : mQ t n w0 h54 (pA t n ((eit t n (pA t n s)).2)) := ((S85.qq (by omega))).tk Qh54 (by decide +kernel) ⟨by have z := (Oh51).1; omega, by have z := (Oh51).1; omega⟩ f56
                      have Vh54 : rV n (pA t n ((eit t n (pA t n s)).2)) := (Vh51.wk).a (by omega)
                      have Oh54 : mO h h54 := (Oh51).tr (mO.fr Qh54 (by decide +kernel)).1
                      refine zwif_eq (q := 108) (nx := 104) (by decide +kernel) (fun c60 => ?_) (fun c60 => ?_)
                      · exfalso; omega
                      · refine zwW_p [(0, 1, 0), (24, 109, 0)] (q := 109) (ls' := [(2, 37), (0, a), (9, 0)]) (st' := [(0, 1)]) (by decide +kernel) rfl ?_
                        refine zwW_ret (nx := 110) (a := 1) (b := 0) (by decide +kernel) rfl (Or.inr (Or.inl ⟨rfl, Or.inr rfl⟩)) ?_
                        refine ⟨Ih54, Rh54, by omega, Oh54, ?_⟩
                        show vR t n w0 h54 1 (pHol t n o (hol t n) (eit t n) (pSm0 t n (pFac t n o (sub t n))) s)
                        first
                        | (rw [pHol_n1 CN.1 CN.2 (ho.resolve_right (fun z => by omega)).2 (S32.b1 (by omega))]; exact mR_t (RQh54) (f57))
                        | (rw [pHol_n0 CN.1 CN.2 (ho.resolve_right (fun z => by omega)).2 (S32.b0 (by omega))]; exact S32.z (by omega))
                        | (rw [pHol_nd CN.1 CN.2 (fun z1 => by have y := ho.resolve_left (fun y => by omega); rw [z1] at y; cases y.2)]; exact mR_f rfl)
                        | (rw [pHol_b1 CP (ho.resolve_right (fun z => by omega)).2 (S85.b1 (by omega)) c53]; exact mR_t (RQh54) (f57))
                        | (rw [pHol_bn CP (ho.resolve_right (fun z => by omega)).2 (S85.b1 (by omega)) c53]; exact mR_f rfl)
                        | (rw [pHol_b0 CP (ho.resolve_right (fun z => by omega)).2 (S85.b0 (by omega))]; exact S85.z (by omega))
                        | (rw [pHol_bd CP (fun z1 => by have y := ho.resolve_left (fun y => by omega); rw [z1] at y; cases y.2)]; exact mR_f rfl)
                        | (rw [pHol_s0 CN CP0 (S112.b0 (by omega))]; exact S112.z (by omega))
                        | (rw [pHol_sn CN CP0 (S112.b1 (by omega)) (by omega)]; exact mR_f rfl)
                        | (rw [pHol_s1 CN CP0 (S112.b1 (by omega)) HK (S168.b1 (by omega)), ← P161]; exact mR_t (RQh54) (f57))
                        | (rw [pHol_s2 CN CP0 (S112.b1 (by omega)) HK (S168.b0 (by omega))]; exact S168.z (by omega))
                        | (exfalso; omega)
                    · exfalso; omega
                  · refine zwW_cm Ih51 (op := 60) (k' := 247) (n := 1) (kd := 13) (m := 97) (nx := 101) (r := 37) (tl := [(0, 0)]) (st' := []) (by decide +kernel) rfl (by decide +kernel) (Nat.ble_eq_true_of_le (by omega)) (m247_p h51 Ih51 0 t n ((eit t n (pA t n s)).2).1 Bh51 ((S85.qq (by omega))).1 ((S85.e (by omega)))) ?_
                    rintro x h61 ⟨Ih61, Qh61, ⟨rfl, f62, f63, f64⟩ | ⟨rfl, f65, f66⟩⟩
                    · exfalso; omega
                    · have Rh61 : zMR msP h h61 := Rh51.tr Qh61 (by decide +kernel)
                      have Bh61 : vB t n h61 := Bh51.fr Qh61 (by decide +kernel)
                      have Oh61 : mO h h61 := (Oh51).tr (mO.fr Qh61 (by decide +kernel)).1
                      refine zwif_eq (q := 108) (nx := 104) (by decide +kernel) (fun c67 => ?_) (fun c67 => ?_)
                      · refine zwW_p [(0, 0, 0)] (q := 109) (ls' := [(2, 37), (0, a), (9, 0)]) (st' := [(0, 0)]) (by decide +kernel) rfl ?_
                        refine zwW_ret (nx := 110) (a := 1) (b := 0) (by decide +kernel) rfl (Or.inr (Or.inl ⟨rfl, Or.inl rfl⟩)) ?_
                        refine ⟨Ih61, Rh61, by omega, Oh61, ?_⟩
                        show vR t n w0 h61 0 (pHol t n o (hol t n) (eit t n) (pSm0 t n (pFac t n o (sub t n))) s)
                        first
                        | (rw [pHol_n1 CN.1 CN.2 (ho.resolve_right (fun z => by omega)).2 (S32.b1 (by omega))]; exact mR_t ((S85.qq (by omega))) ((S85.e (by omega))))
                        | (rw [pHol_n0 CN.1 CN.2 (ho.resolve_right (fun z => by omega)).2 (S32.b0 (by omega))]; exact S32.z (by omega))
                        | (rw [pHol_nd CN.1 CN.2 (fun z1 => by have y := ho.resolve_left (fun y => by omega); rw [z1] at y; cases y.2)]; exact mR_f f66)
                        | (rw [pHol_b1 CP (ho.resolve_right (fun z => by omega)).2 (S85.b1 (by omega)) c53]; exact mR_t ((S85.qq (by omega))) ((S85.e (by omega))))
                        | (rw [pHol_bn CP (ho.resolve_right (fun z => by omega)).2 (S85.b1 (by omega)) c53]; exact mR_f f66)
                        | (rw [pHol_b0 CP (ho.resolve_right (fun z => by omega)).2 (S85.b0 (by omega))]; exact S85.z (by omega))
                        | (rw [pHol_bd CP (fun z1 => by have y := ho.resolve_left (fun y => by omega); rw [z1] at y; cases y.2)]; exact mR_f f66)
                        | (rw [pHol_s0 CN CP0 (S112.b0 (by omega))]; exact S112.z (by omega))
                        | (rw [pHol_sn CN CP0 (S112.b1 (by omega)) (by omega)]; exact mR_f f66)
                        | (rw [pHol_s1 CN CP0 (S112.b1 (by omega)) HK (S168.b1 (by omega)), ← P161]; exact mR_t ((S85.qq (by omega))) ((S85.e (by omega))))
                        | (rw [pHol_s2 CN CP0 (S112.b1 (by omega)) HK (S168.b0 (by omega))]; exact S168.z (by omega))
                        | (exfalso; omega)
                      · exfalso; omega
            · exfalso; omega
      · refine zwif_eq (q := 110) (nx := 63) (by decide +kernel) (fun c68 => ?_) (fun c68 => ?_)
        · have CP0 := c30
          refine zwW_p [(1, 0, 2), (1, 1, 0)] (q := 112) (ls' := [(2, 37), (0, a), (9, 0)]) (st' := [(0, a), (2, 37)]) (by decide +kernel) rfl ?_
          refine zwW_cm I (op := 60) (k' := 248) (n := 1) (kd := 13) (m := 97) (nx := 115) (r := 37) (tl := [(0, a)]) (st' := []) (by decide +kernel) rfl (by decide +kernel) (Nat.ble_eq_true_of_le (by omega)) (m248_q a D0 pa o sub ho hs HS h I t n w0 s B (Q0) (W0) (by have z := (O0).1; omega) (pf)) ?_
          rintro v69 h73 ⟨Ih73, Qh73, f70, f71, f72⟩
          have Rh73 : zMR msP h h73 := R.tr Qh73 (by decide +kernel)
          have Bh73 : vB t n h73 := B.fr Qh73 (by decide +kernel)
          have S112 : vR t n w0 h73 _ ((pSm0 t n (pFac t n o (sub t n))) s) := f72
          have Oh73 : mO h h73 := (O0).tr f71
          have Wh73 : rW n ((pSm0 t n (pFac t n o (sub t n))) s).2 := (W0).fn (pG_sm0 (pG_fac (hs t n)))
          refine zwif_ne (q := 120) (nx := 118) (by decide +kernel) (fun c74 => ?_) (fun c74 => ?_)
          · refine zwW_p [(1, 0, 2), (0, 60, 0)] (q := 123) (ls' := [(2, 37), (0, a), (9, 0)]) (st' := [(0, 60), (2, 37)]) (by decide +kernel) rfl ?_
            refine zwW_cm Ih73 (op := 60) (k' := 250) (n := 1) (kd := 13) (m := 97) (nx := 126) (r := 37) (tl := [(0, 60)]) (st' := []) (by decide +kernel) rfl (by decide +kernel) (Nat.ble_eq_true_of_le (by omega)) (m250_p h73 Ih73 60 t n ((pSm0 t n (pFac t n o (sub t n)) s).2).1 Bh73 ((S112.qq (by omega))).1 rfl) ?_
            rintro x _ ⟨rfl, ⟨rfl, c75⟩ | ⟨rfl, c75⟩⟩
            · refine zwif_ne (q := 152) (nx := 129) (by decide +kernel) (fun c76 => ?_) (fun c76 => ?_)
              · have HK : pK t n (pSm0 t n (pFac t n o (sub t n)) s).2.1 = 60 ∨ pK t n (pSm0 t n (pFac t n o (sub t n)) s).2.1 = 62 ∨ pK t n (pSm0 t n (pFac t n o (sub t n)) s).2.1 = 61 := by first | exact Or.inl c75 | exact Or.inr (Or.inl c75) | exact Or.inr (Or.inr c75)
                have HZ : pK t n (pSm0 t n (pFac t n o (sub t n)) s).2.1 ≠ 0 := by omega
                have PL := pK_lt HZ
                have QT := ((S112.qq (by omega))).1.1
                refine zwW_p [(1, 0, 2)] (q := 153) (ls' := [(2, 37), (0, a), (9, 0)]) (st' := [(2, 37)]) (by decide +kernel) rfl ?_
                refine zwW_gc Ih73 (kd := 13) (bn := 40) (n := 97) (c := 98) (nx := 156) (by decide +kernel) ?_
                refine zwW_p [(1, 0, 2)] (q := 157) (ls' := [(2, 37), (0, a), (9, 0)]) (st' := [(2, 37), (2, 98)]) (by decide +kernel) rfl ?_
                refine zwW_gs Ih73 (kd := 13) (bn := 42) (n := 97) (t := 0) (lo := 0) (hi := 400) (nx := 160) (by decide +kernel) ?_
                intro v77 ev77 lv77 uv77
                have ib1 : 0 ≤ v77 ∧ v77 < ((400 : Nat) : Int) := (by first | omega | exact ⟨by omega, by omega⟩)
                refine zwW_al Ih73 (a1 := 98) (a2 := 98) (kd := 21) (n := 400) (t := 0) (lo := -128) (hi := 127) (nx := 161) (by decide +kernel) (by first | decide | exact ⟨by decide, by decide⟩) ib1 ?_
                intro v78 ev78 lv78 uv78
                have E161 : v78 = t ((pSm0 t n (pFac t n o (sub t n)) s).2.1) := by rw [ev78]; refine Eq.trans ?_ (Bh73.2.2 ((pSm0 t n (pFac t n o (sub t n)) s).2.1) (by omega)); first | rfl | (congr 1; omega)
                have P161 : v78 = pK t n (pSm0 t n (pFac t n o (sub t n)) s).2.1 := by rcases HK with z | z | z <;> (have y := (pK_sg rfl).mp z; omega)
                refine zwW_p [(2, 2, 0), (1, 0, 2)] (q := 163) (ls' := [(2, 37), (0, a), (0, v78)]) (st' := [(2, 37)]) (by decide +kernel) rfl ?_
                refine zwW_cmv Ih73 (op := 60) (k' := 268) (n := 0) (kd := 13) (m := 97) (nx := 166) (r := 37) (tl := []) (st' := []) (by decide +kernel) rfl (by decide +kernel) (Nat.ble_eq_true_of_le (by omega)) (m268_p h73 Ih73 t n ((pSm0 t n (pFac t n o (sub t n)) s).2).1 Bh73 ((S112.qq (by omega))).1) ?_
                rintro h80 ⟨Ih80, Qh80, f79⟩
                have Rh80 : zMR msP h h80 := Rh73.tr Qh80 (by decide +kernel)
                have Bh80 : vB t n h80 := Bh73.fr Qh80 (by decide +kernel)
                have RQh80 : mQ t n w0 h80 (pA t n ((pSm0 t n (pFac t n o (sub t n)) s).2)) := ((S112.qq (by omega))).tk Qh80 (by decide +kernel) ⟨by have z := (Oh73).1; omega, by have z := (Oh73).1; omega⟩ f79
                have Vh80 : rV n (pA t n ((pSm0 t n (pFac t n o (sub t n)) s).2)) := (Wh73).a (by omega)
                have Eh80 : fld h80 37 44 = -1 := (Qh80.f (a1 := 37) (a2 := 37) (j1 := 44) (j2 := 45) (by decide +kernel) (by first | decide | exact ⟨by decide, by decide⟩) (by first | decide | exact ⟨by decide, by decide⟩)).trans (S112.e (by omega))
                have Oh80 : mO h h80 := (Oh73).tr (mO.fr Qh80 (by decide +kernel)).1
                refine zwW_p [(1, 0, 2), (1, 1, 0)] (q := 168) (ls' := [(2, 37), (0, a), (0, v78)]) (st' := [(0, a), (2, 37)]) (by decide +kernel) rfl ?_
                refine zwW_cm Ih80 (op := 60) (k' := 248) (n := 1) (kd := 13) (m := 97) (nx := 171) (r := 37) (tl := [(0, a)]) (st' := []) (by decide +kernel) rfl (by decide +kernel) (Nat.ble_eq_true_of_le (by omega)) (m248_q a D0 pa o sub ho hs HS h80 Ih80 t n w0 (pA t n ((pSm0 t n (pFac t n o (sub t n)) s).2)) Bh80 (RQh80) (Vh80.wk) (by have z := (Oh80).1; omega) (Eh80)) ?_
                rintro v81 h85 ⟨Ih85, Qh85, f82, f83, f84⟩
                have Rh85 : zMR msP h h85 := Rh80.tr Qh85 (by decide +kernel)
                have Bh85 : vB t n h85 := Bh80.fr Qh85 (by decide +kernel)
                have S168 : vR t n w0 h85 _ ((pSm0 t n (pFac t n o (sub t n))) (pA t n ((pSm0 t n (pFac t n o (sub t n)) s).2))) := f84
                have Oh85 : mO h h85 := (Oh80).tr f83
                have Vh85 : rV n ((pSm0 t n (pFac t n o (sub t n))) (pA t n ((pSm0 t n (pFac t n o (sub t n)) s).2))).2 := (Vh80).fn (pG_sm0 (pG_fac (hs t n)))
                refine zwif_eq (q := 187) (nx := 174) (by decide +kernel) (fun c86 => ?_) (fun c86 => ?_)
                · refine zwW_p [(0, 0, 0)] (q := 188) (ls' := [(2, 37), (0, a), (0, v78)]) (st' := [(0, 0)]) (by decide +kernel) rfl ?_
                  refine zwW_ret (nx := 189) (a := 1) (b := 0) (by decide +kernel) rfl (Or.inr (Or.inl ⟨rfl, Or.inl rfl⟩)) ?_
                  refine ⟨Ih85, Rh85, by omega, Oh85, ?_⟩
                  show vR t n w0 h85 0 (pHol t n o (hol t n) (eit t n) (pSm0 t n (pFac t n o (sub t n))) s)
                  first
                  | (rw [pHol_n1 CN.1 CN.2 (ho.resolve_right (fun z => by omega)).2 (S32.b1 (by omega))]; exact mR_t ((S168.qq (by omega))) ((S168.e (by omega))))
                  | (rw [pHol_n0 CN.1 CN.2 (ho.resolve_right (fun z => by omega)).2 (S32.b0 (by omega))]; exact S32.z (by omega))
                  | (rw [pHol_nd CN.1 CN.2 (fun z1 => by have y := ho.resolve_left (fun y => by omega); rw [z1] at y; cases y.2)]; exact mR_f rfl)
                  | (rw [pHol_b1 CP (ho.resolve_right (fun z => by omega)).2 (S85.b1 (by omega)) c75]; exact mR_t ((S168.qq (by omega))) ((S168.e (by omega))))
                  | (rw [pHol_bn CP (ho.resolve_right (fun z => by omega)).2 (S85.b1 (by omega)) c75]; exact mR_f rfl)
                  | (rw [pHol_b0 CP (ho.resolve_right (fun z => by omega)).2 (S85.b0 (by omega))]; exact S85.z (by omega))
                  | (rw [pHol_bd CP (fun z1 => by have y := ho.resolve_left (fun y => by omega); rw [z1] at y; cases y.2)]; exact mR_f rfl)
                  | (rw [pHol_s0 CN CP0 (S112.b0 (by omega))]; exact S112.z (by omega))
                  | (rw [pHol_sn CN CP0 (S112.b1 (by omega)) (by omega)]; exact mR_f rfl)
                  | (rw [pHol_s1 CN CP0 (S112.b1 (by omega)) HK (S168.b1 (by omega)), ← P161]; exact mR_t ((S168.qq (by omega))) ((S168.e (by omega))))
                  | (rw [pHol_s2 CN CP0 (S112.b1 (by omega)) HK (S168.b0 (by omega))]; exact S168.z (by omega))
                  | (exfalso; omega)
                · refine zwW_p [(1, 0, 2), (1, 2, 0), (0, 0, 0)] (q := 177) (ls' := [(2, 37), (0, a), (0, v78)]) (st' := [(0, 0), (0, v78), (2, 37)]) (by decide +kernel) rfl ?_
                  refine zwW_cm Ih85 (op := 60) (k' := 270) (n := 2) (kd := 13) (m := 97) (nx := 180) (r := 37) (tl := [(0, v78), (0, 0)]) (st' := []) (by decide +kernel) rfl (by decide +kernel) (Nat.ble_eq_true_of_le (by omega)) (m270 h85 Ih85 v78 0 (by omega) (by omega) (by have z := (Oh85).1; omega) ((Vh85).mlt Bh85 (S168.qq (by omega)))) ?_
                  rintro x h90 ⟨Ih90, Qh90, rfl, f87, f88, f89⟩
                  have Rh90 : zMR msP h h90 := Rh85.tr Qh90 (by decide +kernel)
                  have Bh90 : vB t n h90 := Bh85.fr Qh90 (by decide +kernel)
                  have RQh90 : mQ t n w0 h90 (pW (-v78) ((pSm0 t n (pFac t n o (sub t n)) (pA t n ((pSm0 t n (pFac t n o (sub t n)) s).2))).2)) := ((S168.qq (by omega))).put Qh90 (by decide +kernel) f87 f88 (eEn_o (by omega)) (Or.inr (Or.inr (by omega)))
                  have Eh90 : fld h90 37 44 = -1 := (Qh90.f (a1 := 37) (a2 := 37) (j1 := 44) (j2 := 45) (by decide +kernel) (by first | decide | exact ⟨by decide, by decide⟩) (by first | decide | exact ⟨by decide, by decide⟩)).trans (S168.e (by omega))
                  have Oh90 : mO h h90 := (Oh85).tr (mO.put Qh90 (by decide +kernel) f89)
                  refine zwif_eq (q := 187) (nx := 183) (by decide +kernel) (fun c91 => ?_) (fun c91 => ?_)
                  · exfalso; omega
                  · refine zwW_p [(0, 1, 0), (24, 188, 0)] (q := 188) (ls' := [(2, 37), (0, a), (0, v78)]) (st' := [(0, 1)]) (by decide +kernel) rfl ?_
                    refine zwW_ret (nx := 189) (a := 1) (b := 0) (by decide +kernel) rfl (Or.inr (Or.inl ⟨rfl, Or.inr rfl⟩)) ?_
                    refine ⟨Ih90, Rh90, by omega, Oh90, ?_⟩
                    show vR t n w0 h90 1 (pHol t n o (hol t n) (eit t n) (pSm0 t n (pFac t n o (sub t n))) s)
                    first
                    | (rw [pHol_n1 CN.1 CN.2 (ho.resolve_right (fun z => by omega)).2 (S32.b1 (by omega))]; exact mR_t (RQh90) (Eh90))
                    | (rw [pHol_n0 CN.1 CN.2 (ho.resolve_right (fun z => by omega)).2 (S32.b0 (by omega))]; exact S32.z (by omega))
                    | (rw [pHol_nd CN.1 CN.2 (fun z1 => by have y := ho.resolve_left (fun y => by omega); rw [z1] at y; cases y.2)]; exact mR_f rfl)
                    | (rw [pHol_b1 CP (ho.resolve_right (fun z => by omega)).2 (S85.b1 (by omega)) c75]; exact mR_t (RQh90) (Eh90))
                    | (rw [pHol_bn CP (ho.resolve_right (fun z => by omega)).2 (S85.b1 (by omega)) c75]; exact mR_f rfl)
                    | (rw [pHol_b0 CP (ho.resolve_right (fun z => by omega)).2 (S85.b0 (by omega))]; exact S85.z (by omega))
                    | (rw [pHol_bd CP (fun z1 => by have y := ho.resolve_left (fun y => by omega); rw [z1] at y; cases y.2)]; exact mR_f rfl)
                    | (rw [pHol_s0 CN CP0 (S112.b0 (by omega))]; exact S112.z (by omega))
                    | (rw [pHol_sn CN CP0 (S112.b1 (by omega)) (by omega)]; exact mR_f rfl)
                    | (rw [pHol_s1 CN CP0 (S112.b1 (by omega)) HK (S168.b1 (by omega)), ← P161]; exact mR_t (RQh90) (Eh90))
                    | (rw [pHol_s2 CN CP0 (S112.b1 (by omega)) HK (S168.b0 (by omega))]; exact S168.z (by omega))
                    | (exfalso; omega)
              · exfalso; omega
            · refine zwif_ne (q := 152) (nx := 129) (by decide +kernel) (fun c92 => ?_) (fun c92 => ?_)
              · exfalso; omega
              · refine zwW_p [(1, 0, 2), (0, 62, 0)] (q := 132) (ls' := [(2, 37), (0, a), (9, 0)]) (st' := [(0, 62), (2, 37)]) (by decide +kernel) rfl ?_
                refine zwW_cm Ih73 (op := 60) (k' := 250) (n := 1) (kd := 13) (m := 97) (nx := 135) (r := 37) (tl := [(0, 62)]) (st' := []) (by decide +kernel) rfl (by decide +kernel) (Nat.ble_eq_true_of_le (by omega)) (m250_p h73 Ih73 62 t n ((pSm0 t n (pFac t n o (sub t n)) s).2).1 Bh73 ((S112.qq (by omega))).1 rfl) ?_
                rintro x _ ⟨rfl, ⟨rfl, c93⟩ | ⟨rfl, c93⟩⟩
                · refine zwif_ne (q := 152) (nx := 138) (by decide +kernel) (fun c94 => ?_) (fun c94 => ?_)
                  · have HK : pK t n (pSm0 t n (pFac t n o (sub t n)) s).2.1 = 60 ∨ pK t n (pSm0 t n (pFac t n o (sub t n)) s).2.1 = 62 ∨ pK t n (pSm0 t n (pFac t n o (sub t n)) s).2.1 = 61 := by first | exact Or.inl c93 | exact Or.inr (Or.inl c93) | exact Or.inr (Or.inr c93)
                    have HZ : pK t n (pSm0 t n (pFac t n o (sub t n)) s).2.1 ≠ 0 := by omega
                    have PL := pK_lt HZ
                    have QT := ((S112.qq (by omega))).1.1
                    refine zwW_p [(1, 0, 2)] (q := 153) (ls' := [(2, 37), (0, a), (9, 0)]) (st' := [(2, 37)]) (by decide +kernel) rfl ?_
                    refine zwW_gc Ih73 (kd := 13) (bn := 40) (n := 97) (c := 98) (nx := 156) (by decide +kernel) ?_
                    refine zwW_p [(1, 0, 2)] (q := 157) (ls' := [(2, 37), (0, a), (9, 0)]) (st' := [(2, 37), (2, 98)]) (by decide +kernel) rfl ?_
                    refine zwW_gs Ih73 (kd := 13) (bn := 42) (n := 97) (t := 0) (lo := 0) (hi := 400) (nx := 160) (by decide +kernel) ?_
                    intro v95 ev95 lv95 uv95
                    have ib2 : 0 ≤ v95 ∧ v95 < ((400 : Nat) : Int) := (by first | omega | exact ⟨by omega, by omega⟩)
                    refine zwW_al Ih73 (a1 := 98) (a2 := 98) (kd := 21) (n := 400) (t := 0) (lo := -128) (hi := 127) (nx := 161) (by decide +kernel) (by first | decide | exact ⟨by decide, by decide⟩) ib2 ?_
                    intro v96 ev96 lv96 uv96
                    have E161 : v96 = t ((pSm0 t n (pFac t n o (sub t n)) s).2.1) := by rw [ev96]; refine Eq.trans ?_ (Bh73.2.2 ((pSm0 t n (pFac t n o (sub t n)) s).2.1) (by omega)); first | rfl | (congr 1; omega)
                    have P161 : v96 = pK t n (pSm0 t n (pFac t n o (sub t n)) s).2.1 := by rcases HK with z | z | z <;> (have y := (pK_sg rfl).mp z; omega)
                    refine zwW_p [(2, 2, 0), (1, 0, 2)] (q := 163) (ls' := [(2, 37), (0, a), (0, v96)]) (st' := [(2, 37)]) (by decide +kernel) rfl ?_
                    refine zwW_cmv Ih73 (op := 60) (k' := 268) (n := 0) (kd := 13) (m := 97) (nx := 166) (r := 37) (tl := []) (st' := []) (by decide +kernel) rfl (by decide +kernel) (Nat.ble_eq_true_of_le (by omega)) (m268_p h73 Ih73 t n ((pSm0 t n (pFac t n o (sub t n)) s).2).1 Bh73 ((S112.qq (by omega))).1) ?_
                    rintro h98 ⟨Ih98, Qh98, f97⟩
                    have Rh98 : zMR msP h h98 := Rh73.tr Qh98 (by decide +kernel)
                    have Bh98 : vB t n h98 := Bh73.fr Qh98 (by decide +kernel)
                    have RQh98 : mQ t n w0 h98 (pA t n ((pSm0 t n (pFac t n o (sub t n)) s).2)) := ((S112.qq (by omega))).tk Qh98 (by decide +kernel) ⟨by have z := (Oh73).1; omega, by have z := (Oh73).1; omega⟩ f97
                    have Vh98 : rV n (pA t n ((pSm0 t n (pFac t n o (sub t n)) s).2)) := (Wh73).a (by omega)
                    have Eh98 : fld h98 37 44 = -1 := (Qh98.f (a1 := 37) (a2 := 37) (j1 := 44) (j2 := 45) (by decide +kernel) (by first | decide | exact ⟨by decide, by decide⟩) (by first | decide | exact ⟨by decide, by decide⟩)).trans (S112.e (by omega))
                    have Oh98 : mO h h98 := (Oh73).tr (mO.fr Qh98 (by decide +kernel)).1
                    refine zwW_p [(1, 0, 2), (1, 1, 0)] (q := 168) (ls' := [(2, 37), (0, a), (0, v96)]) (st' := [(0, a), (2, 37)]) (by decide +kernel) rfl ?_
                    refine zwW_cm Ih98 (op := 60) (k' := 248) (n := 1) (kd := 13) (m := 97) (nx := 171) (r := 37) (tl := [(0, a)]) (st' := []) (by decide +kernel) rfl (by decide +kernel) (Nat.ble_eq_true_of_le (by omega)) (m248_q a D0 pa o sub ho hs HS h98 Ih98 t n w0 (pA t n ((pSm0 t n (pFac t n o (sub t n)) s).2)) Bh98 (RQh98) (Vh98.wk) (by have z := (Oh98).1; omega) (Eh98)) ?_
                    rintro v99 h103 ⟨Ih103, Qh103, f100, f101, f102⟩
                    have Rh103 : zMR msP h h103 := Rh98.tr Qh103 (by decide +kernel)
                    have Bh103 : vB t n h103 := Bh98.fr Qh103 (by decide +kernel)
                    have S168 : vR t n w0 h103 _ ((pSm0 t n (pFac t n o (sub t n))) (pA t n ((pSm0 t n (pFac t n o (sub t n)) s).2))) := f102
                    have Oh103 : mO h h103 := (Oh98).tr f101
                    have Vh103 : rV n ((pSm0 t n (pFac t n o (sub t n))) (pA t n ((pSm0 t n (pFac t n o (sub t n)) s).2))).2 := (Vh98).fn (pG_sm0 (pG_fac (hs t n)))
                    refine zwif_eq (q := 187) (nx := 174) (by decide +kernel) (fun c104 => ?_) (fun c104 => ?_)
                    · refine zwW_p [(0, 0, 0)] (q := 188) (ls' := [(2, 37), (0, a), (0, v96)]) (st' := [(0, 0)]) (by decide +kernel) rfl ?_
                      refine zwW_ret (nx := 189) (a := 1) (b := 0) (by decide +kernel) rfl (Or.inr (Or.inl ⟨rfl, Or.inl rfl⟩)) ?_
                      refine ⟨Ih103, Rh103, by omega, Oh103, ?_⟩
                      show vR t n w0 h103 0 (pHol t n o (hol t n) (eit t n) (pSm0 t n (pFac t n o (sub t n))) s)
                      first
                      | (rw [pHol_n1 CN.1 CN.2 (ho.resolve_right (fun z => by omega)).2 (S32.b1 (by omega))]; exact mR_t ((S168.qq (by omega))) ((S168.e (by omega))))
                      | (rw [pHol_n0 CN.1 CN.2 (ho.resolve_right (fun z => by omega)).2 (S32.b0 (by omega))]; exact S32.z (by omega))
                      | (rw [pHol_nd CN.1 CN.2 (fun z1 => by have y := ho.resolve_left (fun y => by omega); rw [z1] at y; cases y.2)]; exact mR_f rfl)
                      | (rw [pHol_b1 CP (ho.resolve_right (fun z => by omega)).2 (S85.b1 (by omega)) c93]; exact mR_t ((S168.qq (by omega))) ((S168.e (by omega))))
                      | (rw [pHol_bn CP (ho.resolve_right (fun z => by omega)).2 (S85.b1 (by omega)) c93]; exact mR_f rfl)
                      | (rw [pHol_b0 CP (ho.resolve_right (fun z => by omega)).2 (S85.b0 (by omega))]; exact S85.z (by omega))
                      | (rw [pHol_bd CP (fun z1 => by have y := ho.resolve_left (fun y => by omega); rw [z1] at y; cases y.2)]; exact mR_f rfl)
                      | (rw [pHol_s0 CN CP0 (S112.b0 (by omega))]; exact S112.z (by omega))
                      | (rw [pHol_sn CN CP0 (S112.b1 (by omega)) (by omega)]; exact mR_f rfl)
                      | (rw [pHol_s1 CN CP0 (S112.b1 (by omega)) HK (S168.b1 (by omega)), ← P161]; exact mR_t ((S168.qq (by omega))) ((S168.e (by omega))))
                      | (rw [pHol_s2 CN CP0 (S112.b1 (by omega)) HK (S168.b0 (by omega))]; exact S168.z (by omega))
                      | (exfalso; omega)
                    · refine zwW_p [(1, 0, 2), (1, 2, 0), (0, 0, 0)] (q := 177) (ls' := [(2, 37), (0, a), (0, v96)]) (st' := [(0, 0), (0, v96), (2, 37)]) (by decide +kernel) rfl ?_
                      refine zwW_cm Ih103 (op := 60) (k' := 270) (n := 2) (kd := 13) (m := 97) (nx := 180) (r := 37) (tl := [(0, v96), (0, 0)]) (st' := []) (by decide +kernel) rfl (by decide +kernel) (Nat.ble_eq_true_of_le (by omega)) (m270 h103 Ih103 v96 0 (by omega) (by omega) (by have z := (Oh103).1; omega) ((Vh103).mlt Bh103 (S168.qq (by omega)))) ?_
                      rintro x h108 ⟨Ih108, Qh108, rfl, f105, f106, f107⟩
                      have Rh108 : zMR msP h h108 := Rh103.tr Qh108 (by decide +kernel)
                      have Bh108 : vB t n h108 := Bh103.fr Qh108 (by decide +kernel)
                      have RQh108 : mQ t n w0 h108 (pW (-v96) ((pSm0 t n (pFac t n o (sub t n)) (pA t n ((pSm0 t n (pFac t n o (sub t n)) s).2))).2)) := ((S168.qq (by omega))).put Qh108 (by decide +kernel) f105 f106 (eEn_o (by omega)) (Or.inr (Or.inr (by omega)))
                      have Eh108 : fld h108 37 44 = -1 := (Qh108.f (a1 := 37) (a2 := 37) (j1 := 44) (j2 := 45) (by decide +kernel) (by first | decide | exact ⟨by decide, by decide⟩) (by first | decide | exact ⟨by decide, by decide⟩)).trans (S168.e (by omega))
                      have Oh108 : mO h h108 := (Oh103).tr (mO.put Qh108 (by decide +kernel) f107)
                      refine zwif_eq (q := 187) (nx := 183) (by decide +kernel) (fun c109 => ?_) (fun c109 => ?_)
                      · exfalso; omega
                      · refine zwW_p [(0, 1, 0), (24, 188, 0)] (q := 188) (ls' := [(2, 37), (0, a), (0, v96)]) (st' := [(0, 1)]) (by decide +kernel) rfl ?_
                        refine zwW_ret (nx := 189) (a := 1) (b := 0) (by decide +kernel) rfl (Or.inr (Or.inl ⟨rfl, Or.inr rfl⟩)) ?_
                        refine ⟨Ih108, Rh108, by omega, Oh108, ?_⟩
                        show vR t n w0 h108 1 (pHol t n o (hol t n) (eit t n) (pSm0 t n (pFac t n o (sub t n))) s)
                        first
                        | (rw [pHol_n1 CN.1 CN.2 (ho.resolve_right (fun z => by omega)).2 (S32.b1 (by omega))]; exact mR_t (RQh108) (Eh108))
                        | (rw [pHol_n0 CN.1 CN.2 (ho.resolve_right (fun z => by omega)).2 (S32.b0 (by omega))]; exact S32.z (by omega))
                        | (rw [pHol_nd CN.1 CN.2 (fun z1 => by have y := ho.resolve_left (fun y => by omega); rw [z1] at y; cases y.2)]; exact mR_f rfl)
                        | (rw [pHol_b1 CP (ho.resolve_right (fun z => by omega)).2 (S85.b1 (by omega)) c93]; exact mR_t (RQh108) (Eh108))
                        | (rw [pHol_bn CP (ho.resolve_right (fun z => by omega)).2 (S85.b1 (by omega)) c93]; exact mR_f rfl)
                        | (rw [pHol_b0 CP (ho.resolve_right (fun z => by omega)).2 (S85.b0 (by omega))]; exact S85.z (by omega))
                        | (rw [pHol_bd CP (fun z1 => by have y := ho.resolve_left (fun y => by omega); rw [z1] at y; cases y.2)]; exact mR_f rfl)
                        | (rw [pHol_s0 CN CP0 (S112.b0 (by omega))]; exact S112.z (by omega))
                        | (rw [pHol_sn CN CP0 (S112.b1 (by omega)) (by omega)]; exact mR_f rfl)
                        | (rw [pHol_s1 CN CP0 (S112.b1 (by omega)) HK (S168.b1 (by omega)), ← P161]; exact mR_t (RQh108) (Eh108))
                        | (rw [pHol_s2 CN CP0 (S112.b1 (by omega)) HK (S168.b0 (by omega))]; exact S168.z (by omega))
                        | (exfalso; omega)
                  · exfalso; omega
                · refine zwif_ne (q := 152) (nx := 138) (by decide +kernel) (fun c110 => ?_) (fun c110 => ?_)
                  · exfalso; omega
                  · refine zwW_p [(1, 0, 2), (0, 61, 0)] (q := 141) (ls' := [(2, 37), (0, a), (9, 0)]) (st' := [(0, 61), (2, 37)]) (by decide +kernel) rfl ?_
                    refine zwW_cm Ih73 (op := 60) (k' := 250) (n := 1) (kd := 13) (m := 97) (nx := 144) (r := 37) (tl := [(0, 61)]) (st' := []) (by decide +kernel) rfl (by decide +kernel) (Nat.ble_eq_true_of_le (by omega)) (m250_p h73 Ih73 61 t n ((pSm0 t n (pFac t n o (sub t n)) s).2).1 Bh73 ((S112.qq (by omega))).1 rfl) ?_
                    rintro x _ ⟨rfl, ⟨rfl, c111⟩ | ⟨rfl, c111⟩⟩
                    · refine zwif_ne (q := 152) (nx := 147) (by decide +kernel) (fun c112 => ?_) (fun c112 => ?_)
                      · have HK : pK t n (pSm0 t n (pFac t n o (sub t n)) s).2.1 = 60 ∨ pK t n (pSm0 t n (pFac t n o (sub t n)) s).2.1 = 62 ∨ pK t n (pSm0 t n (pFac t n o (sub t n)) s).2.1 = 61 := by first | exact Or.inl c111 | exact Or.inr (Or.inl c111) | exact Or.inr (Or.inr c111)
                        have HZ : pK t n (pSm0 t n (pFac t n o (sub t n)) s).2.1 ≠ 0 := by omega
                        have PL := pK_lt HZ
                        have QT := ((S112.qq (by omega))).1.1
                        refine zwW_p [(1, 0, 2)] (q := 153) (ls' := [(2, 37), (0, a), (9, 0)]) (st' := [(2, 37)]) (by decide +kernel) rfl ?_
                        refine zwW_gc Ih73 (kd := 13) (bn := 40) (n := 97) (c := 98) (nx := 156) (by decide +kernel) ?_
                        refine zwW_p [(1, 0, 2)] (q := 157) (ls' := [(2, 37), (0, a), (9, 0)]) (st' := [(2, 37), (2, 98)]) (by decide +kernel) rfl ?_
                        refine zwW_gs Ih73 (kd := 13) (bn := 42) (n := 97) (t := 0) (lo := 0) (hi := 400) (nx := 160) (by decide +kernel) ?_
                        intro v113 ev113 lv113 uv113
                        have ib3 : 0 ≤ v113 ∧ v113 < ((400 : Nat) : Int) := (by first | omega | exact ⟨by omega, by omega⟩)
                        refine zwW_al Ih73 (a1 := 98) (a2 := 98) (kd := 21) (n := 400) (t := 0) (lo := -128) (hi := 127) (nx := 161) (by decide +kernel) (by first | decide | exact ⟨by decide, by decide⟩) ib3 ?_
                        intro v114 ev114 lv114 uv114
                        have E161 : v114 = t ((pSm0 t n (pFac t n o (sub t n)) s).2.1) := by rw [ev114]; refine Eq.trans ?_ (Bh73.2.2 ((pSm0 t n (pFac t n o (sub t n)) s).2.1) (by omega)); first | rfl | (congr 1; omega)
                        have P161 : v114 = pK t n (pSm0 t n (pFac t n o (sub t n)) s).2.1 := by rcases HK with z | z | z <;> (have y := (pK_sg rfl).mp z; omega)
                        refine zwW_p [(2, 2, 0), (1, 0, 2)] (q := 163) (ls' := [(2, 37), (0, a), (0, v114)]) (st' := [(2, 37)]) (by decide +kernel) rfl ?_
                        refine zwW_cmv Ih73 (op := 60) (k' := 268) (n := 0) (kd := 13) (m := 97) (nx := 166) (r := 37) (tl := []) (st' := []) (by decide +kernel) rfl (by decide +kernel) (Nat.ble_eq_true_of_le (by omega)) (m268_p h73 Ih73 t n ((pSm0 t n (pFac t n o (sub t n)) s).2).1 Bh73 ((S112.qq (by omega))).1) ?_
                        rintro h116 ⟨Ih116, Qh116, f115⟩
                        have Rh116 : zMR msP h h116 := Rh73.tr Qh116 (by decide +kernel)
                        have Bh116 : vB t n h116 := Bh73.fr Qh116 (by decide +kernel)
                        have RQh116 : mQ t n w0 h116 (pA t n ((pSm0 t n (pFac t n o (sub t n)) s).2)) := ((S112.qq (by omega))).tk Qh116 (by decide +kernel) ⟨by have z := (Oh73).1; omega, by have z := (Oh73).1; omega⟩ f115
                        have Vh116 : rV n (pA t n ((pSm0 t n (pFac t n o (sub t n)) s).2)) := (Wh73).a (by omega)
                        have Eh116 : fld h116 37 44 = -1 := (Qh116.f (a1 := 37) (a2 := 37) (j1 := 44) (j2 := 45) (by decide +kernel) (by first | decide | exact ⟨by decide, by decide⟩) (by first | decide | exact ⟨by decide, by decide⟩)).trans (S112.e (by omega))
                        have Oh116 : mO h h116 := (Oh73).tr (mO.fr Qh116 (by decide +kernel)).1
                        refine zwW_p [(1, 0, 2), (1, 1, 0)] (q := 168) (ls' := [(2, 37), (0, a), (0, v114)]) (st' := [(0, a), (2, 37)]) (by decide +kernel) rfl ?_
                        refine zwW_cm Ih116 (op := 60) (k' := 248) (n := 1) (kd := 13) (m := 97) (nx := 171) (r := 37) (tl := [(0, a)]) (st' := []) (by decide +kernel) rfl (by decide +kernel) (Nat.ble_eq_true_of_le (by omega)) (m248_q a D0 pa o sub ho hs HS h116 Ih116 t n w0 (pA t n ((pSm0 t n (pFac t n o (sub t n)) s).2)) Bh116 (RQh116) (Vh116.wk) (by have z := (Oh116).1; omega) (Eh116)) ?_
                        rintro v117 h121 ⟨Ih121, Qh121, f118, f119, f120⟩
                        have Rh121 : zMR msP h h121 := Rh116.tr Qh121 (by decide +kernel)
                        have Bh121 : vB t n h121 := Bh116.fr Qh121 (by decide +kernel)
                        have S168 : vR t n w0 h121 _ ((pSm0 t n (pFac t n o (sub t n))) (pA t n ((pSm0 t n (pFac t n o (sub t n)) s).2))) := f120
                        have Oh121 : mO h h121 := (Oh116).tr f119
                        have Vh121 : rV n ((pSm0 t n (pFac t n o (sub t n))) (pA t n ((pSm0 t n (pFac t n o (sub t n)) s).2))).2 := (Vh116).fn (pG_sm0 (pG_fac (hs t n)))
                        refine zwif_eq (q := 187) (nx := 174) (by decide +kernel) (fun c122 => ?_) (fun c122 => ?_)
                        · refine zwW_p [(0, 0, 0)] (q := 188) (ls' := [(2, 37), (0, a), (0, v114)]) (st' := [(0, 0)]) (by decide +kernel) rfl ?_
                          refine zwW_ret (nx := 189) (a := 1) (b := 0) (by decide +kernel) rfl (Or.inr (Or.inl ⟨rfl, Or.inl rfl⟩)) ?_
                          refine ⟨Ih121, Rh121, by omega, Oh121, ?_⟩
                          show vR t n w0 h121 0 (pHol t n o (hol t n) (eit t n) (pSm0 t n (pFac t n o (sub t n))) s)
                          first
                          | (rw [pHol_n1 CN.1 CN.2 (ho.resolve_right (fun z => by omega)).2 (S32.b1 (by omega))]; exact mR_t ((S168.qq (by omega))) ((S168.e (by omega))))
                          | (rw [pHol_n0 CN.1 CN.2 (ho.resolve_right (fun z => by omega)).2 (S32.b0 (by omega))]; exact S32.z (by omega))
                          | (rw [pHol_nd CN.1 CN.2 (fun z1 => by have y := ho.resolve_left (fun y => by omega); rw [z1] at y; cases y.2)]; exact mR_f rfl)
                          | (rw [pHol_b1 CP (ho.resolve_right (fun z => by omega)).2 (S85.b1 (by omega)) c111]; exact mR_t ((S168.qq (by omega))) ((S168.e (by omega))))
                          | (rw [pHol_bn CP (ho.resolve_right (fun z => by omega)).2 (S85.b1 (by omega)) c111]; exact mR_f rfl)
                          | (rw [pHol_b0 CP (ho.resolve_right (fun z => by omega)).2 (S85.b0 (by omega))]; exact S85.z (by omega))
                          | (rw [pHol_bd CP (fun z1 => by have y := ho.resolve_left (fun y => by omega); rw [z1] at y; cases y.2)]; exact mR_f rfl)
                          | (rw [pHol_s0 CN CP0 (S112.b0 (by omega))]; exact S112.z (by omega))
                          | (rw [pHol_sn CN CP0 (S112.b1 (by omega)) (by omega)]; exact mR_f rfl)
                          | (rw [pHol_s1 CN CP0 (S112.b1 (by omega)) HK (S168.b1 (by omega)), ← P161]; exact mR_t ((S168.qq (by omega))) ((S168.e (by omega))))
                          | (rw [pHol_s2 CN CP0 (S112.b1 (by omega)) HK (S168.b0 (by omega))]; exact S168.z (by omega))
                          | (exfalso; omega)
                        · refine zwW_p [(1, 0, 2), (1, 2, 0), (0, 0, 0)] (q := 177) (ls' := [(2, 37), (0, a), (0, v114)]) (st' := [(0, 0), (0, v114), (2, 37)]) (by decide +kernel) rfl ?_
                          refine zwW_cm Ih121 (op := 60) (k' := 270) (n := 2) (kd := 13) (m := 97) (nx := 180) (r := 37) (tl := [(0, v114), (0, 0)]) (st' := []) (by decide +kernel) rfl (by decide +kernel) (Nat.ble_eq_true_of_le (by omega)) (m270 h121 Ih121 v114 0 (by omega) (by omega) (by have z := (Oh121).1; omega) ((Vh121).mlt Bh121 (S168.qq (by omega)))) ?_
                          rintro x h126 ⟨Ih126, Qh126, rfl, f123, f124, f125⟩
                          have Rh126 : zMR msP h h126 := Rh121.tr Qh126 (by decide +kernel)
                          have Bh126 : vB t n h126 := Bh121.fr Qh126 (by decide +kernel)
                          have RQh126 : mQ t n w0 h126 (pW (-v114) ((pSm0 t n (pFac t n o (sub t n)) (pA t n ((pSm0 t n (pFac t n o (sub t n)) s).2))).2)) := ((S168.qq (by omega))).put Qh126 (by decide +kernel) f123 f124 (eEn_o (by omega)) (Or.inr (Or.inr (by omega)))
                          have Eh126 : fld h126 37 44 = -1 := (Qh126.f (a1 := 37) (a2 := 37) (j1 := 44) (j2 := 45) (by decide +kernel) (by first | decide | exact ⟨by decide, by decide⟩) (by first | decide | exact ⟨by decide, by decide⟩)).trans (S168.e (by omega))
                          have Oh126 : mO h h126 := (Oh121).tr (mO.put Qh126 (by decide +kernel) f125)
                          refine zwif_eq (q := 187) (nx := 183) (by decide +kernel) (fun c127 => ?_) (fun c127 => ?_)
                          · exfalso; omega
                          · refine zwW_p [(0, 1, 0), (24, 188, 0)] (q := 188) (ls' := [(2, 37), (0, a), (0, v114)]) (st' := [(0, 1)]) (by decide +kernel) rfl ?_
                            refine zwW_ret (nx := 189) (a := 1) (b := 0) (by decide +kernel) rfl (Or.inr (Or.inl ⟨rfl, Or.inr rfl⟩)) ?_
                            refine ⟨Ih126, Rh126, by omega, Oh126, ?_⟩
                            show vR t n w0 h126 1 (pHol t n o (hol t n) (eit t n) (pSm0 t n (pFac t n o (sub t n))) s)
                            first
                            | (rw [pHol_n1 CN.1 CN.2 (ho.resolve_right (fun z => by omega)).2 (S32.b1 (by omega))]; exact mR_t (RQh126) (Eh126))
                            | (rw [pHol_n0 CN.1 CN.2 (ho.resolve_right (fun z => by omega)).2 (S32.b0 (by omega))]; exact S32.z (by omega))
                            | (rw [pHol_nd CN.1 CN.2 (fun z1 => by have y := ho.resolve_left (fun y => by omega); rw [z1] at y; cases y.2)]; exact mR_f rfl)
                            | (rw [pHol_b1 CP (ho.resolve_right (fun z => by omega)).2 (S85.b1 (by omega)) c111]; exact mR_t (RQh126) (Eh126))
                            | (rw [pHol_bn CP (ho.resolve_right (fun z => by omega)).2 (S85.b1 (by omega)) c111]; exact mR_f rfl)
                            | (rw [pHol_b0 CP (ho.resolve_right (fun z => by omega)).2 (S85.b0 (by omega))]; exact S85.z (by omega))
                            | (rw [pHol_bd CP (fun z1 => by have y := ho.resolve_left (fun y => by omega); rw [z1] at y; cases y.2)]; exact mR_f rfl)
                            | (rw [pHol_s0 CN CP0 (S112.b0 (by omega))]; exact S112.z (by omega))
                            | (rw [pHol_sn CN CP0 (S112.b1 (by omega)) (by omega)]; exact mR_f rfl)
                            | (rw [pHol_s1 CN CP0 (S112.b1 (by omega)) HK (S168.b1 (by omega)), ← P161]; exact mR_t (RQh126) (Eh126))
                            | (rw [pHol_s2 CN CP0 (S112.b1 (by omega)) HK (S168.b0 (by omega))]; exact S168.z (by omega))
                            | (exfalso; omega)
                      · exfalso; omega
                    · refine zwif_ne (q := 152) (nx := 147) (by decide +kernel) (fun c128 => ?_) (fun c128 => ?_)
                      · exfalso; omega
                      · refine zwW_p [(1, 0, 2)] (q := 148) (ls' := [(2, 37), (0, a), (9, 0)]) (st' := [(2, 37)]) (by decide +kernel) rfl ?_
                        refine zwW_cm Ih73 (op := 60) (k' := 267) (n := 0) (kd := 13) (m := 97) (nx := 151) (r := 37) (tl := []) (st' := []) (by decide +kernel) rfl (by decide +kernel) (Nat.ble_eq_true_of_le (by omega)) (m267_p h73 Ih73 ((S112.e (by omega)))) ?_
                        rintro x h130 ⟨Ih130, Qh130, rfl, f129⟩
                        have Rh130 : zMR msP h h130 := Rh73.tr Qh130 (by decide +kernel)
                        have Bh130 : vB t n h130 := Bh73.fr Qh130 (by decide +kernel)
                        have Oh130 : mO h h130 := (Oh73).tr (mO.fr Qh130 (by decide +kernel)).1
                        refine zwW_ret (nx := 152) (a := 1) (b := 0) (by decide +kernel) rfl (Or.inr (Or.inl ⟨rfl, by omega⟩)) ?_
                        refine ⟨Ih130, Rh130, by omega, Oh130, ?_⟩
                        show vR t n w0 h130 0 (pHol t n o (hol t n) (eit t n) (pSm0 t n (pFac t n o (sub t n))) s)
                        first
                        | (rw [pHol_n1 CN.1 CN.2 (ho.resolve_right (fun z => by omega)).2 (S32.b1 (by omega))]; exact mR_t ((S112.qq (by omega))) ((S112.e (by omega))))
                        | (rw [pHol_n0 CN.1 CN.2 (ho.resolve_right (fun z => by omega)).2 (S32.b0 (by omega))]; exact S32.z (by omega))
                        | (rw [pHol_nd CN.1 CN.2 (fun z1 => by have y := ho.resolve_left (fun y => by omega); rw [z1] at y; cases y.2)]; exact mR_f (f129.trans ((S112.qq (by omega))).1.1))
                        | (rw [pHol_b1 CP (ho.resolve_right (fun z => by omega)).2 (S85.b1 (by omega)) c111]; exact mR_t ((S112.qq (by omega))) ((S112.e (by omega))))
                        | (rw [pHol_bn CP (ho.resolve_right (fun z => by omega)).2 (S85.b1 (by omega)) c111]; exact mR_f (f129.trans ((S112.qq (by omega))).1.1))
                        | (rw [pHol_b0 CP (ho.resolve_right (fun z => by omega)).2 (S85.b0 (by omega))]; exact S85.z (by omega))
                        | (rw [pHol_bd CP (fun z1 => by have y := ho.resolve_left (fun y => by omega); rw [z1] at y; cases y.2)]; exact mR_f (f129.trans ((S112.qq (by omega))).1.1))
                        | (rw [pHol_s0 CN CP0 (S112.b0 (by omega))]; exact S112.z (by omega))
                        | (rw [pHol_sn CN CP0 (S112.b1 (by omega)) (by omega)]; exact mR_f (f129.trans ((S112.qq (by omega))).1.1))
                        | (rw [pHol_s1 CN CP0 (S112.b1 (by omega)) HK (S168.b1 (by omega)), ← P161]; exact mR_t ((S112.qq (by omega))) ((S112.e (by omega))))
                        | (rw [pHol_s2 CN CP0 (S112.b1 (by omega)) HK (S168.b0 (by omega))]; exact S168.z (by omega))
                        | (exfalso; omega)
          · refine zwW_p [(0, 0, 0)] (q := 119) (ls' := [(2, 37), (0, a), (9, 0)]) (st' := [(0, 0)]) (by decide +kernel) rfl ?_
            refine zwW_ret (nx := 120) (a := 1) (b := 0) (by decide +kernel) rfl (Or.inr (Or.inl ⟨rfl, Or.inl rfl⟩)) ?_
            refine ⟨Ih73, Rh73, by omega, Oh73, ?_⟩
            show vR t n w0 h73 0 (pHol t n o (hol t n) (eit t n) (pSm0 t n (pFac t n o (sub t n))) s)
            first
            | (rw [pHol_n1 CN.1 CN.2 (ho.resolve_right (fun z => by omega)).2 (S32.b1 (by omega))]; exact mR_t ((S112.qq (by omega))) ((S112.e (by omega))))
            | (rw [pHol_n0 CN.1 CN.2 (ho.resolve_right (fun z => by omega)).2 (S32.b0 (by omega))]; exact S32.z (by omega))
            | (rw [pHol_nd CN.1 CN.2 (fun z1 => by have y := ho.resolve_left (fun y => by omega); rw [z1] at y; cases y.2)]; exact mR_f rfl)
            | (rw [pHol_b1 CP (ho.resolve_right (fun z => by omega)).2 (S85.b1 (by omega)) c30]; exact mR_t ((S112.qq (by omega))) ((S112.e (by omega))))
            | (rw [pHol_bn CP (ho.resolve_right (fun z => by omega)).2 (S85.b1 (by omega)) c30]; exact mR_f rfl)
            | (rw [pHol_b0 CP (ho.resolve_right (fun z => by omega)).2 (S85.b0 (by omega))]; exact S85.z (by omega))
            | (rw [pHol_bd CP (fun z1 => by have y := ho.resolve_left (fun y => by omega); rw [z1] at y; cases y.2)]; exact mR_f rfl)
            | (rw [pHol_s0 CN CP0 (S112.b0 (by omega))]; exact S112.z (by omega))
            | (rw [pHol_sn CN CP0 (S112.b1 (by omega)) (by omega)]; exact mR_f rfl)
            | (rw [pHol_s1 CN CP0 (S112.b1 (by omega)) HK (S168.b1 (by omega)), ← P161]; exact mR_t ((S112.qq (by omega))) ((S112.e (by omega))))
            | (rw [pHol_s2 CN CP0 (S112.b1 (by omega)) HK (S168.b0 (by omega))]; exact S168.z (by omega))
            | (exfalso; omega)
        · exfalso; omega
    · exfalso; omega
-- WheelLandModel.each(I)Z
theorem m271_q {sc : List Int} (a : Int) (D0 : Nat) (pa : 0 ≤ a ∧ a ≤ 8) (o : Bool) (sub : pT → Nat → pQ → pR) (ho : (a < 8 ∧ o = true) ∨ (8 ≤ a ∧ o = false)) (hs : ∀ (t : pT) (n : Nat), pG n (sub t n)) (HS : a < 8 → mX sc D0 248 (a + 1) sub) (hol eit : pT → Nat → pQ → pR) (hh : ∀ (t : pT) (n : Nat), pG n (hol t n)) (he : ∀ (t : pT) (n : Nat), pG n (eit t n)) (HT : a < 8 → mX sc D0 286 (a + 1) hol) (HE : a < 8 → mX sc D0 249 (a + 1) eit) : mX sc (D0 + 24) 271 a (fun t n => pBth t n (pHol t n o (hol t n) (eit t n) (pSm0 t n (pFac t n o (sub t n))))) := by
  intro h I t n w0 s B Q0 W0 pc pf
  have bc := I.b (a1 := 37) (a2 := 37) (j1 := 47) (j2 := 48) (lo := -1) (hi := 4) (by decide +kernel) (r := 37) (j := 47) (by decide) (by decide) (by decide) (by decide)
  have B2 := B.2.1
  have O0 : mO h h := mO.rf
  refine zwC_of (D := D0 + 23) 2 (by decide +kernel) rfl (ls := [(2, 37), (0, a)]) rfl ?_
  have R : zMR msP h h := zMR.rf _ _
  refine zwW_p [(1, 0, 2), (1, 1, 0)] (q := 2) (ls' := [(2, 37), (0, a)]) (st' := [(0, a), (2, 37)]) (by decide +kernel) rfl ?_
  refine zwW_cm I (op := 60) (k' := 286) (n := 1) (kd := 13) (m := 97) (nx := 5) (r := 37) (tl := [(0, a)]) (st' := []) (by decide +kernel) rfl (by decide +kernel) (Nat.ble_eq_true_of_le (by omega)) (m286_q a D0 pa o sub ho hs HS hol eit hh he HT HE h I t n w0 s B (Q0) (W0) (by have z := (O0).1; omega) (pf)) ?_
  rintro v1 h5 ⟨Ih5, Qh5, f2, f3, f4⟩
  have Rh5 : zMR msP h h5 := R.tr Qh5 (by decide +kernel)
  have Bh5 : vB t n h5 := B.fr Qh5 (by decide +kernel)
  have S2 : vR t n w0 h5 _ ((pHol t n o (hol t n) (eit t n) (pSm0 t n (pFac t n o (sub t n)))) s) := f4
  have Oh5 : mO h h5 := (O0).tr f3
  have Wh5 : rW n ((pHol t n o (hol t n) (eit t n) (pSm0 t n (pFac t n o (sub t n)))) s).2 := (W0).fn (pG_hol (hh t n) (he t n) (pG_sm0 (pG_fac (hs t n))))
  refine zwif_ne (q := 10) (nx := 8) (by decide +kernel) (fun c6 => ?_) (fun c6 => ?_)
  · have L7 : ∀ (n0 : Nat) (hL7 : Hp), n0 = (fld hL7 37 41 - fld hL7 37 42).toNat → (vB t n hL7) → (mO h hL7) → (vL t n w0 hL7 (pLw t n 19 (pHol t n o (hol t n) (eit t n) (pSm0 t n (pFac t n o (sub t n))))) (pBth t n (pHol t n o (hol t n) (eit t n) (pSm0 t n (pFac t n o (sub t n)))) s)) → zI hL7 → zMR msP h hL7 → zwW sc (D0 + 23) 271 10 [(2, 37), (0, a)] [] hL7 (zwRt 0 (fun x g => zI g ∧ zMR msP h g ∧ (0 ≤ x ∧ x ≤ 1) ∧ mO h g ∧ vR t n w0 g x (pBth t n (pHol t n o (hol t n) (eit t n) (pSm0 t n (pFac t n o (sub t n)))) s))) := by
      intro n0
      induction n0 using Nat.strongRecOn with
      | ind n0 IHL7 =>
        intro hL7 hnL7 iL7_0 iL7_1 iL7_2 IhL7 RhL7
        obtain ⟨kL, qL, QL, WL, EL, NL, TL⟩ := iL7_2
        have AL := QL.1.1
        have BL := iL7_0.1
        refine zwW_p [(1, 0, 2), (0, -31, 2)] (q := 14) (ls' := [(2, 37), (0, a)]) (st' := [(2, -31), (2, 37)]) (by decide +kernel) rfl ?_
        refine zwW_cm IhL7 (op := 60) (k' := 246) (n := 1) (kd := 13) (m := 97) (nx := 17) (r := 37) (tl := [(2, -31)]) (st' := []) (by decide +kernel) rfl (by decide +kernel) (Nat.ble_eq_true_of_le (by omega)) (m246_p hL7 IhL7 (-31) t n (qL).1 (by first | omega | exact ⟨by omega, by omega⟩) iL7_0 (QL).1) ?_
        rintro x _ ⟨rfl, ⟨rfl, c8⟩ | ⟨rfl, c8⟩⟩
        · have CN := c8
          rw [show ((mWi (-31) : Nat) : Int) = 19 by decide] at CN
          refine zwif_eq (q := 45) (nx := 20) (by decide +kernel) (fun c9 => ?_) (fun c9 => ?_)
          · exfalso; omega
          · have HZ : pK t n qL.1 ≠ 0 := by have z := CN.1; omega
            have PL := pK_lt HZ
            have HM := mL_m WL HZ (show pG n (pHol t n o (hol t n) (eit t n) (pSm0 t n (pFac t n o (sub t n)))) from pG_hol (hh t n) (he t n) (pG_sm0 (pG_fac (hs t n)))) NL
            refine zwW_p [(1, 0, 2)] (q := 21) (ls' := [(2, 37), (0, a)]) (st' := [(2, 37)]) (by decide +kernel) rfl ?_
            refine zwW_cmv IhL7 (op := 60) (k' := 268) (n := 0) (kd := 13) (m := 97) (nx := 24) (r := 37) (tl := []) (st' := []) (by decide +kernel) rfl (by decide +kernel) (Nat.ble_eq_true_of_le (by omega)) (m268_p hL7 IhL7 t n (qL).1 iL7_0 (QL).1) ?_
            rintro h11 ⟨Ih11, Qh11, f10⟩
            have Rh11 : zMR msP h h11 := RhL7.tr Qh11 (by decide +kernel)
            have Bh11 : vB t n h11 := iL7_0.fr Qh11 (by decide +kernel)
            have RQh11 : mQ t n w0 h11 (pA t n qL) := (QL).tk Qh11 (by decide +kernel) ⟨by have z := (iL7_1).1; omega, by have z := (iL7_1).1; omega⟩ f10
            have Vh11 : rV n (pA t n qL) := (WL).a (by omega)
            have Eh11 : fld h11 37 44 = -1 := (Qh11.f (a1 := 37) (a2 := 37) (j1 := 44) (j2 := 45) (by decide +kernel) (by first | decide | exact ⟨by decide, by decide⟩) (by first | decide | exact ⟨by decide, by decide⟩)).trans EL
            have Oh11 : mO h h11 := (iL7_1).tr (mO.fr Qh11 (by decide +kernel)).1
            refine zwW_p [(1, 0, 2), (1, 1, 0)] (q := 26) (ls' := [(2, 37), (0, a)]) (st' := [(0, a), (2, 37)]) (by decide +kernel) rfl ?_
            refine zwW_cm Ih11 (op := 60) (k' := 286) (n := 1) (kd := 13) (m := 97) (nx := 29) (r := 37) (tl := [(0, a)]) (st' := []) (by decide +kernel) rfl (by decide +kernel) (Nat.ble_eq_true_of_le (by omega)) (m286_q a D0 pa o sub ho hs HS hol eit hh he HT HE h11 Ih11 t n w0 (pA t n qL) Bh11 (RQh11) (Vh11.wk) (by have z := (Oh11).1; omega) (Eh11)) ?_
            rintro v12 h16 ⟨Ih16, Qh16, f13, f14, f15⟩
            have Rh16 : zMR msP h h16 := Rh11.tr Qh16 (by decide +kernel)
            have Bh16 : vB t n h16 := Bh11.fr Qh16 (by decide +kernel)
            have S26 : vR t n w0 h16 _ ((pHol t n o (hol t n) (eit t n) (pSm0 t n (pFac t n o (sub t n)))) (pA t n qL)) := f15
            have Oh16 : mO h h16 := (Oh11).tr f14
            have Vh16 : rV n ((pHol t n o (hol t n) (eit t n) (pSm0 t n (pFac t n o (sub t n)))) (pA t n qL)).2 := (Vh11).fn (pG_hol (hh t n) (he t n) (pG_sm0 (pG_fac (hs t n))))
            refine zwif_ne (q := 34) (nx := 32) (by decide +kernel) (fun c17 => ?_) (fun c17 => ?_)
            · refine zwW_p [(1, 0, 2), (0, 38, 0), (0, 0, 0)] (q := 38) (ls' := [(2, 37), (0, a)]) (st' := [(0, 0), (0, 38), (2, 37)]) (by decide +kernel) rfl ?_
              refine zwW_cm Ih16 (op := 60) (k' := 270) (n := 2) (kd := 13) (m := 97) (nx := 41) (r := 37) (tl := [(0, 38), (0, 0)]) (st' := []) (by decide +kernel) rfl (by decide +kernel) (Nat.ble_eq_true_of_le (by omega)) (m270 h16 Ih16 38 0 (by omega) (by omega) (by have z := (Oh16).1; omega) ((Vh16).mlt Bh16 (S26.qq (by omega)))) ?_
              rintro x h21 ⟨Ih21, Qh21, rfl, f18, f19, f20⟩
              have Rh21 : zMR msP h h21 := Rh16.tr Qh21 (by decide +kernel)
              have Bh21 : vB t n h21 := Bh16.fr Qh21 (by decide +kernel)
              have RQh21 : mQ t n w0 h21 (pW (-19) ((pHol t n o (hol t n) (eit t n) (pSm0 t n (pFac t n o (sub t n))) (pA t n qL)).2)) := ((S26.qq (by omega))).put Qh21 (by decide +kernel) f18 f19 (eEn_x.2.1) (Or.inr (Or.inr (by omega)))
              have Eh21 : fld h21 37 44 = -1 := (Qh21.f (a1 := 37) (a2 := 37) (j1 := 44) (j2 := 45) (by decide +kernel) (by first | decide | exact ⟨by decide, by decide⟩) (by first | decide | exact ⟨by decide, by decide⟩)).trans (S26.e (by omega))
              have Oh21 : mO h h21 := (Oh16).tr (mO.put Qh21 (by decide +kernel) f20)
              have A38 : fld h21 37 42 = ((((pHol t n o (hol t n) (eit t n) (pSm0 t n (pFac t n o (sub t n)))) (pA t n qL)).2.1 : Nat) : Int) := (RQh21).1.1
              have B38 := (Bh21).1
              have H38 := HM.2.2
              have LB : vL t n w0 h21 (pLw t n 19 (pHol t n o (hol t n) (eit t n) (pSm0 t n (pFac t n o (sub t n))))) (pBth t n (pHol t n o (hol t n) (eit t n) (pSm0 t n (pFac t n o (sub t n)))) s) := mL_n (RQh21) ((Vh16).pw) (Eh21) HM.2.1 (by rw [TL]; exact pLw_n (k := kL - 1) HM.1 CN (S26.b1 (by omega)))
              refine zwW_p [(15, 0, 0), (24, 10, 0)] (q := 10) (ls' := [(2, 37), (0, a)]) (st' := []) (by decide +kernel) rfl ?_
              exact IHL7 (fld h21 37 41 - fld h21 37 42).toNat (by omega) h21 rfl (Bh21) (Oh21) (LB) Ih21 Rh21
            · refine zwW_p [(0, 0, 0)] (q := 33) (ls' := [(2, 37), (0, a)]) (st' := [(0, 0)]) (by decide +kernel) rfl ?_
              refine zwW_ret (nx := 34) (a := 1) (b := 0) (by decide +kernel) rfl (Or.inr (Or.inl ⟨rfl, Or.inl rfl⟩)) ?_
              refine ⟨Ih16, Rh16, by omega, Oh16, ?_⟩
              show vR t n w0 h16 0 (pBth t n (pHol t n o (hol t n) (eit t n) (pSm0 t n (pFac t n o (sub t n)))) s)
              first
              | (unfold pBth; rw [if_neg (S2.b0 (by omega))]; exact S2.z (by omega))
              | (rw [TL, pLw_z (Or.inr CN)]; exact mR_t QL EL)
              | (rw [TL, pLw_f (k := kL - 1) HM.1 CN (S26.b0 (by omega))]; exact mR_f (S26.fl (by omega)).2)
              | (exfalso; omega)
        · have CN := c8
          rw [show ((mWi (-31) : Nat) : Int) = 19 by decide] at CN
          refine zwif_eq (q := 45) (nx := 20) (by decide +kernel) (fun c22 => ?_) (fun c22 => ?_)
          · refine zwW_p [(0, 1, 0)] (q := 46) (ls' := [(2, 37), (0, a)]) (st' := [(0, 1)]) (by decide +kernel) rfl ?_
            refine zwW_ret (nx := 47) (a := 1) (b := 0) (by decide +kernel) rfl (Or.inr (Or.inl ⟨rfl, Or.inr rfl⟩)) ?_
            refine ⟨IhL7, RhL7, by omega, iL7_1, ?_⟩
            show vR t n w0 hL7 1 (pBth t n (pHol t n o (hol t n) (eit t n) (pSm0 t n (pFac t n o (sub t n)))) s)
            first
            | (unfold pBth; rw [if_neg (S2.b0 (by omega))]; exact S2.z (by omega))
            | (rw [TL, pLw_z (Or.inr CN)]; exact mR_t QL EL)
            | (rw [TL, pLw_f (k := kL - 1) HM.1 CN (S26.b0 (by omega))]; exact mR_f (S26.fl (by omega)).2)
            | (exfalso; omega)
          · exfalso; omega
    exact L7 _ h5 rfl (Bh5) (Oh5) (mL_0 S2 (by omega) (Wh5) B2) Ih5 Rh5
  · refine zwW_p [(0, 0, 0)] (q := 9) (ls' := [(2, 37), (0, a)]) (st' := [(0, 0)]) (by decide +kernel) rfl ?_
    refine zwW_ret (nx := 10) (a := 1) (b := 0) (by decide +kernel) rfl (Or.inr (Or.inl ⟨rfl, Or.inl rfl⟩)) ?_
    refine ⟨Ih5, Rh5, by omega, Oh5, ?_⟩
    show vR t n w0 h5 0 (pBth t n (pHol t n o (hol t n) (eit t n) (pSm0 t n (pFac t n o (sub t n)))) s)
    first
    | (unfold pBth; rw [if_neg (S2.b0 (by omega))]; exact S2.z (by omega))
    | (rw [TL, pLw_z (Or.inr CN)]; exact mR_t QL EL)
    | (rw [TL, pLw_f (k := kL - 1) HM.1 CN (S26.b0 (by omega))]; exact mR_f (S26.fl (by omega)).2)
    | (exfalso; omega)
-- WheelLandModel.either(I)Z
theorem m249_q {sc : List Int} (a : Int) (D0 : Nat) (pa : 0 ≤ a ∧ a ≤ 8) (o : Bool) (sub : pT → Nat → pQ → pR) (ho : (a < 8 ∧ o = true) ∨ (8 ≤ a ∧ o = false)) (hs : ∀ (t : pT) (n : Nat), pG n (sub t n)) (HS : a < 8 → mX sc D0 248 (a + 1) sub) (hol eit : pT → Nat → pQ → pR) (hh : ∀ (t : pT) (n : Nat), pG n (hol t n)) (he : ∀ (t : pT) (n : Nat), pG n (eit t n)) (HT : a < 8 → mX sc D0 286 (a + 1) hol) (HE : a < 8 → mX sc D0 249 (a + 1) eit) : mX sc (D0 + 25) 249 a (fun t n => pEi0 t n (pHol t n o (hol t n) (eit t n) (pSm0 t n (pFac t n o (sub t n))))) := by
  intro h I t n w0 s B Q0 W0 pc pf
  have bc := I.b (a1 := 37) (a2 := 37) (j1 := 47) (j2 := 48) (lo := -1) (hi := 4) (by decide +kernel) (r := 37) (j := 47) (by decide) (by decide) (by decide) (by decide)
  have B2 := B.2.1
  have O0 : mO h h := mO.rf
  refine zwC_of (D := D0 + 24) 2 (by decide +kernel) rfl (ls := [(2, 37), (0, a)]) rfl ?_
  have R : zMR msP h h := zMR.rf _ _
  refine zwW_p [(1, 0, 2), (1, 1, 0)] (q := 2) (ls' := [(2, 37), (0, a)]) (st' := [(0, a), (2, 37)]) (by decide +kernel) rfl ?_
  refine zwW_cm I (op := 60) (k' := 271) (n := 1) (kd := 13) (m := 97) (nx := 5) (r := 37) (tl := [(0, a)]) (st' := []) (by decide +kernel) rfl (by decide +kernel) (Nat.ble_eq_true_of_le (by omega)) (m271_q a D0 pa o sub ho hs HS hol eit hh he HT HE h I t n w0 s B (Q0) (W0) (by have z := (O0).1; omega) (pf)) ?_
  rintro v1 h5 ⟨Ih5, Qh5, f2, f3, f4⟩
  have Rh5 : zMR msP h h5 := R.tr Qh5 (by decide +kernel)
  have Bh5 : vB t n h5 := B.fr Qh5 (by decide +kernel)
  have S2 : vR t n w0 h5 _ ((pBth t n (pHol t n o (hol t n) (eit t n) (pSm0 t n (pFac t n o (sub t n))))) s) := f4
  have Oh5 : mO h h5 := (O0).tr f3
  have Wh5 : rW n ((pBth t n (pHol t n o (hol t n) (eit t n) (pSm0 t n (pFac t n o (sub t n))))) s).2 := (W0).fn (pG_bth (pG_hol (hh t n) (he t n) (pG_sm0 (pG_fac (hs t n)))))
  refine zwif_ne (q := 10) (nx := 8) (by decide +kernel) (fun c6 => ?_) (fun c6 => ?_)
  · have L7 : ∀ (n0 : Nat) (hL7 : Hp), n0 = (fld hL7 37 41 - fld hL7 37 42).toNat → (vB t n hL7) → (mO h hL7) → (vL t n w0 hL7 (pLw t n 18 (pBth t n (pHol t n o (hol t n) (eit t n) (pSm0 t n (pFac t n o (sub t n)))))) (pEi0 t n (pHol t n o (hol t n) (eit t n) (pSm0 t n (pFac t n o (sub t n)))) s)) → zI hL7 → zMR msP h hL7 → zwW sc (D0 + 24) 249 10 [(2, 37), (0, a)] [] hL7 (zwRt 0 (fun x g => zI g ∧ zMR msP h g ∧ (0 ≤ x ∧ x ≤ 1) ∧ mO h g ∧ vR t n w0 g x (pEi0 t n (pHol t n o (hol t n) (eit t n) (pSm0 t n (pFac t n o (sub t n)))) s))) := by
      intro n0
      induction n0 using Nat.strongRecOn with
      | ind n0 IHL7 =>
        intro hL7 hnL7 iL7_0 iL7_1 iL7_2 IhL7 RhL7
        obtain ⟨kL, qL, QL, WL, EL, NL, TL⟩ := iL7_2
        have AL := QL.1.1
        have BL := iL7_0.1
        refine zwW_p [(1, 0, 2), (0, -32, 2)] (q := 14) (ls' := [(2, 37), (0, a)]) (st' := [(2, -32), (2, 37)]) (by decide +kernel) rfl ?_
        refine zwW_cm IhL7 (op := 60) (k' := 246) (n := 1) (kd := 13) (m := 97) (nx := 17) (r := 37) (tl := [(2, -32)]) (st' := []) (by decide +kernel) rfl (by decide +kernel) (Nat.ble_eq_true_of_le (by omega)) (m246_p hL7 IhL7 (-32) t n (qL).1 (by first | omega | exact ⟨by omega, by omega⟩) iL7_0 (QL).1) ?_
        rintro x _ ⟨rfl, ⟨rfl, c8⟩ | ⟨rfl, c8⟩⟩
        · have CN := c8
          rw [show ((mWi (-32) : Nat) : Int) = 18 by decide] at CN
          refine zwif_eq (q := 45) (nx := 20) (by decide +kernel) (fun c9 => ?_) (fun c9 => ?_)
          · exfalso; omega
          · have HZ : pK t n qL.1 ≠ 0 := by have z := CN.1; omega
            have PL := pK_lt HZ
            have HM := mL_m WL HZ (show pG n (pBth t n (pHol t n o (hol t n) (eit t n) (pSm0 t n (pFac t n o (sub t n))))) from pG_bth (pG_hol (hh t n) (he t n) (pG_sm0 (pG_fac (hs t n))))) NL
            refine zwW_p [(1, 0, 2)] (q := 21) (ls' := [(2, 37), (0, a)]) (st' := [(2, 37)]) (by decide +kernel) rfl ?_
            refine zwW_cmv IhL7 (op := 60) (k' := 268) (n := 0) (kd := 13) (m := 97) (nx := 24) (r := 37) (tl := []) (st' := []) (by decide +kernel) rfl (by decide +kernel) (Nat.ble_eq_true_of_le (by omega)) (m268_p hL7 IhL7 t n (qL).1 iL7_0 (QL).1) ?_
            rintro h11 ⟨Ih11, Qh11, f10⟩
            have Rh11 : zMR msP h h11 := RhL7.tr Qh11 (by decide +kernel)
            have Bh11 : vB t n h11 := iL7_0.fr Qh11 (by decide +kernel)
            have RQh11 : mQ t n w0 h11 (pA t n qL) := (QL).tk Qh11 (by decide +kernel) ⟨by have z := (iL7_1).1; omega, by have z := (iL7_1).1; omega⟩ f10
            have Vh11 : rV n (pA t n qL) := (WL).a (by omega)
            have Eh11 : fld h11 37 44 = -1 := (Qh11.f (a1 := 37) (a2 := 37) (j1 := 44) (j2 := 45) (by decide +kernel) (by first | decide | exact ⟨by decide, by decide⟩) (by first | decide | exact ⟨by decide, by decide⟩)).trans EL
            have Oh11 : mO h h11 := (iL7_1).tr (mO.fr Qh11 (by decide +kernel)).1
            refine zwW_p [(1, 0, 2), (1, 1, 0)] (q := 26) (ls' := [(2, 37), (0, a)]) (st' := [(0, a), (2, 37)]) (by decide +kernel) rfl ?_
            refine zwW_cm Ih11 (op := 60) (k' := 271) (n := 1) (kd := 13) (m := 97) (nx := 29) (r := 37) (tl := [(0, a)]) (st' := []) (by decide +kernel) rfl (by decide +kernel) (Nat.ble_eq_true_of_le (by omega)) (m271_q a D0 pa o sub ho hs HS hol eit hh he HT HE h11 Ih11 t n w0 (pA t n qL) Bh11 (RQh11) (Vh11.wk) (by have z := (Oh11).1; omega) (Eh11)) ?_
            rintro v12 h16 ⟨Ih16, Qh16, f13, f14, f15⟩
            have Rh16 : zMR msP h h16 := Rh11.tr Qh16 (by decide +kernel)
            have Bh16 : vB t n h16 := Bh11.fr Qh16 (by decide +kernel)
            have S26 : vR t n w0 h16 _ ((pBth t n (pHol t n o (hol t n) (eit t n) (pSm0 t n (pFac t n o (sub t n))))) (pA t n qL)) := f15
            have Oh16 : mO h h16 := (Oh11).tr f14
            have Vh16 : rV n ((pBth t n (pHol t n o (hol t n) (eit t n) (pSm0 t n (pFac t n o (sub t n))))) (pA t n qL)).2 := (Vh11).fn (pG_bth (pG_hol (hh t n) (he t n) (pG_sm0 (pG_fac (hs t n)))))
            refine zwif_ne (q := 34) (nx := 32) (by decide +kernel) (fun c17 => ?_) (fun c17 => ?_)
            · refine zwW_p [(1, 0, 2), (0, 124, 0), (0, 0, 0)] (q := 38) (ls' := [(2, 37), (0, a)]) (st' := [(0, 0), (0, 124), (2, 37)]) (by decide +kernel) rfl ?_
              refine zwW_cm Ih16 (op := 60) (k' := 270) (n := 2) (kd := 13) (m := 97) (nx := 41) (r := 37) (tl := [(0, 124), (0, 0)]) (st' := []) (by decide +kernel) rfl (by decide +kernel) (Nat.ble_eq_true_of_le (by omega)) (m270 h16 Ih16 124 0 (by omega) (by omega) (by have z := (Oh16).1; omega) ((Vh16).mlt Bh16 (S26.qq (by omega)))) ?_
              rintro x h21 ⟨Ih21, Qh21, rfl, f18, f19, f20⟩
              have Rh21 : zMR msP h h21 := Rh16.tr Qh21 (by decide +kernel)
              have Bh21 : vB t n h21 := Bh16.fr Qh21 (by decide +kernel)
              have RQh21 : mQ t n w0 h21 (pW (-18) ((pBth t n (pHol t n o (hol t n) (eit t n) (pSm0 t n (pFac t n o (sub t n)))) (pA t n qL)).2)) := ((S26.qq (by omega))).put Qh21 (by decide +kernel) f18 f19 (eEn_x.2.2) (Or.inr (Or.inr (by omega)))
              have Eh21 : fld h21 37 44 = -1 := (Qh21.f (a1 := 37) (a2 := 37) (j1 := 44) (j2 := 45) (by decide +kernel) (by first | decide | exact ⟨by decide, by decide⟩) (by first | decide | exact ⟨by decide, by decide⟩)).trans (S26.e (by omega))
              have Oh21 : mO h h21 := (Oh16).tr (mO.put Qh21 (by decide +kernel) f20)
              have A38 : fld h21 37 42 = ((((pBth t n (pHol t n o (hol t n) (eit t n) (pSm0 t n (pFac t n o (sub t n))))) (pA t n qL)).2.1 : Nat) : Int) := (RQh21).1.1
              have B38 := (Bh21).1
              have H38 := HM.2.2
              have LB : vL t n w0 h21 (pLw t n 18 (pBth t n (pHol t n o (hol t n) (eit t n) (pSm0 t n (pFac t n o (sub t n)))))) (pEi0 t n (pHol t n o (hol t n) (eit t n) (pSm0 t n (pFac t n o (sub t n)))) s) := mL_n (RQh21) ((Vh16).pw) (Eh21) HM.2.1 (by rw [TL]; exact pLw_n (k := kL - 1) HM.1 CN (S26.b1 (by omega)))
              refine zwW_p [(15, 0, 0), (24, 10, 0)] (q := 10) (ls' := [(2, 37), (0, a)]) (st' := []) (by decide +kernel) rfl ?_
              exact IHL7 (fld h21 37 41 - fld h21 37 42).toNat (by omega) h21 rfl (Bh21) (Oh21) (LB) Ih21 Rh21
            · refine zwW_p [(0, 0, 0)] (q := 33) (ls' := [(2, 37), (0, a)]) (st' := [(0, 0)]) (by decide +kernel) rfl ?_
              refine zwW_ret (nx := 34) (a := 1) (b := 0) (by decide +kernel) rfl (Or.inr (Or.inl ⟨rfl, Or.inl rfl⟩)) ?_
              refine ⟨Ih16, Rh16, by omega, Oh16, ?_⟩
              show vR t n w0 h16 0 (pEi0 t n (pHol t n o (hol t n) (eit t n) (pSm0 t n (pFac t n o (sub t n)))) s)
              first
              | (unfold pEi0; rw [if_neg (S2.b0 (by omega))]; exact S2.z (by omega))
              | (rw [TL, pLw_z (Or.inr CN)]; exact mR_t QL EL)
              | (rw [TL, pLw_f (k := kL - 1) HM.1 CN (S26.b0 (by omega))]; exact mR_f (S26.fl (by omega)).2)
              | (exfalso; omega)
        · have CN := c8
          rw [show ((mWi (-32) : Nat) : Int) = 18 by decide] at CN
          refine zwif_eq (q := 45) (nx := 20) (by decide +kernel) (fun c22 => ?_) (fun c22 => ?_)
          · refine zwW_p [(0, 1, 0)] (q := 46) (ls' := [(2, 37), (0, a)]) (st' := [(0, 1)]) (by decide +kernel) rfl ?_
            refine zwW_ret (nx := 47) (a := 1) (b := 0) (by decide +kernel) rfl (Or.inr (Or.inl ⟨rfl, Or.inr rfl⟩)) ?_
            refine ⟨IhL7, RhL7, by omega, iL7_1, ?_⟩
            show vR t n w0 hL7 1 (pEi0 t n (pHol t n o (hol t n) (eit t n) (pSm0 t n (pFac t n o (sub t n)))) s)
            first
            | (unfold pEi0; rw [if_neg (S2.b0 (by omega))]; exact S2.z (by omega))
            | (rw [TL, pLw_z (Or.inr CN)]; exact mR_t QL EL)
            | (rw [TL, pLw_f (k := kL - 1) HM.1 CN (S26.b0 (by omega))]; exact mR_f (S26.fl (by omega)).2)
            | (exfalso; omega)
          · exfalso; omega
    exact L7 _ h5 rfl (Bh5) (Oh5) (mL_0 S2 (by omega) (Wh5) B2) Ih5 Rh5
  · refine zwW_p [(0, 0, 0)] (q := 9) (ls' := [(2, 37), (0, a)]) (st' := [(0, 0)]) (by decide +kernel) rfl ?_
    refine zwW_ret (nx := 10) (a := 1) (b := 0) (by decide +kernel) rfl (Or.inr (Or.inl ⟨rfl, Or.inl rfl⟩)) ?_
    refine ⟨Ih5, Rh5, by omega, Oh5, ?_⟩
    show vR t n w0 h5 0 (pEi0 t n (pHol t n o (hol t n) (eit t n) (pSm0 t n (pFac t n o (sub t n)))) s)
    first
    | (unfold pEi0; rw [if_neg (S2.b0 (by omega))]; exact S2.z (by omega))
    | (rw [TL, pLw_z (Or.inr CN)]; exact mR_t QL EL)
    | (rw [TL, pLw_f (k := kL - 1) HM.1 CN (S26.b0 (by omega))]; exact mR_f (S26.fl (by omega)).2)
    | (exfalso; omega)
end
section
/-! clauses and the whole reading, the class's and the model's -/
section CL
variable {sc : List Int} {h g h1 h2 : Hp} {t : pT} {n p k m i : Nat} {s u : pQ} {b b2 : Nat → Int} {x v : Int} {ms : Zms} {c z : Int} {T : Bool × pQ × (Nat → Int)}
/-- all depths, the class -/
theorem zrgram (sc : List Int) : ∀ (d : Nat) (a : Int), d ≤ 8 → a = 8 - (d : Int) → rX sc (25 * d + 22) 241 a (fun t n => pSum t n d) ∧ rX sc (25 * d + 23) 281 a (fun t n => pHo t n d) ∧ rX sc (25 * d + 25) 242 a (fun t n => pEi t n d)
  | 0, a, _, ha => by
    have ha : a = 8 := by omega
    subst ha
    have ho : ((8 : Int) < 8 ∧ false = true) ∨ ((8 : Int) ≤ 8 ∧ false = false) := Or.inr ⟨by decide, rfl⟩
    have e1 : ∀ (t : pT) (n : Nat), pG n pNo := fun _ n => pG_no
    exact ⟨x241_q 8 0 (by omega) false (fun _ _ => pNo) ho e1 (fun h => by omega), x281_q 8 0 (by omega) false (fun _ _ => pNo) ho e1 (fun h => by omega) (fun _ _ => pNo) (fun _ _ => pNo) e1 e1 (fun h => by omega) (fun h => by omega), x242_q 8 0 (by omega) false (fun _ _ => pNo) ho e1 (fun h => by omega) (fun _ _ => pNo) (fun _ _ => pNo) e1 e1 (fun h => by omega) (fun h => by omega)⟩
  | d + 1, a, hd, ha => by
    obtain ⟨k1, k2, k3⟩ := zrgram sc d (a + 1) (by omega) (by omega)
    have q1 := rX.up (show 25 * d + 22 ≤ 25 * (d + 1) by omega) k1
    have q2 := rX.up (show 25 * d + 23 ≤ 25 * (d + 1) by omega) k2
    have q3 := rX.up (show 25 * d + 25 ≤ 25 * (d + 1) by omega) k3
    have ho : (a < 8 ∧ true = true) ∨ ((8 : Int) ≤ a ∧ true = false) := Or.inl ⟨by omega, rfl⟩
    have g1 : ∀ (t : pT) (n : Nat), pG n (pSum t n d) := fun _ _ => pG_sum d
    have g2 : ∀ (t : pT) (n : Nat), pG n (pHo t n d) := fun _ _ => pG_ho d
    have g3 : ∀ (t : pT) (n : Nat), pG n (pEi t n d) := fun _ _ => pG_ei d
    exact ⟨x241_q a (25 * (d + 1)) (by omega) true (fun t n => pSum t n d) ho g1 (fun _ => q1), x281_q a (25 * (d + 1)) (by omega) true (fun t n => pSum t n d) ho g1 (fun _ => q1) (fun t n => pHo t n d) (fun t n => pEi t n d) g2 g3 (fun _ => q2) (fun _ => q3), x242_q a (25 * (d + 1)) (by omega) true (fun t n => pSum t n d) ho g1 (fun _ => q1) (fun t n => pHo t n d) (fun t n => pEi t n d) g2 g3 (fun _ => q2) (fun _ => q3)⟩
theorem zr_sum (sc : List Int) : rX sc 230 241 0 (fun t n => pSum t n 8) := rX.up (by decide) (zrgram sc 8 0 (by decide) (by decide)).1
theorem zr_either (sc : List Int) : rX sc 230 242 0 (fun t n => pEi t n 8) := rX.up (by decide) (zrgram sc 8 0 (by decide) (by decide)).2.2
/-- all depths, the model -/
theorem zmgram (sc : List Int) : ∀ (d : Nat) (a : Int), d ≤ 8 → a = 8 - (d : Int) → mX sc (25 * d + 22) 248 a (fun t n => pSum t n d) ∧ mX sc (25 * d + 23) 286 a (fun t n => pHo t n d) ∧ mX sc (25 * d + 25) 249 a (fun t n => pEi t n d)
  | 0, a, _, ha => by
    have ha : a = 8 := by omega
    subst ha
    have ho : ((8 : Int) < 8 ∧ false = true) ∨ ((8 : Int) ≤ 8 ∧ false = false) := Or.inr ⟨by decide, rfl⟩
    have e1 : ∀ (t : pT) (n : Nat), pG n pNo := fun _ n => pG_no
    exact ⟨m248_q 8 0 (by omega) false (fun _ _ => pNo) ho e1 (fun h => by omega), m286_q 8 0 (by omega) false (fun _ _ => pNo) ho e1 (fun h => by omega) (fun _ _ => pNo) (fun _ _ => pNo) e1 e1 (fun h => by omega) (fun h => by omega), m249_q 8 0 (by omega) false (fun _ _ => pNo) ho e1 (fun h => by omega) (fun _ _ => pNo) (fun _ _ => pNo) e1 e1 (fun h => by omega) (fun h => by omega)⟩
  | d + 1, a, hd, ha => by
    obtain ⟨k1, k2, k3⟩ := zmgram sc d (a + 1) (by omega) (by omega)
    have q1 := mX.up (show 25 * d + 22 ≤ 25 * (d + 1) by omega) k1
    have q2 := mX.up (show 25 * d + 23 ≤ 25 * (d + 1) by omega) k2
    have q3 := mX.up (show 25 * d + 25 ≤ 25 * (d + 1) by omega) k3
    have ho : (a < 8 ∧ true = true) ∨ ((8 : Int) ≤ a ∧ true = false) := Or.inl ⟨by omega, rfl⟩
    have g1 : ∀ (t : pT) (n : Nat), pG n (pSum t n d) := fun _ _ => pG_sum d
    have g2 : ∀ (t : pT) (n : Nat), pG n (pHo t n d) := fun _ _ => pG_ho d
    have g3 : ∀ (t : pT) (n : Nat), pG n (pEi t n d) := fun _ _ => pG_ei d
    exact ⟨m248_q a (25 * (d + 1)) (by omega) true (fun t n => pSum t n d) ho g1 (fun _ => q1), m286_q a (25 * (d + 1)) (by omega) true (fun t n => pSum t n d) ho g1 (fun _ => q1) (fun t n => pHo t n d) (fun t n => pEi t n d) g2 g3 (fun _ => q2) (fun _ => q3), m249_q a (25 * (d + 1)) (by omega) true (fun t n => pSum t n d) ho g1 (fun _ => q1) (fun t n => pHo t n d) (fun t n => pEi t n d) g2 g3 (fun _ => q2) (fun _ => q3)⟩
theorem zm_sum (sc : List Int) : mX sc 230 248 0 (fun t n => pSum t n 8) := mX.up (by decide) (zmgram sc 8 0 (by decide) (by decide)).1
theorem zm_either (sc : List Int) : mX sc 230 249 0 (fun t n => pEi t n 8) := mX.up (by decide) (zmgram sc 8 0 (by decide) (by decide)).2.2
/-- a word's number -/
theorem pFd_b (t : pT) (p l : Nat) : ∀ (L : List (List Int)) (k : Nat), -1 ≤ pFd t p l L k ∧ pFd t p l L k < (k : Int) + L.length
  | [], k => ⟨Int.le_refl _, by show (-1 : Int) < (k : Int) + (0 : Nat); omega⟩
  | w :: r, k => by
    have q := pFd_b t p l r (k + 1)
    show -1 ≤ (if _ then _ else _) ∧ (if _ then _ else _) < _
    rw [List.length_cons]
    split <;> omega
theorem pV_w (h : pK t n p = 1) : -1 ≤ pV t n p ∧ pV t n p ≤ 20 := by
  obtain ⟨h1, h2⟩ := pK_lt1.mp h
  unfold pV pWd
  rw [if_pos h2]
  have q := pFd_b t p (pEn t n p - p) pWs 0
  have l : pWs.length = 21 := rfl
  omega
/-- the ways through a clause -/
def pCc (t : pT) (n : Nat) (s : pQ) (b : Nat → Int) : Prop := pK t n s.1 = 1 ∧ 13 ≤ pV t n s.1 ∧ pV t n s.1 ≤ 17 ∧ b (pV t n s.1 - 13).toNat = -1
def pBo (t : pT) (n : Nat) (s : pQ) : pR := pCb t n (pV t n s.1 - 13) (pA t n s)
theorem pCls_no (h : ¬ pCc t n s b) : pCls t n s b = (false, s, b) := if_neg h
theorem pCls_f (h : pCc t n s b) (h1 : ¬ (pBo t n s).1 = true) : pCls t n s b = (false, (pBo t n s).2, zu b (pV t n s.1 - 13).toNat s.2.1) := (if_pos h).trans (if_neg h1)
theorem pCls_s (h : pCc t n s b) (h1 : (pBo t n s).1 = true) (h2 : pK t n (pBo t n s).2.1 ≠ 59) : pCls t n s b = (false, (pBo t n s).2, zu b (pV t n s.1 - 13).toNat s.2.1) := (if_pos h).trans ((if_pos h1).trans (if_neg h2))
theorem pCls_t (h : pCc t n s b) (h1 : (pBo t n s).1 = true) (h2 : pK t n (pBo t n s).2.1 = 59) : pCls t n s b = (true, pW (-21) (pA t n (pBo t n s).2), zu b (pV t n s.1 - 13).toNat s.2.1) := (if_pos h).trans ((if_pos h1).trans (if_pos h2))
/-- where the clauses begin, in the class -/
def rGb (b : Nat → Int) (h : Hp) : Prop := ∀ c, c < 5 → fld h 12 c = b c
theorem rGb.fr (G : rGb b h) (R : zXR ms c z h g) (e : zqN ms 12 12 0 5 = true) : rGb b g := fun k hk => by
  have q : fld g 12 k = fld h 12 k := R.f e (by first | decide | exact ⟨by decide, by decide⟩) (by first | omega | exact ⟨by omega, by omega⟩) (by first | decide | exact ⟨by decide, by decide⟩)
  rw [q]
  exact G k hk
theorem rGb.wt (G : rGb b h) (e : g = wr h 12 i x) (s : sh h 12 = some (20, 5)) (hi : i < 5) : rGb (zu b i x) g := fun k hk => by
  by_cases z : k = i
  · rw [z, zu_eq, e]
    exact fld_wr_eq s hi
  · rw [zu_ne z, e, fld_wr (Or.inr z)]
    exact G k hk
theorem rQ.fr (Q : rQ t n h s) (R : zXR ms c z h g) (e : (zqN ms 9 9 2 7 && zun ms 11) = true) : rQ t n g s := by
  rw [Bool.and_eq_true] at e
  obtain ⟨q1, q2, q3⟩ := Q
  obtain ⟨k1, k2, k3, k4, k5⟩ := q1
  have f : ∀ j, 2 ≤ j → j < 7 → fld g 9 j = fld h 9 j := fun j j1 j2 => R.f e.1 (by first | decide | exact ⟨by decide, by decide⟩) ⟨j1, j2⟩ (by first | decide | exact ⟨by decide, by decide⟩)
  exact ⟨⟨(f 3 (by decide) (by decide)).trans k1, k2, (f 2 (by decide) (by decide)).trans k3, (f 4 (by decide) (by decide)).trans k4, fun y => (f 5 (by decide) (by decide)).trans (k5 y)⟩, (f 6 (by decide) (by decide)).trans q2, (R.fa (a := 11) e.2 (by decide)).trans q3⟩
def rC (t : pT) (n : Nat) (g : Hp) (x : Int) (r : Bool × pQ × (Nat → Int)) : Prop := rQ t n g r.2.1 ∧ rW n r.2.1 ∧ rGb r.2.2 g ∧ ((x = 1 ∧ r.1 = true) ∨ (x = 0 ∧ r.1 = false))
theorem rC_f (Q : rQ t n g s) (W : rW n s) (G : rGb b g) : rC t n g 0 (false, s, b) := ⟨Q, W, G, Or.inr ⟨rfl, rfl⟩⟩
theorem rC_t (Q : rQ t n g s) (W : rW n s) (G : rGb b g) : rC t n g 1 (true, s, b) := ⟨Q, W, G, Or.inl ⟨rfl, rfl⟩⟩
theorem rC.b1 {r : Bool × pQ × (Nat → Int)} (R : rC t n g x r) (e : x ≠ 0) : r.1 = true := by
  rcases R.2.2.2 with ⟨_, y⟩ | ⟨y, _⟩
  · exact y
  · exact absurd y e
theorem rC.b0 {r : Bool × pQ × (Nat → Int)} (R : rC t n g x r) (e : x = 0) : ¬ (r.1 = true) := by
  rcases R.2.2.2 with ⟨y, _⟩ | ⟨_, y⟩
  · omega
  · rw [y]; exact Bool.false_ne_true
def rD (t : pT) (n : Nat) (h : Hp) (m : Nat) (T : Bool × pQ × (Nat → Int)) : Prop := ∃ (q : pQ) (b : Nat → Int), rQ t n h q ∧ rW n q ∧ rGb b h ∧ T = pRd t n m q b
theorem pRd_z (e : m = 0 ∨ pK t n s.1 = 0) : pRd t n m s b = (true, s, b) := by
  cases m with
  | zero => rfl
  | succ m => exact if_pos (e.resolve_left (by omega))
theorem pRd_n (e : m = k + 1) (h0 : pK t n s.1 ≠ 0) (h1 : (pCls t n s b).1 = true) : pRd t n m s b = pRd t n k (pCls t n s b).2.1 (pCls t n s b).2.2 := by
  subst e
  exact (if_neg h0).trans (if_pos h1)
theorem pRd_f (e : m = k + 1) (h0 : pK t n s.1 ≠ 0) (h1 : ¬ (pCls t n s b).1 = true) : pRd t n m s b = pCls t n s b := by
  subst e
  exact (if_neg h0).trans (if_neg h1)
theorem pFa_t {c0 : Nat → Int} (e : (pRead t n c0).1 = true) : pFa t n c0 = -1 := if_pos e
theorem pFa_f {c0 : Nat → Int} (e : ¬ (pRead t n c0).1 = true) : pFa t n c0 = (((pRead t n c0).2.1.1 : Nat) : Int) := if_neg e
/-! the model's clauses -/
def mG (b : Nat → Int) (s : pQ) (h : Hp) : Prop := ∀ c, c < 5 → (b c = -1 ∧ fld h 163 c = 0) ∨ ∃ B L : Nat, b c = (B : Int) ∧ fld h 163 c = (L : Int) ∧ 0 < L ∧ B + L < s.2.1 ∧ s.2.2 (B + L) = -21 ∧ ∀ k, k < L → mCd (fld h (149 + (c : Int))) k (s.2.2 (B + k))
theorem mG.fr (G : mG b s h) (R : zMR ms h g) (e : (zqN ms 163 163 0 5 && (zqN ms 37 37 47 48 && ms.all (fun q => Nat.blt q.2.1 149 || Nat.blt 153 q.1)) || (zqN ms 163 163 0 5 && ms.all (fun q => Nat.blt q.2.1 149 || Nat.blt 153 q.1))) = true) : mG b s g := by
  have e2 : zqN ms 163 163 0 5 = true ∧ ms.all (fun q => Nat.blt q.2.1 149 || Nat.blt 153 q.1) = true := by
    simp only [Bool.or_eq_true, Bool.and_eq_true] at e
    rcases e with ⟨e1, -, e3⟩ | ⟨e1, e3⟩
    · exact ⟨e1, e3⟩
    · exact ⟨e1, e3⟩
  have q : ∀ r : Int, 149 ≤ r → r ≤ 153 → fld g r = fld h r := by
    intro r k1 k2
    refine funext (fun j => R.2.2.2 _ j (fun f hf hz => ?_))
    have e := List.all_eq_true.mp e2.2 f hf
    rw [Bool.or_eq_true] at e
    rcases e with e | e
    · have := Nat.le_of_ble_eq_true e
      omega
    · have := Nat.le_of_ble_eq_true e
      omega
  intro k hk
  have f : fld g 163 k = fld h 163 k := R.f e2.1 (by first | decide | exact ⟨by decide, by decide⟩) (by first | omega | exact ⟨by omega, by omega⟩)
  rw [f, q _ (by omega) (by omega)]
  exact G k hk
/-- a clause more -/
theorem mG.add {c0 : Nat} {h3 : Hp} (G : mG b s h) (O : mO h h1) (hc : fld h 37 47 = (c0 : Int)) (h0 : c0 < 5) (e163 : fld h1 163 = fld h 163) (u1 : s.2.1 ≤ u.2.1) (u2 : ∀ i, i < s.2.1 → u.2.2 i = s.2.2 i) (Q : mQ t n s.2.1 h1 u) (hL : s.2.1 < u.2.1) (e : h2 = wr h1 163 c0 x) (hx : x = fld h1 37 45) (hs : sh h1 163 = some (20, 5)) (r3 : ∀ r : Int, 149 ≤ r → r ≤ 153 → fld h3 r = fld h2 r) (f3 : ∀ k, k < 5 → fld h3 163 k = fld h2 163 k) : mG (zu b c0 s.2.1) (pW (-21) (pA t n u)) h3 := by
  obtain ⟨q1, q2, q3, q4⟩ := Q
  have rr : ∀ r : Int, 149 ≤ r → r ≤ 153 → fld h3 r = fld h1 r := fun r k1 k2 => (r3 r k1 k2).trans (funext fun j => by rw [e]; exact fld_wr (Or.inl (by omega)))
  intro k hk
  show (zu b c0 s.2.1 k = -1 ∧ _) ∨ ∃ B L : Nat, zu b c0 s.2.1 k = (B : Int) ∧ fld h3 163 k = (L : Int) ∧ 0 < L ∧ B + L < u.2.1 + 1 ∧ zu u.2.2 u.2.1 (-21) (B + L) = -21 ∧ ∀ j, j < L → mCd (fld h3 (149 + (k : Int))) j (zu u.2.2 u.2.1 (-21) (B + j))
  by_cases z : k = c0
  · subst z
    right
    refine ⟨s.2.1, u.2.1 - s.2.1, zu_eq, ?_, by omega, by omega, ?_, fun j hj => ?_⟩
    · rw [f3 k hk, e, fld_wr_eq hs hk, hx, q3]
      omega
    · rw [show s.2.1 + (u.2.1 - s.2.1) = u.2.1 by omega, zu_eq]
    · rw [zu_ne (by omega), rr _ (by omega) (by omega)]
      have y := q4 (s.2.1 + j) (by omega) (by omega)
      rw [O.1, hc, show s.2.1 + j - s.2.1 = j by omega] at y
      exact y
  · have f : fld h3 163 k = fld h 163 k := by rw [f3 k hk, e, fld_wr (Or.inr z), e163]
    have r : fld h3 (149 + (k : Int)) = fld h (149 + (k : Int)) := (rr _ (by omega) (by omega)).trans (O.2 _ (by omega) (by omega) (by rw [hc]; omega))
    rw [zu_ne z, f, r]
    rcases G k hk with y | ⟨B, L, y1, y2, y3, y4, y5, y6⟩
    · exact Or.inl y
    · right
      refine ⟨B, L, y1, y2, y3, by omega, ?_, fun j hj => ?_⟩
      · rw [zu_ne (by omega), u2 _ (by omega)]
        exact y5
      · rw [zu_ne (by omega), u2 _ (by omega)]
        exact y6 j hj
/-- a clause reads on, and leaves room -/
theorem pCls_W (W : rW n s) (h : (pCls t n s b).1 = true) : rW n (pCls t n s b).2.1 ∧ s.1 < (pCls t n s b).2.1.1 := by
  by_cases c1 : pCc t n s b
  · have V := W.a (t := t) (by have := c1.1; omega)
    by_cases c2 : (pBo t n s).1 = true
    · by_cases c3 : pK t n (pBo t n s).2.1 = 59
      · rw [pCls_t c1 c2 c3]
        have VB : rV n (pBo t n s).2 := V.fn (pG_cb (t := t) (pV t n s.1 - 13))
        have V2 := VB.wk.a (t := t) (by omega)
        refine ⟨V2.pw, ?_⟩
        have g := pG_cb (t := t) (n := n) (pV t n s.1 - 13) (pA t n s) V.2
        have b1 := pNx_b (t := t) W.2
        have b2 := pNx_b (t := t) VB.2
        have g1 : pNx t n s.1 ≤ (pBo t n s).2.1 := g.1
        have l := pK_lt (t := t) (n := n) (p := s.1) (by have := c1.1; omega)
        show s.1 < pNx t n (pBo t n s).2.1
        omega
      · rw [pCls_s c1 c2 c3] at h
        cases h
    · rw [pCls_f c1 c2] at h
      cases h
  · rw [pCls_no c1] at h
    cases h
/-- what was read -/
def mE (t : pT) (n : Nat) (g : Hp) (r : Bool × pQ × (Nat → Int)) : Prop := (r.1 = true ∧ fld g 37 44 = -1 ∧ mG r.2.2 r.2.1 g) ∨ (¬ r.1 = true ∧ fld g 37 44 = ((r.2.1.1 : Nat) : Int))
theorem mE.fx {c0 : Nat → Int} (E : mE t n g (pRead t n c0)) : fld g 37 44 = pFa t n c0 := by
  rcases E with ⟨e1, e2, -⟩ | ⟨e1, e2⟩
  · rw [pFa_t e1]; exact e2
  · rw [pFa_f e1]; exact e2
def mD (t : pT) (n : Nat) (h : Hp) (T : Bool × pQ × (Nat → Int)) : Prop := ∃ (m : Nat) (q : pQ) (b : Nat → Int), mTk t n h q.1 ∧ mG b q h ∧ rW n q ∧ fld h 37 44 = -1 ∧ n ≤ q.1 + m ∧ T = pRd t n m q b
end CL
end
section
/-! contracts of the class -/
def msx199_q : Zms := [(9, 9, 2, 7), (11, 11, 0, 400), (12, 12, 0, 5)]
-- WheelLand$Reader.clause()Z
theorem x199_q {sc : List Int} (h : Hp) (C : CI h) (t : pT) (n : Nat) (s : pQ) (b : Nat → Int) (B : rB t n h) (Q0 : rQ t n h s) (W0 : rW n s) (G : rGb b h) : zwC sc 231 199 [(2, 9)] h (zwRt 0 (fun x g => CI g ∧ zXR msx199_q (0) (0) h g ∧ (0 ≤ x ∧ x ≤ 1) ∧ (rC t n g x (pCls t n s b)))) := by
  refine zwC_of (D := 230) 3 (by decide +kernel) rfl (ls := [(2, 9), (9, 0), (9, 0)]) rfl ?_
  have X : zXR msx199_q 0 0 h h := zXR.rf _ _
  refine zwW_p [(1, 0, 2)] (q := 1) (ls' := [(2, 9), (9, 0), (9, 0)]) (st' := [(2, 9)]) (by decide +kernel) rfl ?_
  refine zwW_gs C.1 (kd := 7) (bn := 4) (n := 9) (t := 0) (lo := -2147483648) (hi := 2147483647) (nx := 4) (by decide +kernel) ?_
  intro v1 ev1 lv1 uv1
  have kv1 : v1 = pK t n s.1 := ev1.trans (Q0).kd
  refine zwW_p [(0, 1, 0)] (q := 5) (ls' := [(2, 9), (9, 0), (9, 0)]) (st' := [(0, 1), (0, v1)]) (by decide +kernel) rfl ?_
  refine zwic_ne (q := 18) (nx := 8) (by decide +kernel) (fun c2 => ?_) (fun c2 => ?_)
  · refine zwW_p [(0, -1, 0), (2, 1, 0), (1, 1, 0), (0, 0, 0), (0, 4, 0)] (q := 23) (ls' := [(2, 9), (0, -1), (9, 0)]) (st' := [(0, 4), (0, 0), (0, -1)]) (by decide +kernel) rfl ?_
    refine zwW_cs (k' := 98) (n := 3) (nx := 26) (as := [(0, -1), (0, 0), (0, 4)]) (st' := []) (by decide +kernel) rfl (x98 h C (-1) 0 4 (by omega) (by omega) (by omega)) rfl ?_
    rintro x _ ⟨rfl, ⟨rfl, c3⟩ | ⟨rfl, c3⟩⟩
    · refine zwif_ne (q := 39) (nx := 29) (by decide +kernel) (fun c4 => ?_) (fun c4 => ?_)
      · refine zwW_p [(0, 0, 0)] (q := 40) (ls' := [(2, 9), (0, -1), (9, 0)]) (st' := [(0, 0)]) (by decide +kernel) rfl ?_
        refine zwW_ret (nx := 41) (a := 1) (b := 0) (by decide +kernel) rfl (Or.inr (Or.inl ⟨rfl, Or.inl rfl⟩)) ?_
        refine ⟨C, X.le (by decide) (by decide), by omega, ?_⟩
        first
        | (rw [pCls_no (fun z => by obtain ⟨z1, z2, z3, z4⟩ := z; omega)]; exact rC_f Q0 W0 G)
        | (rw [pCls_f CC (SB.b0 (by omega))]; exact rC_f SB.1 VB.wk G)
        | (rw [pCls_s CC (SB.b1 (by omega)) (by omega)]; exact rC_f SB.1 VB.wk G)
        | (rw [pCls_t CC (SB.b1 (by omega)) (by omega)]; exact rC_t Q0 (W0) G)
      · exfalso; omega
    · exfalso; omega
  · refine zwW_p [(1, 0, 2)] (q := 9) (ls' := [(2, 9), (9, 0), (9, 0)]) (st' := [(2, 9)]) (by decide +kernel) rfl ?_
    refine zwW_gs C.1 (kd := 7) (bn := 5) (n := 9) (t := 0) (lo := -2147483648) (hi := 2147483647) (nx := 12) (by decide +kernel) ?_
    intro v5 ev5 lv5 uv5
    have kv5 : pK t n s.1 = 1 ∨ pK t n s.1 = 2 → v5 = pV t n s.1 := fun z => ev5.trans ((Q0).vl z)
    have VA := kv5 (Or.inl (by omega))
    have VW := pV_w (t := t) (n := n) (p := s.1) (by omega)
    refine zwW_p [(0, 13, 0)] (q := 14) (ls' := [(2, 9), (9, 0), (9, 0)]) (st' := [(0, 13), (0, v5)]) (by decide +kernel) rfl ?_
    refine zwW_sub (nx := 15) (by decide +kernel) (by first | omega | exact ⟨by omega, by omega⟩) ?_
    refine zwW_p [(24, 19, 0), (2, 1, 0), (1, 1, 0), (0, 0, 0), (0, 4, 0)] (q := 23) (ls' := [(2, 9), (0, (v5 - 13)), (9, 0)]) (st' := [(0, 4), (0, 0), (0, (v5 - 13))]) (by decide +kernel) rfl ?_
    refine zwW_cs (k' := 98) (n := 3) (nx := 26) (as := [(0, (v5 - 13)), (0, 0), (0, 4)]) (st' := []) (by decide +kernel) rfl (x98 h C (v5 - 13) 0 4 (by omega) (by omega) (by omega)) rfl ?_
    rintro x _ ⟨rfl, ⟨rfl, c6⟩ | ⟨rfl, c6⟩⟩
    · refine zwif_ne (q := 39) (nx := 29) (by decide +kernel) (fun c7 => ?_) (fun c7 => ?_)
      · refine zwW_p [(0, 0, 0)] (q := 40) (ls' := [(2, 9), (0, (v5 - 13)), (9, 0)]) (st' := [(0, 0)]) (by decide +kernel) rfl ?_
        refine zwW_ret (nx := 41) (a := 1) (b := 0) (by decide +kernel) rfl (Or.inr (Or.inl ⟨rfl, Or.inl rfl⟩)) ?_
        refine ⟨C, X.le (by decide) (by decide), by omega, ?_⟩
        first
        | (rw [pCls_no (fun z => by obtain ⟨z1, z2, z3, z4⟩ := z; omega)]; exact rC_f Q0 W0 G)
        | (rw [pCls_f CC (SB.b0 (by omega))]; exact rC_f SB.1 VB.wk G)
        | (rw [pCls_s CC (SB.b1 (by omega)) (by omega)]; exact rC_f SB.1 VB.wk G)
        | (rw [pCls_t CC (SB.b1 (by omega)) (by omega)]; exact rC_t Q0 (W0) G)
      · exfalso; omega
    · refine zwif_ne (q := 39) (nx := 29) (by decide +kernel) (fun c8 => ?_) (fun c8 => ?_)
      · exfalso; omega
      · refine zwW_p [(1, 0, 2)] (q := 30) (ls' := [(2, 9), (0, (v5 - 13)), (9, 0)]) (st' := [(2, 9)]) (by decide +kernel) rfl ?_
        refine zwW_gc C.1 (kd := 7) (bn := 8) (n := 9) (c := 12) (nx := 33) (by decide +kernel) ?_
        refine zwW_p [(1, 1, 0)] (q := 34) (ls' := [(2, 9), (0, (v5 - 13)), (9, 0)]) (st' := [(0, (v5 - 13)), (2, 12)]) (by decide +kernel) rfl ?_
        have ib1 : 0 ≤ (v5 - 13) ∧ (v5 - 13) < ((5 : Nat) : Int) := (by first | omega | exact ⟨by omega, by omega⟩)
        refine zwW_al C.1 (a1 := 12) (a2 := 12) (kd := 20) (n := 5) (t := 0) (lo := -2147483648) (hi := 2147483647) (nx := 35) (by decide +kernel) (by first | decide | exact ⟨by decide, by decide⟩) ib1 ?_
        intro v9 ev9 lv9 uv9
        have G35 := G ((v5 - 13)).toNat (by omega)
        have VX : ((v5 - 13)).toNat = (pV t n s.1 - 13).toNat := by omega
        rw [VX] at G35
        have E35 : v9 = fld h 12 (pV t n s.1 - 13).toNat := by rw [ev9]; congr 1
        refine zwW_p [(0, -1, 0)] (q := 36) (ls' := [(2, 9), (0, (v5 - 13)), (9, 0)]) (st' := [(0, -1), (0, v9)]) (by decide +kernel) rfl ?_
        refine zwic_eq (q := 41) (nx := 39) (by decide +kernel) (fun c10 => ?_) (fun c10 => ?_)
        · have CC : pCc t n s b := ⟨by omega, by omega, by omega, by omega⟩
          refine zwW_p [(1, 0, 2)] (q := 42) (ls' := [(2, 9), (0, (v5 - 13)), (9, 0)]) (st' := [(2, 9)]) (by decide +kernel) rfl ?_
          refine zwW_gc C.1 (kd := 7) (bn := 8) (n := 9) (c := 12) (nx := 45) (by decide +kernel) ?_
          refine zwW_p [(1, 1, 0), (1, 0, 2)] (q := 47) (ls' := [(2, 9), (0, (v5 - 13)), (9, 0)]) (st' := [(2, 9), (0, (v5 - 13)), (2, 12)]) (by decide +kernel) rfl ?_
          refine zwW_gs C.1 (kd := 7) (bn := 6) (n := 9) (t := 0) (lo := 0) (hi := 400) (nx := 50) (by decide +kernel) ?_
          intro v11 ev11 lv11 uv11
          refine zwW_as C.1 (a1 := 12) (a2 := 12) (n := 5) (lo := -2147483648) (hi := 2147483647) (nx := 51) (by decide +kernel) (by first | decide | exact ⟨by decide, by decide⟩) ib1 (by first | omega | exact ⟨by omega, by omega⟩) ?_
          intro h12 eh12 Ih12
          have Ch12 : CI h12 := C.wc eh12 Ih12 (by decide) (by decide)
          have Qh12 : zXR [(12, 12, 0, 5)] 0 0 h h12 := zXR.wc eh12 rfl ⟨by decide, by decide, Or.inl (by decide)⟩ (by first | omega | exact ⟨by omega, by omega⟩)
          have RQ50 : rQ t n h12 s := Q0.fr Qh12 (by decide +kernel)
          have G50 : rGb (zu b (pV t n s.1 - 13).toNat s.2.1) h12 := G.wt (by rw [eh12, ← VX, show v11 = ((s.2.1 : Nat) : Int) by have z := Q0.2.1; omega]) (C.1.s (a1 := 12) (a2 := 12) (k := 20) (n := 5) (by decide +kernel) (by decide) (by decide)) (by omega)
          have Xh12 : zXR msx199_q (0) (0) h h12 := X.tr (c2 := 0) (s2 := 0) Qh12 (by decide +kernel) (by decide) (by decide)
          have th12_9_6 : fld h12 9 6 = fld h 9 6 := Qh12.f (a1 := 9) (a2 := 9) (j1 := 6) (j2 := 7) (by decide +kernel) (by first | decide | exact ⟨by decide, by decide⟩) (by first | decide | exact ⟨by decide, by decide⟩) (by first | decide | exact ⟨by decide, by decide⟩)
          have Bh12 : rB t n h12 := B.fr Qh12 (by decide +kernel)
          refine zwW_p [(1, 0, 2)] (q := 52) (ls' := [(2, 9), (0, (v5 - 13)), (9, 0)]) (st' := [(2, 9)]) (by decide +kernel) rfl ?_
          refine zwW_cm Ch12.1 (op := 60) (k' := 198) (n := 0) (kd := 7) (m := 9) (nx := 55) (r := 9) (tl := []) (st' := []) (by decide +kernel) rfl (by decide +kernel) rfl (x198_q h12 Ch12 t n s Bh12 (RQ50) (W0).2) ?_
          rintro x h14 ⟨Ch14, Qh14, rfl, f13⟩
          have Xh14 : zXR msx199_q (0) (0) h h14 := Xh12.tr (c2 := 0) (s2 := 0) Qh14 (by decide +kernel) (by decide) (by decide)
          have th14_9_6 : fld h14 9 6 = fld h12 9 6 := Qh14.f (a1 := 9) (a2 := 9) (j1 := 6) (j2 := 7) (by decide +kernel) (by first | decide | exact ⟨by decide, by decide⟩) (by first | decide | exact ⟨by decide, by decide⟩) (by first | decide | exact ⟨by decide, by decide⟩)
          have Bh14 : rB t n h14 := Bh12.fr Qh14 (by decide +kernel)
          have Gh14 := G50.fr Qh14 (by decide +kernel)
          have Vh14 : rV n (pA t n s) := (W0).a (by omega)
          refine zwW_p [(15, 0, 0)] (q := 56) (ls' := [(2, 9), (0, (v5 - 13)), (9, 0)]) (st' := []) (by decide +kernel) rfl ?_
          refine zwW_p [(1, 1, 0), (0, 3, 0)] (q := 58) (ls' := [(2, 9), (0, (v5 - 13)), (9, 0)]) (st' := [(0, 3), (0, (v5 - 13))]) (by decide +kernel) rfl ?_
          refine zwic_ge (q := 69) (nx := 61) (by decide +kernel) (fun c15 => ?_) (fun c15 => ?_)
          · refine zwW_p [(1, 0, 2), (0, 0, 0)] (q := 71) (ls' := [(2, 9), (0, (v5 - 13)), (9, 0)]) (st' := [(0, 0), (2, 9)]) (by decide +kernel) rfl ?_
            refine zwW_cm Ch14.1 (op := 60) (k' := 242) (n := 1) (kd := 7) (m := 9) (nx := 74) (r := 9) (tl := [(0, 0)]) (st' := []) (by decide +kernel) rfl (by decide +kernel) rfl (zr_either sc h14 Ch14 t n (pA t n s) Bh14 (f13) Vh14.wk) ?_
            rintro v18 h19 ⟨Ch19, Qh19, f16, f17⟩
            have Xh19 : zXR msx199_q (0) (0) h h19 := Xh14.tr (c2 := 0) (s2 := 0) Qh19 (by decide +kernel) (by decide) (by decide)
            have Bh19 : rB t n h19 := Bh14.fr Qh19 (by decide +kernel)
            have Gh19 := Gh14.fr Qh19 (by decide +kernel)
            have S71 := f17
            have Vh19 : rV n ((pEi t n 8) (pA t n s)).2 := (Vh14).fn (pG_ei 8)
            have SB : rR t n h19 v18 (pBo t n s) := by unfold pBo pCb; first | (rw [if_pos (by omega)]; exact S63) | (rw [if_neg (by omega)]; exact S71)
            have VB : rV n (pBo t n s).2 := (Vh14).fn (pG_cb (t := t) (pV t n s.1 - 13))
            refine zwW_p [(2, 2, 0)] (q := 75) (ls' := [(2, 9), (0, (v5 - 13)), (0, v18)]) (st' := []) (by decide +kernel) rfl ?_
            refine zwW_p [(1, 2, 0)] (q := 76) (ls' := [(2, 9), (0, (v5 - 13)), (0, v18)]) (st' := [(0, v18)]) (by decide +kernel) rfl ?_
            refine zwif_eq (q := 108) (nx := 79) (by decide +kernel) (fun c20 => ?_) (fun c20 => ?_)
            · refine zwW_p [(0, 0, 0)] (q := 109) (ls' := [(2, 9), (0, (v5 - 13)), (0, v18)]) (st' := [(0, 0)]) (by decide +kernel) rfl ?_
              refine zwW_ret (nx := 110) (a := 1) (b := 0) (by decide +kernel) rfl (Or.inr (Or.inl ⟨rfl, Or.inl rfl⟩)) ?_
              refine ⟨Ch19, Xh19.le (by decide) (by decide), by omega, ?_⟩
              first
              | (rw [pCls_no (fun z => by obtain ⟨z1, z2, z3, z4⟩ := z; omega)]; exact rC_f Q0 W0 Gh19)
              | (rw [pCls_f CC (SB.b0 (by omega))]; exact rC_f SB.1 VB.wk Gh19)
              | (rw [pCls_s CC (SB.b1 (by omega)) (by omega)]; exact rC_f SB.1 VB.wk Gh19)
              | (rw [pCls_t CC (SB.b1 (by omega)) (by omega)]; exact rC_t SB.1 (VB.wk) Gh19)
            · refine zwW_p [(1, 0, 2)] (q := 80) (ls' := [(2, 9), (0, (v5 - 13)), (0, v18)]) (st' := [(2, 9)]) (by decide +kernel) rfl ?_
              refine zwW_gs Ch19.1 (kd := 7) (bn := 4) (n := 9) (t := 0) (lo := -2147483648) (hi := 2147483647) (nx := 83) (by decide +kernel) ?_
              intro v21 ev21 lv21 uv21
              have kv21 : v21 = pK t n (pBo t n s).2.1 := ev21.trans (SB.1).kd
              refine zwW_p [(0, 59, 0)] (q := 85) (ls' := [(2, 9), (0, (v5 - 13)), (0, v18)]) (st' := [(0, 59), (0, v21)]) (by decide +kernel) rfl ?_
              refine zwic_ne (q := 108) (nx := 88) (by decide +kernel) (fun c22 => ?_) (fun c22 => ?_)
              · refine zwW_p [(0, 0, 0)] (q := 109) (ls' := [(2, 9), (0, (v5 - 13)), (0, v18)]) (st' := [(0, 0)]) (by decide +kernel) rfl ?_
                refine zwW_ret (nx := 110) (a := 1) (b := 0) (by decide +kernel) rfl (Or.inr (Or.inl ⟨rfl, Or.inl rfl⟩)) ?_
                refine ⟨Ch19, Xh19.le (by decide) (by decide), by omega, ?_⟩
                first
                | (rw [pCls_no (fun z => by obtain ⟨z1, z2, z3, z4⟩ := z; omega)]; exact rC_f Q0 W0 Gh19)
                | (rw [pCls_f CC (SB.b0 (by omega))]; exact rC_f SB.1 VB.wk Gh19)
                | (rw [pCls_s CC (SB.b1 (by omega)) (by omega)]; exact rC_f SB.1 VB.wk Gh19)
                | (rw [pCls_t CC (SB.b1 (by omega)) (by omega)]; exact rC_t SB.1 (VB.wk) Gh19)
              · refine zwW_p [(1, 0, 2)] (q := 89) (ls' := [(2, 9), (0, (v5 - 13)), (0, v18)]) (st' := [(2, 9)]) (by decide +kernel) rfl ?_
                refine zwW_cm Ch19.1 (op := 60) (k' := 198) (n := 0) (kd := 7) (m := 9) (nx := 92) (r := 9) (tl := []) (st' := []) (by decide +kernel) rfl (by decide +kernel) rfl (x198_q h19 Ch19 t n (pBo t n s).2 Bh19 (SB.1) (VB.wk).2) ?_
                rintro x h24 ⟨Ch24, Qh24, rfl, f23⟩
                have Xh24 : zXR msx199_q (0) (0) h h24 := Xh19.tr (c2 := 0) (s2 := 0) Qh24 (by decide +kernel) (by decide) (by decide)
                have th24_9_6 : fld h24 9 6 = fld h19 9 6 := Qh24.f (a1 := 9) (a2 := 9) (j1 := 6) (j2 := 7) (by decide +kernel) (by first | decide | exact ⟨by decide, by decide⟩) (by first | decide | exact ⟨by decide, by decide⟩) (by first | decide | exact ⟨by decide, by decide⟩)
                have Bh24 : rB t n h24 := Bh19.fr Qh24 (by decide +kernel)
                have Gh24 := Gh19.fr Qh24 (by decide +kernel)
                have Vh24 : rV n (pA t n ((pBo t n s).2)) := (VB.wk).a (by omega)
                refine zwif_eq (q := 108) (nx := 95) (by decide +kernel) (fun c25 => ?_) (fun c25 => ?_)
                · exfalso; omega
                · refine zwW_p [(1, 0, 2), (0, -21, 0)] (q := 98) (ls' := [(2, 9), (0, (v5 - 13)), (0, v18)]) (st' := [(0, -21), (2, 9)]) (by decide +kernel) rfl ?_
                  refine zwW_cm Ch24.1 (op := 60) (k' := 243) (n := 1) (kd := 7) (m := 9) (nx := 101) (r := 9) (tl := [(0, -21)]) (st' := []) (by decide +kernel) rfl (by decide +kernel) rfl (x243_q h24 Ch24 (-21) t n (pA t n ((pBo t n s).2)) (by omega) f23 ((Vh24).lt Bh24 f23)) ?_
                  rintro x h27 ⟨Ch27, Qh27, rfl, f26⟩
                  have Xh27 : zXR msx199_q (0) (0) h h27 := Xh24.tr (c2 := 0) (s2 := 0) Qh27 (by decide +kernel) (by decide) (by decide)
                  have Bh27 : rB t n h27 := Bh24.fr Qh27 (by decide +kernel)
                  have Gh27 := Gh24.fr Qh27 (by decide +kernel)
                  refine zwif_eq (q := 108) (nx := 104) (by decide +kernel) (fun c28 => ?_) (fun c28 => ?_)
                  · exfalso; omega
                  · refine zwW_p [(0, 1, 0), (24, 109, 0)] (q := 109) (ls' := [(2, 9), (0, (v5 - 13)), (0, v18)]) (st' := [(0, 1)]) (by decide +kernel) rfl ?_
                    refine zwW_ret (nx := 110) (a := 1) (b := 0) (by decide +kernel) rfl (Or.inr (Or.inl ⟨rfl, Or.inr rfl⟩)) ?_
                    refine ⟨Ch27, Xh27.le (by decide) (by decide), by omega, ?_⟩
                    first
                    | (rw [pCls_no (fun z => by obtain ⟨z1, z2, z3, z4⟩ := z; omega)]; exact rC_f Q0 W0 Gh27)
                    | (rw [pCls_f CC (SB.b0 (by omega))]; exact rC_f SB.1 VB.wk Gh27)
                    | (rw [pCls_s CC (SB.b1 (by omega)) (by omega)]; exact rC_f SB.1 VB.wk Gh27)
                    | (rw [pCls_t CC (SB.b1 (by omega)) (by omega)]; exact rC_t f26 ((Vh24).pw) Gh27)
          · refine zwW_p [(1, 0, 2), (0, 0, 0)] (q := 63) (ls' := [(2, 9), (0, (v5 - 13)), (9, 0)]) (st' := [(0, 0), (2, 9)]) (by decide +kernel) rfl ?_
            refine zwW_cm Ch14.1 (op := 60) (k' := 241) (n := 1) (kd := 7) (m := 9) (nx := 66) (r := 9) (tl := [(0, 0)]) (st' := []) (by decide +kernel) rfl (by decide +kernel) rfl (zr_sum sc h14 Ch14 t n (pA t n s) Bh14 (f13) Vh14.wk) ?_
            rintro v31 h32 ⟨Ch32, Qh32, f29, f30⟩
            have Xh32 : zXR msx199_q (0) (0) h h32 := Xh14.tr (c2 := 0) (s2 := 0) Qh32 (by decide +kernel) (by decide) (by decide)
            have Bh32 : rB t n h32 := Bh14.fr Qh32 (by decide +kernel)
            have Gh32 := Gh14.fr Qh32 (by decide +kernel)
            have S63 := f30
            have Vh32 : rV n ((pSum t n 8) (pA t n s)).2 := (Vh14).fn (pG_sum 8)
            refine zwW_p [(24, 74, 0)] (q := 74) (ls' := [(2, 9), (0, (v5 - 13)), (9, 0)]) (st' := [(0, v31)]) (by decide +kernel) rfl ?_
            have SB : rR t n h32 v31 (pBo t n s) := by unfold pBo pCb; first | (rw [if_pos (by omega)]; exact S63) | (rw [if_neg (by omega)]; exact S71)
            have VB : rV n (pBo t n s).2 := (Vh14).fn (pG_cb (t := t) (pV t n s.1 - 13))
            refine zwW_p [(2, 2, 0)] (q := 75) (ls' := [(2, 9), (0, (v5 - 13)), (0, v31)]) (st' := []) (by decide +kernel) rfl ?_
            refine zwW_p [(1, 2, 0)] (q := 76) (ls' := [(2, 9), (0, (v5 - 13)), (0, v31)]) (st' := [(0, v31)]) (by decide +kernel) rfl ?_
            refine zwif_eq (q := 108) (nx := 79) (by decide +kernel) (fun c33 => ?_) (fun c33 => ?_)
            · refine zwW_p [(0, 0, 0)] (q := 109) (ls' := [(2, 9), (0, (v5 - 13)), (0, v31)]) (st' := [(0, 0)]) (by decide +kernel) rfl ?_
              refine zwW_ret (nx := 110) (a := 1) (b := 0) (by decide +kernel) rfl (Or.inr (Or.inl ⟨rfl, Or.inl rfl⟩)) ?_
              refine ⟨Ch32, Xh32.le (by decide) (by decide), by omega, ?_⟩
              first
              | (rw [pCls_no (fun z => by obtain ⟨z1, z2, z3, z4⟩ := z; omega)]; exact rC_f Q0 W0 Gh32)
              | (rw [pCls_f CC (SB.b0 (by omega))]; exact rC_f SB.1 VB.wk Gh32)
              | (rw [pCls_s CC (SB.b1 (by omega)) (by omega)]; exact rC_f SB.1 VB.wk Gh32)
              | (rw [pCls_t CC (SB.b1 (by omega)) (by omega)]; exact rC_t SB.1 (VB.wk) Gh32)
            · refine zwW_p [(1, 0, 2)] (q := 80) (ls' := [(2, 9), (0, (v5 - 13)), (0, v31)]) (st' := [(2, 9)]) (by decide +kernel) rfl ?_
              refine zwW_gs Ch32.1 (kd := 7) (bn := 4) (n := 9) (t := 0) (lo := -2147483648) (hi := 2147483647) (nx := 83) (by decide +kernel) ?_
              intro v34 ev34 lv34 uv34
              have kv34 : v34 = pK t n (pBo t n s).2.1 := ev34.trans (SB.1).kd
              refine zwW_p [(0, 59, 0)] (q := 85) (ls' := [(2, 9), (0, (v5 - 13)), (0, v31)]) (st' := [(0, 59), (0, v34)]) (by decide +kernel) rfl ?_
              refine zwic_ne (q := 108) (nx := 88) (by decide +kernel) (fun c35 => ?_) (fun c35 => ?_)
              · refine zwW_p [(0, 0, 0)] (q := 109) (ls' := [(2, 9), (0, (v5 - 13)), (0, v31)]) (st' := [(0, 0)]) (by decide +kernel) rfl ?_
                refine zwW_ret (nx := 110) (a := 1) (b := 0) (by decide +kernel) rfl (Or.inr (Or.inl ⟨rfl, Or.inl rfl⟩)) ?_
                refine ⟨Ch32, Xh32.le (by decide) (by decide), by omega, ?_⟩
                first
                | (rw [pCls_no (fun z => by obtain ⟨z1, z2, z3, z4⟩ := z; omega)]; exact rC_f Q0 W0 Gh32)
                | (rw [pCls_f CC (SB.b0 (by omega))]; exact rC_f SB.1 VB.wk Gh32)
                | (rw [pCls_s CC (SB.b1 (by omega)) (by omega)]; exact rC_f SB.1 VB.wk Gh32)
                | (rw [pCls_t CC (SB.b1 (by omega)) (by omega)]; exact rC_t SB.1 (VB.wk) Gh32)
              · refine zwW_p [(1, 0, 2)] (q := 89) (ls' := [(2, 9), (0, (v5 - 13)), (0, v31)]) (st' := [(2, 9)]) (by decide +kernel) rfl ?_
                refine zwW_cm Ch32.1 (op := 60) (k' := 198) (n := 0) (kd := 7) (m := 9) (nx := 92) (r := 9) (tl := []) (st' := []) (by decide +kernel) rfl (by decide +kernel) rfl (x198_q h32 Ch32 t n (pBo t n s).2 Bh32 (SB.1) (VB.wk).2) ?_
                rintro x h37 ⟨Ch37, Qh37, rfl, f36⟩
                have Xh37 : zXR msx199_q (0) (0) h h37 := Xh32.tr (c2 := 0) (s2 := 0) Qh37 (by decide +kernel) (by decide) (by decide)
                have th37_9_6 : fld h37 9 6 = fld h32 9 6 := Qh37.f (a1 := 9) (a2 := 9) (j1 := 6) (j2 := 7) (by decide +kernel) (by first | decide | exact ⟨by decide, by decide⟩) (by first | decide | exact ⟨by decide, by decide⟩) (by first | decide | exact ⟨by decide, by decide⟩)
                have Bh37 : rB t n h37 := Bh32.fr Qh37 (by decide +kernel)
                have Gh37 := Gh32.fr Qh37 (by decide +kernel)
                have Vh37 : rV n (pA t n ((pBo t n s).2)) := (VB.wk).a (by omega)
                refine zwif_eq (q := 108) (nx := 95) (by decide +kernel) (fun c38 => ?_) (fun c38 => ?_)
                · exfalso; omega
                · refine zwW_p [(1, 0, 2), (0, -21, 0)] (q := 98) (ls' := [(2, 9), (0, (v5 - 13)), (0, v31)]) (st' := [(0, -21), (2, 9)]) (by decide +kernel) rfl ?_
                  refine zwW_cm Ch37.1 (op := 60) (k' := 243) (n := 1) (kd := 7) (m := 9) (nx := 101) (r := 9) (tl := [(0, -21)]) (st' := []) (by decide +kernel) rfl (by decide +kernel) rfl (x243_q h37 Ch37 (-21) t n (pA t n ((pBo t n s).2)) (by omega) f36 ((Vh37).lt Bh37 f36)) ?_
                  rintro x h40 ⟨Ch40, Qh40, rfl, f39⟩
                  have Xh40 : zXR msx199_q (0) (0) h h40 := Xh37.tr (c2 := 0) (s2 := 0) Qh40 (by decide +kernel) (by decide) (by decide)
                  have Bh40 : rB t n h40 := Bh37.fr Qh40 (by decide +kernel)
                  have Gh40 := Gh37.fr Qh40 (by decide +kernel)
                  refine zwif_eq (q := 108) (nx := 104) (by decide +kernel) (fun c41 => ?_) (fun c41 => ?_)
                  · exfalso; omega
                  · refine zwW_p [(0, 1, 0), (24, 109, 0)] (q := 109) (ls' := [(2, 9), (0, (v5 - 13)), (0, v31)]) (st' := [(0, 1)]) (by decide +kernel) rfl ?_
                    refine zwW_ret (nx := 110) (a := 1) (b := 0) (by decide +kernel) rfl (Or.inr (Or.inl ⟨rfl, Or.inr rfl⟩)) ?_
                    refine ⟨Ch40, Xh40.le (by decide) (by decide), by omega, ?_⟩
                    first
                    | (rw [pCls_no (fun z => by obtain ⟨z1, z2, z3, z4⟩ := z; omega)]; exact rC_f Q0 W0 Gh40)
                    | (rw [pCls_f CC (SB.b0 (by omega))]; exact rC_f SB.1 VB.wk Gh40)
                    | (rw [pCls_s CC (SB.b1 (by omega)) (by omega)]; exact rC_f SB.1 VB.wk Gh40)
                    | (rw [pCls_t CC (SB.b1 (by omega)) (by omega)]; exact rC_t f39 ((Vh37).pw) Gh40)
        · refine zwW_p [(0, 0, 0)] (q := 40) (ls' := [(2, 9), (0, (v5 - 13)), (9, 0)]) (st' := [(0, 0)]) (by decide +kernel) rfl ?_
          refine zwW_ret (nx := 41) (a := 1) (b := 0) (by decide +kernel) rfl (Or.inr (Or.inl ⟨rfl, Or.inl rfl⟩)) ?_
          refine ⟨C, X.le (by decide) (by decide), by omega, ?_⟩
          first
          | (rw [pCls_no (fun z => by obtain ⟨z1, z2, z3, z4⟩ := z; omega)]; exact rC_f Q0 W0 G)
          | (rw [pCls_f CC (SB.b0 (by omega))]; exact rC_f SB.1 VB.wk G)
          | (rw [pCls_s CC (SB.b1 (by omega)) (by omega)]; exact rC_f SB.1 VB.wk G)
          | (rw [pCls_t CC (SB.b1 (by omega)) (by omega)]; exact rC_t Q0 (W0) G)
def msx120_q : Zms := [(9, 9, 2, 7), (11, 11, 0, 400), (12, 12, 0, 5)]
-- WheelLand$Reader.read()I
theorem x120_q {sc : List Int} (h : Hp) (C : CI h) (t : pT) (n : Nat) (c : Nat → Int) (B : rB t n h) (hc : fld h 11 = c) : zwC sc 232 120 [(2, 9)] h (zwRt 0 (fun x g => CI g ∧ zXR msx120_q (0) (0) h g ∧ (-2147483648 ≤ x ∧ x ≤ 2147483647) ∧ (x = pFa t n c) ∧ (fld g 11 = (pRead t n c).2.1.2.2 ∧ fld g 9 6 = (((pRead t n c).2.1.2.1 : Nat) : Int) ∧ rGb (pRead t n c).2.2 g))) := by
  refine zwC_of (D := 231) 2 (by decide +kernel) rfl (ls := [(2, 9), (9, 0)]) rfl ?_
  have X : zXR msx120_q 0 0 h h := zXR.rf _ _
  refine zwW_p [(1, 0, 2), (0, 0, 0)] (q := 2) (ls' := [(2, 9), (9, 0)]) (st' := [(0, 0), (2, 9)]) (by decide +kernel) rfl ?_
  refine zwW_ps C.1 (kd := 7) (bn := 2) (n := 9) (lo := 0) (hi := 400) (nx := 5) (by decide +kernel) (by first | decide | exact ⟨by decide, by decide⟩) ?_
  intro h1 eh1 Ih1
  have Ch1 : CI h1 := C.wc eh1 Ih1 (by decide) (by decide)
  have Qh1 : zXR [(9, 9, 2, 3)] 0 0 h h1 := zXR.wc eh1 rfl ⟨by decide, by decide, Or.inl (by decide)⟩ (by first | decide | exact ⟨by decide, by decide⟩)
  have Xh1 : zXR msx120_q (0) (0) h h1 := X.tr (c2 := 0) (s2 := 0) Qh1 (by decide +kernel) (by decide) (by decide)
  have kh1_11 : fld h1 11 = (fld h 11) := (Qh1.fa (a := 11) (by decide +kernel) (by decide)).trans (rfl : fld h 11 = fld h 11)
  have th1_9_6 : fld h1 9 6 = fld h 9 6 := Qh1.f (a1 := 9) (a2 := 9) (j1 := 6) (j2 := 7) (by decide +kernel) (by first | decide | exact ⟨by decide, by decide⟩) (by first | decide | exact ⟨by decide, by decide⟩) (by first | decide | exact ⟨by decide, by decide⟩)
  have Bh1 : rB t n h1 := B.fr Qh1 (by decide +kernel)
  have th1_9_2 : fld h1 9 2 = 0 := by rw [eh1]; exact fld_wr_eq (C.1.s (a1 := 9) (a2 := 9) (k := 7) (n := 9) (by decide +kernel) (by decide) (by decide)) (by decide)
  refine zwW_p [(1, 0, 2), (0, 0, 0)] (q := 7) (ls' := [(2, 9), (9, 0)]) (st' := [(0, 0), (2, 9)]) (by decide +kernel) rfl ?_
  refine zwW_ps Ch1.1 (kd := 7) (bn := 6) (n := 9) (lo := 0) (hi := 400) (nx := 10) (by decide +kernel) (by first | decide | exact ⟨by decide, by decide⟩) ?_
  intro h2 eh2 Ih2
  have Ch2 : CI h2 := Ch1.wc eh2 Ih2 (by decide) (by decide)
  have Qh2 : zXR [(9, 9, 6, 7)] 0 0 h1 h2 := zXR.wc eh2 rfl ⟨by decide, by decide, Or.inl (by decide)⟩ (by first | decide | exact ⟨by decide, by decide⟩)
  have Xh2 : zXR msx120_q (0) (0) h h2 := Xh1.tr (c2 := 0) (s2 := 0) Qh2 (by decide +kernel) (by decide) (by decide)
  have kh2_11 : fld h2 11 = (fld h 11) := (Qh2.fa (a := 11) (by decide +kernel) (by decide)).trans kh1_11
  have th2_9_2 : fld h2 9 2 = fld h1 9 2 := Qh2.f (a1 := 9) (a2 := 9) (j1 := 2) (j2 := 3) (by decide +kernel) (by first | decide | exact ⟨by decide, by decide⟩) (by first | decide | exact ⟨by decide, by decide⟩) (by first | decide | exact ⟨by decide, by decide⟩)
  have Bh2 : rB t n h2 := Bh1.fr Qh2 (by decide +kernel)
  have th2_9_6 : fld h2 9 6 = 0 := by rw [eh2]; exact fld_wr_eq (Ch1.1.s (a1 := 9) (a2 := 9) (k := 7) (n := 9) (by decide +kernel) (by decide) (by decide)) (by decide)
  refine zwW_p [(1, 0, 2)] (q := 11) (ls' := [(2, 9), (9, 0)]) (st' := [(2, 9)]) (by decide +kernel) rfl ?_
  refine zwW_gc Ch2.1 (kd := 7) (bn := 8) (n := 9) (c := 12) (nx := 14) (by decide +kernel) ?_
  refine zwW_p [(0, -1, 0)] (q := 15) (ls' := [(2, 9), (9, 0)]) (st' := [(0, -1), (2, 12)]) (by decide +kernel) rfl ?_
  refine zwW_csv (k' := 180) (n := 2) (nx := 18) (as := [(2, 12), (0, -1)]) (st' := []) (by decide +kernel) rfl (x180_12 Ch2 (by first | omega | exact ⟨by omega, by omega⟩)) rfl ?_
  rintro h3 ⟨Ch3, Qh3, fh3⟩
  have G15 : rGb (fun _ => -1) h3 := fun c hc => fh3 c hc
  have Xh3 : zXR msx120_q (0) (0) h h3 := Xh2.tr (c2 := 0) (s2 := 0) Qh3 (by decide +kernel) (by decide) (by decide)
  have kh3_11 : fld h3 11 = (fld h 11) := (Qh3.fa (a := 11) (by decide +kernel) (by decide)).trans kh2_11
  have th3_9_2 : fld h3 9 2 = fld h2 9 2 := Qh3.f (a1 := 9) (a2 := 9) (j1 := 2) (j2 := 3) (by decide +kernel) (by first | decide | exact ⟨by decide, by decide⟩) (by first | decide | exact ⟨by decide, by decide⟩) (by first | decide | exact ⟨by decide, by decide⟩)
  have th3_9_6 : fld h3 9 6 = fld h2 9 6 := Qh3.f (a1 := 9) (a2 := 9) (j1 := 6) (j2 := 7) (by decide +kernel) (by first | decide | exact ⟨by decide, by decide⟩) (by first | decide | exact ⟨by decide, by decide⟩) (by first | decide | exact ⟨by decide, by decide⟩)
  have Bh3 : rB t n h3 := Bh2.fr Qh3 (by decide +kernel)
  refine zwW_p [(1, 0, 2)] (q := 19) (ls' := [(2, 9), (9, 0)]) (st' := [(2, 9)]) (by decide +kernel) rfl ?_
  refine zwW_cm Ch3.1 (op := 60) (k' := 198) (n := 0) (kd := 7) (m := 9) (nx := 22) (r := 9) (tl := []) (st' := []) (by decide +kernel) rfl (by decide +kernel) rfl (x198_p h3 Ch3 t n 0 Bh3 (by omega) (Nat.zero_le _)) ?_
  rintro x h5 ⟨Ch5, Qh5, rfl, f4⟩
  have kh5_11 : fld h5 11 = (fld h 11) := (Qh5.fa (a := 11) (by decide +kernel) (by decide)).trans kh3_11
  have Xh5 : zXR msx120_q (0) (0) h h5 := Xh3.tr (c2 := 0) (s2 := 0) Qh5 (by decide +kernel) (by decide) (by decide)
  have th5_9_6 : fld h5 9 6 = fld h3 9 6 := Qh5.f (a1 := 9) (a2 := 9) (j1 := 6) (j2 := 7) (by decide +kernel) (by first | decide | exact ⟨by decide, by decide⟩) (by first | decide | exact ⟨by decide, by decide⟩) (by first | decide | exact ⟨by decide, by decide⟩)
  have Bh5 : rB t n h5 := Bh3.fr Qh5 (by decide +kernel)
  have G19 := G15.fr Qh5 (by decide +kernel)
  have Q19 : rQ t n h5 (pSk t n 0, 0, c) := ⟨f4, by show fld h5 9 6 = ((0 : Nat) : Int); omega, kh5_11.trans hc⟩
  have W19 : rW n (pSk t n 0, 0, c) := ⟨Nat.zero_le _, f4.2.1⟩
  refine zwW_p [(15, 0, 0), (0, 0, 0), (2, 1, 0)] (q := 25) (ls' := [(2, 9), (0, 0)]) (st' := []) (by decide +kernel) rfl ?_
  have L6 : ∀ (n0 : Nat) (kL6 : Int) (hL6 : Hp), n0 = ((1000 - kL6)).toNat → (rB t n hL6) → (rD t n hL6 (400 - (kL6).toNat) (pRead t n c)) → (0 ≤ kL6 ∧ kL6 ≤ 400) → CI hL6 → zXR msx120_q (0) (0) h hL6 → zwW sc (231) 120 25 [(2, 9), (0, kL6)] [] hL6 (zwRt 0 (fun x g => CI g ∧ zXR msx120_q (0) (0) h g ∧ (-2147483648 ≤ x ∧ x ≤ 2147483647) ∧ (x = pFa t n c) ∧ (fld g 11 = (pRead t n c).2.1.2.2 ∧ fld g 9 6 = (((pRead t n c).2.1.2.1 : Nat) : Int) ∧ rGb (pRead t n c).2.2 g))) := by
    intro n0
    induction n0 using Nat.strongRecOn with
    | ind n0 IHL6 =>
      intro kL6 hL6 hnL6 iL6_0 iL6_1 iL6_2 ChL6 XhL6
      obtain ⟨qL, bL, QL, WL, GL, TL⟩ := iL6_1
      refine zwW_p [(1, 1, 0), (0, 400, 0)] (q := 29) (ls' := [(2, 9), (0, kL6)]) (st' := [(0, 400), (0, kL6)]) (by decide +kernel) rfl ?_
      refine zwic_ge (q := 57) (nx := 32) (by decide +kernel) (fun c7 => ?_) (fun c7 => ?_)
      · refine zwW_p [(0, -1, 0)] (q := 58) (ls' := [(2, 9), (0, kL6)]) (st' := [(0, -1)]) (by decide +kernel) rfl ?_
        refine zwW_ret (nx := 59) (a := 0) (b := 0) (by decide +kernel) rfl (Or.inl rfl) ?_
        have TE : pRead t n c = (true, qL, bL) := by rw [TL]; exact pRd_z (by omega)
        refine ⟨ChL6, XhL6.le (by decide) (by decide), by omega, by rw [pFa_t (by rw [TE])], ?_⟩
        rw [TE]
        exact ⟨QL.2.2, QL.2.1, GL⟩
      · refine zwW_p [(1, 0, 2)] (q := 33) (ls' := [(2, 9), (0, kL6)]) (st' := [(2, 9)]) (by decide +kernel) rfl ?_
        refine zwW_gs ChL6.1 (kd := 7) (bn := 4) (n := 9) (t := 0) (lo := -2147483648) (hi := 2147483647) (nx := 36) (by decide +kernel) ?_
        intro v8 ev8 lv8 uv8
        have kv8 : v8 = pK t n qL.1 := ev8.trans (QL).kd
        refine zwif_eq (q := 57) (nx := 39) (by decide +kernel) (fun c9 => ?_) (fun c9 => ?_)
        · refine zwW_p [(0, -1, 0)] (q := 58) (ls' := [(2, 9), (0, kL6)]) (st' := [(0, -1)]) (by decide +kernel) rfl ?_
          refine zwW_ret (nx := 59) (a := 0) (b := 0) (by decide +kernel) rfl (Or.inl rfl) ?_
          have TE : pRead t n c = (true, qL, bL) := by rw [TL]; exact pRd_z (by omega)
          refine ⟨ChL6, XhL6.le (by decide) (by decide), by omega, by rw [pFa_t (by rw [TE])], ?_⟩
          rw [TE]
          exact ⟨QL.2.2, QL.2.1, GL⟩
        · refine zwW_p [(1, 0, 2)] (q := 40) (ls' := [(2, 9), (0, kL6)]) (st' := [(2, 9)]) (by decide +kernel) rfl ?_
          refine zwW_cm ChL6.1 (op := 60) (k' := 199) (n := 0) (kd := 7) (m := 9) (nx := 43) (r := 9) (tl := []) (st' := []) (by decide +kernel) rfl (by decide +kernel) rfl (x199_q hL6 ChL6 t n qL bL iL6_0 QL WL GL) ?_
          rintro v12 h13 ⟨Ch13, Qh13, f10, f11⟩
          have Xh13 : zXR msx120_q (0) (0) h h13 := XhL6.tr (c2 := 0) (s2 := 0) Qh13 (by decide +kernel) (by decide) (by decide)
          have Bh13 : rB t n h13 := iL6_0.fr Qh13 (by decide +kernel)
          have S40 := f11
          refine zwif_ne (q := 51) (nx := 46) (by decide +kernel) (fun c14 => ?_) (fun c14 => ?_)
          · have LB : rD t n h13 (399 - (kL6).toNat) (pRead t n c) := ⟨_, _, S40.1, S40.2.1, S40.2.2.1, by rw [TL]; exact pRd_n (k := 399 - (kL6).toNat) (by omega) (by omega) (S40.b1 (by omega))⟩
            refine zwW_inc (i := 1) (c := 1) (x := kL6) (nx := 54) (by decide +kernel) rfl (by first | omega | exact ⟨by omega, by omega⟩) (ls' := [(2, 9), (0, (kL6 + 1))]) rfl ?_
            refine zwW_p [(24, 25, 0)] (q := 25) (ls' := [(2, 9), (0, (kL6 + 1))]) (st' := []) (by decide +kernel) rfl ?_
            exact IHL6 ((1000 - (kL6 + 1))).toNat (by omega) (kL6 + 1) h13 rfl (Bh13) (by rw [show 400 - (kL6 + 1).toNat = 399 - (kL6).toNat by omega]; exact LB) (by omega) Ch13 (Xh13.le (by decide) (by decide))
          · refine zwW_p [(1, 0, 2)] (q := 47) (ls' := [(2, 9), (0, kL6)]) (st' := [(2, 9)]) (by decide +kernel) rfl ?_
            refine zwW_gs Ch13.1 (kd := 7) (bn := 3) (n := 9) (t := 0) (lo := 0) (hi := 400) (nx := 50) (by decide +kernel) ?_
            intro v15 ev15 lv15 uv15
            refine zwW_ret (nx := 51) (a := 0) (b := 0) (by decide +kernel) rfl (Or.inl rfl) ?_
            have TE : pRead t n c = pCls t n qL bL := by rw [TL]; exact pRd_f (k := 399 - (kL6).toNat) (by omega) (by omega) (S40.b0 (by omega))
            have TF : ¬ (pCls t n qL bL).1 = true := S40.b0 (by omega)
            have TP := S40.1.1.1
            refine ⟨Ch13, Xh13.le (by decide) (by decide), by omega, by rw [pFa_f (by rw [TE]; exact TF), TE]; omega, ?_⟩
            rw [TE]
            exact ⟨S40.1.2.2, S40.1.2.1, S40.2.2.1⟩
  exact L6 _ 0 h5 rfl (Bh5) (⟨_, _, Q19, W19, G19, rfl⟩) (by omega) Ch5 (Xh5.le (by decide) (by decide))
def msx27_q : Zms := [(9, 9, 2, 7), (11, 11, 0, 400), (12, 12, 0, 5)]
-- WheelLand.fault()I
theorem x27_q {sc : List Int} (h : Hp) (C : CI h) (t : pT) (n : Nat) (c : Nat → Int) (B : rB t n h) (hc : fld h 11 = c) : zwC sc 233 27 [(2, 1)] h (zwRt 0 (fun x g => CI g ∧ zXR msx27_q (0) (0) h g ∧ (-2147483648 ≤ x ∧ x ≤ 2147483647) ∧ (x = pFa t n c))) := by
  refine zwC_of (D := 232) 1 (by decide +kernel) rfl (ls := [(2, 1)]) rfl ?_
  have X : zXR msx27_q 0 0 h h := zXR.rf _ _
  refine zwW_p [(1, 0, 2)] (q := 1) (ls' := [(2, 1)]) (st' := [(2, 1)]) (by decide +kernel) rfl ?_
  refine zwW_gc C.1 (kd := 12) (bn := 7) (n := 13) (c := 9) (nx := 4) (by decide +kernel) ?_
  refine zwW_cm C.1 (op := 60) (k' := 120) (n := 0) (kd := 7) (m := 9) (nx := 7) (r := 9) (tl := []) (st' := []) (by decide +kernel) rfl (by decide +kernel) rfl (x120_q h C t n c B hc) ?_
  rintro v4 h5 ⟨Ch5, Qh5, f1, f2, f3⟩
  have Xh5 : zXR msx27_q (0) (0) h h5 := X.tr (c2 := 0) (s2 := 0) Qh5 (by decide +kernel) (by decide) (by decide)
  refine zwW_ret (nx := 8) (a := 0) (b := 0) (by decide +kernel) rfl (Or.inl rfl) ?_
  exact ⟨Ch5, Xh5.le (by decide) (by decide), by omega, by exact f2⟩
end
section
/-! contracts of methods -/
def ms201_q : Zms := [(37, 37, 42, 47), (37, 37, 47, 48), (149, 153, 0, 840), (163, 163, 0, 5)]
-- WheelLandModel.clauses()Z
set_option maxHeartbeats 4000000 in
theorem m201_q {sc : List Int} (h : Hp) (I : zI h) (t : pT) (n : Nat) (s : pQ) (b : Nat → Int) (B : vB t n h) (K : mTk t n h s.1) (G : mG b s h) (W : rW n s) (pa : s.1 < n) (pf : fld h 37 44 = -1) : zwC sc 231 201 [(2, 37)] h (zwRt 0 (fun x g => zI g ∧ zMR ms201_q h g ∧ ((x = 1 ∧ ((pCls t n s b).1 = true) ∧ (mTk t n g (pCls t n s b).2.1.1) ∧ (mG (pCls t n s b).2.2 (pCls t n s b).2.1 g) ∧ (fld g 37 44 = -1)) ∨ (x = 0 ∧ (¬ (pCls t n s b).1 = true) ∧ (fld g 37 44 = (((pCls t n s b).2.1.1 : Nat) : Int)))))) := by
  refine zwC_of (D := 230) 2 (by decide +kernel) rfl (ls := [(2, 37), (9, 0)]) rfl ?_
  have R : zMR ms201_q h h := zMR.rf _ _
  have bc := I.b (a1 := 37) (a2 := 37) (j1 := 47) (j2 := 48) (lo := -1) (hi := 4) (by decide +kernel) (r := 37) (j := 47) (by decide) (by decide) (by decide) (by decide)
  have B2 := B.2.1
  refine zwW_p [(1, 0, 2), (0, -1, 0)] (q := 2) (ls' := [(2, 37), (9, 0)]) (st' := [(0, -1), (2, 37)]) (by decide +kernel) rfl ?_
  refine zwW_ps I (kd := 13) (bn := 47) (n := 97) (lo := -1) (hi := 4) (nx := 5) (by decide +kernel) (by first | decide | exact ⟨by decide, by decide⟩) ?_
  intro h1 eh1 Ih1
  have th1_37_44 : fld h1 37 44 = fld h 37 44 := by rw [eh1]; exact fld_wr (by decide)
  have th1_37_45 : fld h1 37 45 = fld h 37 45 := by rw [eh1]; exact fld_wr (by decide)
  have th1_37_47 : fld h1 37 47 = -1 := by rw [eh1]; exact fld_wr_eq (I.s (a1 := 37) (a2 := 37) (k := 13) (n := 97) (by decide +kernel) (by decide) (by decide)) (by decide)
  have th1_37_41 : fld h1 37 41 = fld h 37 41 := by rw [eh1]; exact fld_wr (by decide)
  have th1_37_42 : fld h1 37 42 = fld h 37 42 := by rw [eh1]; exact fld_wr (by decide)
  have Bh1 : vB t n h1 := B.fr (zMR.one (a1 := 37) (a2 := 37) (j1 := 47) (j2 := 48) (by first | decide | exact ⟨by decide, by decide⟩) (by first | decide | exact ⟨by decide, by decide⟩) eh1) (by decide +kernel)
  have Kh1 := K.fr (zMR.one (a1 := 37) (a2 := 37) (j1 := 47) (j2 := 48) (by first | decide | exact ⟨by decide, by decide⟩) (by first | decide | exact ⟨by decide, by decide⟩) eh1) (by decide +kernel)
  have Gh1 := G.fr (zMR.one (a1 := 37) (a2 := 37) (j1 := 47) (j2 := 48) (by first | decide | exact ⟨by decide, by decide⟩) (by first | decide | exact ⟨by decide, by decide⟩) eh1) (by decide +kernel)
  have Rh1 : zMR ms201_q h h1 := R.w (a1 := 37) (a2 := 37) (j1 := 47) (j2 := 48) (by decide +kernel) (by first | decide | exact ⟨by decide, by decide⟩) (by first | decide | exact ⟨by decide, by decide⟩) eh1
  refine zwW_p [(0, 0, 0), (2, 1, 0)] (q := 7) (ls' := [(2, 37), (0, 0)]) (st' := []) (by decide +kernel) rfl ?_
  have L2 : ∀ (n0 : Nat) (kL2 : Int) (hL2 : Hp), n0 = ((1000 - kL2)).toNat → (vB t n hL2) → (mTk t n hL2 s.1) → (mG b s hL2) → (0 ≤ kL2 ∧ kL2 ≤ 5 ∧ fld hL2 37 44 = -1 ∧ fld hL2 37 41 = fld h 37 41) → ((fld hL2 37 47 = -1 ∧ ∀ j : Nat, (j : Int) < kL2 → ¬ (pK t n s.1 = 1 ∧ pV t n s.1 = 13 + (j : Int))) ∨ (0 ≤ fld hL2 37 47 ∧ fld hL2 37 47 < kL2 ∧ pK t n s.1 = 1 ∧ pV t n s.1 = 13 + fld hL2 37 47)) → zI hL2 → zMR ms201_q h hL2 → zwW sc (230) 201 7 [(2, 37), (0, kL2)] [] hL2 (zwRt 0 (fun x g => zI g ∧ zMR ms201_q h g ∧ ((x = 1 ∧ ((pCls t n s b).1 = true) ∧ (mTk t n g (pCls t n s b).2.1.1) ∧ (mG (pCls t n s b).2.2 (pCls t n s b).2.1 g) ∧ (fld g 37 44 = -1)) ∨ (x = 0 ∧ (¬ (pCls t n s b).1 = true) ∧ (fld g 37 44 = (((pCls t n s b).2.1.1 : Nat) : Int)))))) := by
    intro n0
    induction n0 using Nat.strongRecOn with
    | ind n0 IHL2 =>
      intro kL2 hL2 hnL2 iL2_0 iL2_1 iL2_2 iL2_3 iL2_4 IhL2 RhL2
      refine zwW_p [(1, 1, 0), (0, 5, 0)] (q := 9) (ls' := [(2, 37), (0, kL2)]) (st' := [(0, 5), (0, kL2)]) (by decide +kernel) rfl ?_
      refine zwic_ge (q := 36) (nx := 12) (by decide +kernel) (fun c3 => ?_) (fun c3 => ?_)
      · refine zwW_p [(1, 0, 2), (1, 0, 2)] (q := 38) (ls' := [(2, 37), (0, kL2)]) (st' := [(2, 37), (2, 37)]) (by decide +kernel) rfl ?_
        refine zwW_gs IhL2 (kd := 13) (bn := 47) (n := 97) (t := 0) (lo := -1) (hi := 4) (nx := 41) (by decide +kernel) ?_
        intro v4 ev4 lv4 uv4
        refine zwW_p [(0, -1, 0)] (q := 42) (ls' := [(2, 37), (0, kL2)]) (st' := [(0, -1), (0, v4), (2, 37)]) (by decide +kernel) rfl ?_
        refine zwic_eq (q := 64) (nx := 45) (by decide +kernel) (fun c5 => ?_) (fun c5 => ?_)
        · have NC : ¬ pCc t n s b := by rintro ⟨z1, z2, z3, z4⟩; rcases iL2_4 with ⟨f1, f2⟩ | ⟨f1, f2, f3, f4⟩; exact f2 (pV t n s.1 - 13).toNat (by omega) ⟨z1, by omega⟩; (rcases iL2_2 (pV t n s.1 - 13).toNat (by omega) with ⟨g1, g2⟩ | ⟨B, L, g1, g2, g3, g4⟩; omega; omega)
          refine zwW_p [(0, 0, 0)] (q := 65) (ls' := [(2, 37), (0, kL2)]) (st' := [(0, 0), (2, 37)]) (by decide +kernel) rfl ?_
          refine zwW_cm IhL2 (op := 60) (k' := 247) (n := 1) (kd := 13) (m := 97) (nx := 68) (r := 37) (tl := [(0, 0)]) (st' := []) (by decide +kernel) rfl (by decide +kernel) rfl (m247_p hL2 IhL2 0 t n s.1 iL2_0 iL2_1 (by omega)) ?_
          rintro x h6 ⟨Ih6, Qh6, ⟨rfl, f7, f8, f9⟩ | ⟨rfl, f10, f11⟩⟩
          · exfalso; omega
          · have Rh6 : zMR ms201_q h h6 := RhL2.tr Qh6 (by decide +kernel)
            have Bh6 : vB t n h6 := iL2_0.fr Qh6 (by decide +kernel)
            have Gh6 := iL2_2.fr Qh6 (by decide +kernel)
            have th6_37_45 : fld h6 37 45 = fld hL2 37 45 := Qh6.f (a1 := 37) (a2 := 37) (j1 := 45) (j2 := 46) (by decide +kernel) (by first | decide | exact ⟨by decide, by decide⟩) (by first | decide | exact ⟨by decide, by decide⟩)
            have th6_37_47 : fld h6 37 47 = fld hL2 37 47 := Qh6.f (a1 := 37) (a2 := 37) (j1 := 47) (j2 := 48) (by decide +kernel) (by first | decide | exact ⟨by decide, by decide⟩) (by first | decide | exact ⟨by decide, by decide⟩)
            have th6_37_41 : fld h6 37 41 = fld hL2 37 41 := Qh6.f (a1 := 37) (a2 := 37) (j1 := 41) (j2 := 42) (by decide +kernel) (by first | decide | exact ⟨by decide, by decide⟩) (by first | decide | exact ⟨by decide, by decide⟩)
            refine zwif_ne (q := 73) (nx := 71) (by decide +kernel) (fun c12 => ?_) (fun c12 => ?_)
            · exfalso; omega
            · refine zwW_p [(0, 0, 0)] (q := 72) (ls' := [(2, 37), (0, kL2)]) (st' := [(0, 0)]) (by decide +kernel) rfl ?_
              refine zwW_ret (nx := 73) (a := 1) (b := 0) (by decide +kernel) rfl (Or.inr (Or.inl ⟨rfl, Or.inl rfl⟩)) ?_
              have TN : ∃ r : Bool × pQ × (Nat → Int), pCls t n s b = r ∧ r.1 = false ∧ fld h6 37 44 = ((r.2.1.1 : Nat) : Int) := by
                first
                | exact ⟨_, pCls_no NC, rfl, f11⟩
                | exact ⟨_, pCls_f CC SF.1, rfl, SF.2⟩
                | exact ⟨_, pCls_s CC SB.1 rfl, rfl, f11⟩
              obtain ⟨rN, tN, bN, fN⟩ := TN
              exact ⟨Ih6, Rh6, Or.inr ⟨rfl, by rw [tN, bN]; exact Bool.false_ne_true, by rw [tN]; exact fN⟩⟩
        · have F45 : pK t n s.1 = 1 ∧ pV t n s.1 = 13 + fld hL2 37 47 := by rcases iL2_4 with ⟨f1, f2⟩ | ⟨f1, f2, f3, f4⟩; omega; exact ⟨f3, f4⟩
          refine zwW_p [(1, 0, 2)] (q := 46) (ls' := [(2, 37), (0, kL2)]) (st' := [(2, 37), (2, 37)]) (by decide +kernel) rfl ?_
          refine zwW_gc IhL2 (kd := 13) (bn := 49) (n := 97) (c := 154) (nx := 49) (by decide +kernel) ?_
          refine zwW_p [(0, 8, 0)] (q := 51) (ls' := [(2, 37), (0, kL2)]) (st' := [(0, 8), (2, 154), (2, 37)]) (by decide +kernel) rfl ?_
          refine zwW_ro IhL2 (a := 154) (n := 9) (kd := 26) (base := 155) (step := 1) (nx := 52) (by decide +kernel) rfl (by first | decide | exact ⟨by decide, by decide⟩) ?_
          rw [show ((155 : Nat) : Int) + ((1 : Nat) : Int) * 8 = 163 from rfl]
          refine zwW_p [(1, 0, 2)] (q := 53) (ls' := [(2, 37), (0, kL2)]) (st' := [(2, 37), (2, 163), (2, 37)]) (by decide +kernel) rfl ?_
          refine zwW_gs IhL2 (kd := 13) (bn := 47) (n := 97) (t := 0) (lo := -1) (hi := 4) (nx := 56) (by decide +kernel) ?_
          intro v13 ev13 lv13 uv13
          have ib1 : 0 ≤ v13 ∧ v13 < ((5 : Nat) : Int) := (by first | omega | exact ⟨by omega, by omega⟩)
          refine zwW_al IhL2 (a1 := 155) (a2 := 163) (kd := 20) (n := 5) (t := 0) (lo := 0) (hi := 400) (nx := 57) (by decide +kernel) (by first | decide | exact ⟨by decide, by decide⟩) ib1 ?_
          intro v14 ev14 lv14 uv14
          have E57 : v14 = fld hL2 163 (pV t n s.1 - 13).toNat := by rw [ev14]; congr 1; omega
          refine zwif_ne (q := 64) (nx := 60) (by decide +kernel) (fun c15 => ?_) (fun c15 => ?_)
          · have NC : ¬ pCc t n s b := by rintro ⟨z1, z2, z3, z4⟩; rcases iL2_4 with ⟨f1, f2⟩ | ⟨f1, f2, f3, f4⟩; exact f2 (pV t n s.1 - 13).toNat (by omega) ⟨z1, by omega⟩; (rcases iL2_2 (pV t n s.1 - 13).toNat (by omega) with ⟨g1, g2⟩ | ⟨B, L, g1, g2, g3, g4⟩; omega; omega)
            refine zwW_p [(0, 0, 0)] (q := 65) (ls' := [(2, 37), (0, kL2)]) (st' := [(0, 0), (2, 37)]) (by decide +kernel) rfl ?_
            refine zwW_cm IhL2 (op := 60) (k' := 247) (n := 1) (kd := 13) (m := 97) (nx := 68) (r := 37) (tl := [(0, 0)]) (st' := []) (by decide +kernel) rfl (by decide +kernel) rfl (m247_p hL2 IhL2 0 t n s.1 iL2_0 iL2_1 (by omega)) ?_
            rintro x h16 ⟨Ih16, Qh16, ⟨rfl, f17, f18, f19⟩ | ⟨rfl, f20, f21⟩⟩
            · exfalso; omega
            · have Rh16 : zMR ms201_q h h16 := RhL2.tr Qh16 (by decide +kernel)
              have Bh16 : vB t n h16 := iL2_0.fr Qh16 (by decide +kernel)
              have Gh16 := iL2_2.fr Qh16 (by decide +kernel)
              have th16_37_45 : fld h16 37 45 = fld hL2 37 45 := Qh16.f (a1 := 37) (a2 := 37) (j1 := 45) (j2 := 46) (by decide +kernel) (by first | decide | exact ⟨by decide, by decide⟩) (by first | decide | exact ⟨by decide, by decide⟩)
              have th16_37_47 : fld h16 37 47 = fld hL2 37 47 := Qh16.f (a1 := 37) (a2 := 37) (j1 := 47) (j2 := 48) (by decide +kernel) (by first | decide | exact ⟨by decide, by decide⟩) (by first | decide | exact ⟨by decide, by decide⟩)
              have th16_37_41 : fld h16 37 41 = fld hL2 37 41 := Qh16.f (a1 := 37) (a2 := 37) (j1 := 41) (j2 := 42) (by decide +kernel) (by first | decide | exact ⟨by decide, by decide⟩) (by first | decide | exact ⟨by decide, by decide⟩)
              refine zwif_ne (q := 73) (nx := 71) (by decide +kernel) (fun c22 => ?_) (fun c22 => ?_)
              · exfalso; omega
              · refine zwW_p [(0, 0, 0)] (q := 72) (ls' := [(2, 37), (0, kL2)]) (st' := [(0, 0)]) (by decide +kernel) rfl ?_
                refine zwW_ret (nx := 73) (a := 1) (b := 0) (by decide +kernel) rfl (Or.inr (Or.inl ⟨rfl, Or.inl rfl⟩)) ?_
                have TN : ∃ r : Bool × pQ × (Nat → Int), pCls t n s b = r ∧ r.1 = false ∧ fld h16 37 44 = ((r.2.1.1 : Nat) : Int) := by
                  first
                  | exact ⟨_, pCls_no NC, rfl, f21⟩
                  | exact ⟨_, pCls_f CC SF.1, rfl, SF.2⟩
                  | exact ⟨_, pCls_s CC SB.1 rfl, rfl, f21⟩
                obtain ⟨rN, tN, bN, fN⟩ := TN
                exact ⟨Ih16, Rh16, Or.inr ⟨rfl, by rw [tN, bN]; exact Bool.false_ne_true, by rw [tN]; exact fN⟩⟩
          · have CC : pCc t n s b := ⟨F45.1, by omega, by omega, by rcases iL2_2 (pV t n s.1 - 13).toNat (by omega) with ⟨g1, g2⟩ | ⟨B, L, g1, g2, g3, g4⟩; exact g1; omega⟩
            refine zwW_p [(0, 1, 0), (24, 65, 0)] (q := 65) (ls' := [(2, 37), (0, kL2)]) (st' := [(0, 1), (2, 37)]) (by decide +kernel) rfl ?_
            refine zwW_cm IhL2 (op := 60) (k' := 247) (n := 1) (kd := 13) (m := 97) (nx := 68) (r := 37) (tl := [(0, 1)]) (st' := []) (by decide +kernel) rfl (by decide +kernel) rfl (m247_p hL2 IhL2 1 t n s.1 iL2_0 iL2_1 (by omega)) ?_
            rintro x h23 ⟨Ih23, Qh23, ⟨rfl, f24, f25, f26⟩ | ⟨rfl, f27, f28⟩⟩
            · have Rh23 : zMR ms201_q h h23 := RhL2.tr Qh23 (by decide +kernel)
              have Bh23 : vB t n h23 := iL2_0.fr Qh23 (by decide +kernel)
              have Gh23 := iL2_2.fr Qh23 (by decide +kernel)
              have th23_37_45 : fld h23 37 45 = fld hL2 37 45 := Qh23.f (a1 := 37) (a2 := 37) (j1 := 45) (j2 := 46) (by decide +kernel) (by first | decide | exact ⟨by decide, by decide⟩) (by first | decide | exact ⟨by decide, by decide⟩)
              have th23_37_47 : fld h23 37 47 = fld hL2 37 47 := Qh23.f (a1 := 37) (a2 := 37) (j1 := 47) (j2 := 48) (by decide +kernel) (by first | decide | exact ⟨by decide, by decide⟩) (by first | decide | exact ⟨by decide, by decide⟩)
              have th23_37_41 : fld h23 37 41 = fld hL2 37 41 := Qh23.f (a1 := 37) (a2 := 37) (j1 := 41) (j2 := 42) (by decide +kernel) (by first | decide | exact ⟨by decide, by decide⟩) (by first | decide | exact ⟨by decide, by decide⟩)
              refine zwif_ne (q := 73) (nx := 71) (by decide +kernel) (fun c29 => ?_) (fun c29 => ?_)
              · refine zwW_p [(1, 0, 2), (0, 0, 0)] (q := 75) (ls' := [(2, 37), (0, kL2)]) (st' := [(0, 0), (2, 37)]) (by decide +kernel) rfl ?_
                refine zwW_ps Ih23 (kd := 13) (bn := 45) (n := 97) (lo := 0) (hi := 400) (nx := 78) (by decide +kernel) (by first | decide | exact ⟨by decide, by decide⟩) ?_
                intro h30 eh30 Ih30
                have th30_37_44 : fld h30 37 44 = fld h23 37 44 := by rw [eh30]; exact fld_wr (by decide)
                have th30_37_45 : fld h30 37 45 = 0 := by rw [eh30]; exact fld_wr_eq (Ih23.s (a1 := 37) (a2 := 37) (k := 13) (n := 97) (by decide +kernel) (by decide) (by decide)) (by decide)
                have th30_37_47 : fld h30 37 47 = fld h23 37 47 := by rw [eh30]; exact fld_wr (by decide)
                have th30_37_41 : fld h30 37 41 = fld h23 37 41 := by rw [eh30]; exact fld_wr (by decide)
                have th30_37_42 : fld h30 37 42 = fld h23 37 42 := by rw [eh30]; exact fld_wr (by decide)
                have Bh30 : vB t n h30 := Bh23.fr (zMR.one (a1 := 37) (a2 := 37) (j1 := 45) (j2 := 46) (by first | decide | exact ⟨by decide, by decide⟩) (by first | decide | exact ⟨by decide, by decide⟩) eh30) (by decide +kernel)
                have Kh30 := f25.fr (zMR.one (a1 := 37) (a2 := 37) (j1 := 45) (j2 := 46) (by first | decide | exact ⟨by decide, by decide⟩) (by first | decide | exact ⟨by decide, by decide⟩) eh30) (by decide +kernel)
                have Gh30 := Gh23.fr (zMR.one (a1 := 37) (a2 := 37) (j1 := 45) (j2 := 46) (by first | decide | exact ⟨by decide, by decide⟩) (by first | decide | exact ⟨by decide, by decide⟩) eh30) (by decide +kernel)
                have Rh30 : zMR ms201_q h h30 := Rh23.w (a1 := 37) (a2 := 37) (j1 := 45) (j2 := 46) (by decide +kernel) (by first | decide | exact ⟨by decide, by decide⟩) (by first | decide | exact ⟨by decide, by decide⟩) eh30
                have RQ4 : mQ t n s.2.1 h30 (pA t n s) := ⟨Kh30, Nat.le_refl _, by show fld h30 37 45 = ((s.2.1 : Nat) : Int) - s.2.1; omega, fun k k1 k2 => absurd k2 (Nat.not_lt.mpr k1)⟩
                have V4 := W.a (t := t) (n := n) (by have z := CC.1; omega)
                have WA := V4.wk
                have GB := pG_cb (t := t) (n := n) (pV t n s.1 - 13) (pA t n s) V4.2
                refine zwW_p [(1, 0, 2)] (q := 79) (ls' := [(2, 37), (0, kL2)]) (st' := [(2, 37)]) (by decide +kernel) rfl ?_
                refine zwW_gs Ih30 (kd := 13) (bn := 47) (n := 97) (t := 0) (lo := -1) (hi := 4) (nx := 82) (by decide +kernel) ?_
                intro v31 ev31 lv31 uv31
                refine zwW_p [(0, 3, 0)] (q := 83) (ls' := [(2, 37), (0, kL2)]) (st' := [(0, 3), (0, v31)]) (by decide +kernel) rfl ?_
                refine zwic_ge (q := 97) (nx := 86) (by decide +kernel) (fun c32 => ?_) (fun c32 => ?_)
                · refine zwW_p [(1, 0, 2), (0, 0, 0)] (q := 99) (ls' := [(2, 37), (0, kL2)]) (st' := [(0, 0), (2, 37)]) (by decide +kernel) rfl ?_
                  refine zwW_cm Ih30 (op := 60) (k' := 249) (n := 1) (kd := 13) (m := 97) (nx := 102) (r := 37) (tl := [(0, 0)]) (st' := []) (by decide +kernel) rfl (by decide +kernel) rfl (zm_either sc h30 Ih30 t n s.2.1 (pA t n s) Bh30 RQ4 WA (by omega) (by omega)) ?_
                  rintro v33 h37 ⟨Ih37, Qh37, f34, f35, f36⟩
                  have Rh37 : zMR ms201_q h h37 := Rh30.tr Qh37 (by decide +kernel)
                  have Bh37 : vB t n h37 := Bh30.fr Qh37 (by decide +kernel)
                  have th37_37_47 : fld h37 37 47 = fld h30 37 47 := Qh37.f (a1 := 37) (a2 := 37) (j1 := 47) (j2 := 48) (by decide +kernel) (by first | decide | exact ⟨by decide, by decide⟩) (by first | decide | exact ⟨by decide, by decide⟩)
                  have th37_37_41 : fld h37 37 41 = fld h30 37 41 := Qh37.f (a1 := 37) (a2 := 37) (j1 := 41) (j2 := 42) (by decide +kernel) (by first | decide | exact ⟨by decide, by decide⟩) (by first | decide | exact ⟨by decide, by decide⟩)
                  have S99 := f36
                  have O99 := f35
                  have F99 : fld h37 163 = fld h30 163 := Qh37.fa (a := 163) (by decide +kernel) rfl
                  have P99 := f35.1
                  refine zwif_ne (q := 107) (nx := 105) (by decide +kernel) (fun c38 => ?_) (fun c38 => ?_)
                  · have SB : (pBo t n s).1 = true ∧ mQ t n s.2.1 h37 (pBo t n s).2 ∧ fld h37 37 44 = -1 := by unfold pBo pCb; first | (rw [if_pos (by omega)]; exact ⟨S88.b1 (by omega), S88.qq (by omega), S88.e (by omega)⟩) | (rw [if_neg (by omega)]; exact ⟨S99.b1 (by omega), S99.qq (by omega), S99.e (by omega)⟩)
                    have K5 := SB.2.1.1
                    have OB : mO h30 h37 := by first | exact O88 | exact O99
                    have E163 : fld h37 163 = fld h30 163 := by first | exact F88 | exact F99
                    have G5 := SB.2.1.2.2.1
                    have E44 := SB.2.2
                    refine zwW_p [(1, 0, 2)] (q := 108) (ls' := [(2, 37), (0, kL2)]) (st' := [(2, 37)]) (by decide +kernel) rfl ?_
                    refine zwW_gc Ih37 (kd := 13) (bn := 49) (n := 97) (c := 154) (nx := 111) (by decide +kernel) ?_
                    refine zwW_p [(0, 8, 0)] (q := 113) (ls' := [(2, 37), (0, kL2)]) (st' := [(0, 8), (2, 154)]) (by decide +kernel) rfl ?_
                    refine zwW_ro Ih37 (a := 154) (n := 9) (kd := 26) (base := 155) (step := 1) (nx := 114) (by decide +kernel) rfl (by first | decide | exact ⟨by decide, by decide⟩) ?_
                    rw [show ((155 : Nat) : Int) + ((1 : Nat) : Int) * 8 = 163 from rfl]
                    refine zwW_p [(1, 0, 2)] (q := 115) (ls' := [(2, 37), (0, kL2)]) (st' := [(2, 37), (2, 163)]) (by decide +kernel) rfl ?_
                    refine zwW_gs Ih37 (kd := 13) (bn := 47) (n := 97) (t := 0) (lo := -1) (hi := 4) (nx := 118) (by decide +kernel) ?_
                    intro v39 ev39 lv39 uv39
                    refine zwW_p [(1, 0, 2)] (q := 119) (ls' := [(2, 37), (0, kL2)]) (st' := [(2, 37), (0, v39), (2, 163)]) (by decide +kernel) rfl ?_
                    refine zwW_gs Ih37 (kd := 13) (bn := 45) (n := 97) (t := 0) (lo := 0) (hi := 400) (nx := 122) (by decide +kernel) ?_
                    intro v40 ev40 lv40 uv40
                    have ib2 : 0 ≤ v39 ∧ v39 < ((5 : Nat) : Int) := (by first | omega | exact ⟨by omega, by omega⟩)
                    refine zwW_as Ih37 (a1 := 155) (a2 := 163) (n := 5) (lo := 0) (hi := 400) (nx := 123) (by decide +kernel) (by first | decide | exact ⟨by decide, by decide⟩) ib2 (by first | omega | exact ⟨by omega, by omega⟩) ?_
                    intro h41 eh41 Ih41
                    have jbh41 : 0 ≤ v39.toNat ∧ v39.toNat < 5 := ⟨Nat.zero_le _, zit ib2⟩
                    have th41_37_44 : fld h41 37 44 = fld h37 37 44 := by rw [eh41]; exact fld_wr (Or.inl (by decide))
                    have th41_37_45 : fld h41 37 45 = fld h37 37 45 := by rw [eh41]; exact fld_wr (Or.inl (by decide))
                    have th41_37_47 : fld h41 37 47 = fld h37 37 47 := by rw [eh41]; exact fld_wr (Or.inl (by decide))
                    have th41_37_41 : fld h41 37 41 = fld h37 37 41 := by rw [eh41]; exact fld_wr (Or.inl (by decide))
                    have th41_37_42 : fld h41 37 42 = fld h37 37 42 := by rw [eh41]; exact fld_wr (Or.inl (by decide))
                    have E122 : h41 = wr h37 163 (v39).toNat v40 := eh41
                    have C122 : (v39).toNat = (pV t n s.1 - 13).toNat := by omega
                    have X122 : v40 = fld h37 37 45 := by omega
                    have S122 := Ih37.s (a1 := 155) (a2 := 163) (k := 20) (n := 5) (by decide +kernel) (r := 163) (by decide) (by decide)
                    have K6 : mTk t n h41 (pBo t n s).2.1 := K5.fr (zMR.one (a1 := 163) (a2 := 163) (j1 := 0) (j2 := 5) (by first | decide | exact ⟨by decide, by decide⟩) (by first | omega | exact ⟨by omega, by omega⟩) eh41) (by decide +kernel)
                    have H122 : h41 = h41 := rfl
                    have Bh41 : vB t n h41 := Bh37.fr (zMR.one (a1 := 163) (a2 := 163) (j1 := 0) (j2 := 5) (by first | decide | exact ⟨by decide, by decide⟩) jbh41 eh41) (by decide +kernel)
                    have Rh41 : zMR ms201_q h h41 := Rh37.w (a1 := 163) (a2 := 163) (j1 := 0) (j2 := 5) (by decide +kernel) (by first | decide | exact ⟨by decide, by decide⟩) jbh41 eh41
                    refine zwW_p [(1, 0, 2), (1, 0, 2), (0, 59, 0)] (q := 127) (ls' := [(2, 37), (0, kL2)]) (st' := [(0, 59), (2, 37), (2, 37)]) (by decide +kernel) rfl ?_
                    refine zwW_cm Ih41 (op := 60) (k' := 250) (n := 1) (kd := 13) (m := 97) (nx := 130) (r := 37) (tl := [(0, 59)]) (st' := [(2, 37)]) (by decide +kernel) rfl (by decide +kernel) rfl (m250_p h41 Ih41 59 t n (pBo t n s).2.1 Bh41 K6 rfl) ?_
                    rintro x _ ⟨rfl, ⟨rfl, c42⟩ | ⟨rfl, c42⟩⟩
                    · refine zwW_cm Ih41 (op := 60) (k' := 247) (n := 1) (kd := 13) (m := 97) (nx := 133) (r := 37) (tl := [(0, 1)]) (st' := []) (by decide +kernel) rfl (by decide +kernel) rfl (m247_p h41 Ih41 1 t n (pBo t n s).2.1 Bh41 K6 (by omega)) ?_
                      rintro x h43 ⟨Ih43, Qh43, ⟨rfl, f44, f45, f46⟩ | ⟨rfl, f47, f48⟩⟩
                      · have Rh43 : zMR ms201_q h h43 := Rh41.tr Qh43 (by decide +kernel)
                        have Bh43 : vB t n h43 := Bh41.fr Qh43 (by decide +kernel)
                        have th43_37_45 : fld h43 37 45 = fld h41 37 45 := Qh43.f (a1 := 37) (a2 := 37) (j1 := 45) (j2 := 46) (by decide +kernel) (by first | decide | exact ⟨by decide, by decide⟩) (by first | decide | exact ⟨by decide, by decide⟩)
                        have th43_37_47 : fld h43 37 47 = fld h41 37 47 := Qh43.f (a1 := 37) (a2 := 37) (j1 := 47) (j2 := 48) (by decide +kernel) (by first | decide | exact ⟨by decide, by decide⟩) (by first | decide | exact ⟨by decide, by decide⟩)
                        have th43_37_41 : fld h43 37 41 = fld h41 37 41 := Qh43.f (a1 := 37) (a2 := 37) (j1 := 41) (j2 := 42) (by decide +kernel) (by first | decide | exact ⟨by decide, by decide⟩) (by first | decide | exact ⟨by decide, by decide⟩)
                        refine zwW_ret (nx := 134) (a := 1) (b := 0) (by decide +kernel) rfl (Or.inr (Or.inl ⟨rfl, by omega⟩)) ?_
                        have TE := pCls_t CC SB.1 c42
                        have GE := Gh30.add (c0 := (pV t n s.1 - 13).toNat) OB (by omega) (by omega) E163 GB.2.2.1 GB.2.2.2.2.2 SB.2.1 (GB.2.2.2.2.1 SB.1).2 (by rw [← C122]; exact E122) X122 S122 (mO.fr Qh43 (by decide +kernel)).2 (fun k hk => Qh43.f (a1 := 163) (a2 := 163) (j1 := 0) (j2 := 5) (by decide +kernel) (by first | decide | exact ⟨by decide, by decide⟩) (by first | omega | exact ⟨by omega, by omega⟩))
                        exact ⟨Ih43, Rh43, Or.inl ⟨rfl, by rw [TE], by rw [TE]; exact f45, by rw [TE]; exact GE, by omega⟩⟩
                      · exfalso; omega
                    · refine zwW_cm Ih41 (op := 60) (k' := 247) (n := 1) (kd := 13) (m := 97) (nx := 133) (r := 37) (tl := [(0, 0)]) (st' := []) (by decide +kernel) rfl (by decide +kernel) rfl (m247_p h41 Ih41 0 t n (pBo t n s).2.1 Bh41 K6 (by omega)) ?_
                      rintro x h49 ⟨Ih49, Qh49, ⟨rfl, f50, f51, f52⟩ | ⟨rfl, f53, f54⟩⟩
                      · exfalso; omega
                      · have Rh49 : zMR ms201_q h h49 := Rh41.tr Qh49 (by decide +kernel)
                        have Bh49 : vB t n h49 := Bh41.fr Qh49 (by decide +kernel)
                        have th49_37_45 : fld h49 37 45 = fld h41 37 45 := Qh49.f (a1 := 37) (a2 := 37) (j1 := 45) (j2 := 46) (by decide +kernel) (by first | decide | exact ⟨by decide, by decide⟩) (by first | decide | exact ⟨by decide, by decide⟩)
                        have th49_37_47 : fld h49 37 47 = fld h41 37 47 := Qh49.f (a1 := 37) (a2 := 37) (j1 := 47) (j2 := 48) (by decide +kernel) (by first | decide | exact ⟨by decide, by decide⟩) (by first | decide | exact ⟨by decide, by decide⟩)
                        have th49_37_41 : fld h49 37 41 = fld h41 37 41 := Qh49.f (a1 := 37) (a2 := 37) (j1 := 41) (j2 := 42) (by decide +kernel) (by first | decide | exact ⟨by decide, by decide⟩) (by first | decide | exact ⟨by decide, by decide⟩)
                        refine zwW_ret (nx := 134) (a := 1) (b := 0) (by decide +kernel) rfl (Or.inr (Or.inl ⟨rfl, by omega⟩)) ?_
                        have TN : ∃ r : Bool × pQ × (Nat → Int), pCls t n s b = r ∧ r.1 = false ∧ fld h49 37 44 = ((r.2.1.1 : Nat) : Int) := by
                          first
                          | exact ⟨_, pCls_no NC, rfl, f54⟩
                          | exact ⟨_, pCls_f CC SF.1, rfl, SF.2⟩
                          | exact ⟨_, pCls_s CC SB.1 c42, rfl, f54⟩
                        obtain ⟨rN, tN, bN, fN⟩ := TN
                        exact ⟨Ih49, Rh49, Or.inr ⟨rfl, by rw [tN, bN]; exact Bool.false_ne_true, by rw [tN]; exact fN⟩⟩
                  · have SF : ¬ (pBo t n s).1 = true ∧ fld h37 37 44 = (((pBo t n s).2.1 : Nat) : Int) := by unfold pBo pCb; first | (rw [if_pos (by omega)]; exact ⟨S88.b0 (by omega), (S88.fl (by omega)).2⟩) | (rw [if_neg (by omega)]; exact ⟨S99.b0 (by omega), (S99.fl (by omega)).2⟩)
                    refine zwW_p [(0, 0, 0)] (q := 106) (ls' := [(2, 37), (0, kL2)]) (st' := [(0, 0)]) (by decide +kernel) rfl ?_
                    refine zwW_ret (nx := 107) (a := 1) (b := 0) (by decide +kernel) rfl (Or.inr (Or.inl ⟨rfl, Or.inl rfl⟩)) ?_
                    have TN : ∃ r : Bool × pQ × (Nat → Int), pCls t n s b = r ∧ r.1 = false ∧ fld h37 37 44 = ((r.2.1.1 : Nat) : Int) := by
                      first
                      | exact ⟨_, pCls_no NC, rfl, f25⟩
                      | exact ⟨_, pCls_f CC SF.1, rfl, SF.2⟩
                      | exact ⟨_, pCls_s CC SB.1 rfl, rfl, f25⟩
                    obtain ⟨rN, tN, bN, fN⟩ := TN
                    exact ⟨Ih37, Rh37, Or.inr ⟨rfl, by rw [tN, bN]; exact Bool.false_ne_true, by rw [tN]; exact fN⟩⟩
                · refine zwW_p [(1, 0, 2), (0, 0, 0)] (q := 88) (ls' := [(2, 37), (0, kL2)]) (st' := [(0, 0), (2, 37)]) (by decide +kernel) rfl ?_
                  refine zwW_cm Ih30 (op := 60) (k' := 248) (n := 1) (kd := 13) (m := 97) (nx := 91) (r := 37) (tl := [(0, 0)]) (st' := []) (by decide +kernel) rfl (by decide +kernel) rfl (zm_sum sc h30 Ih30 t n s.2.1 (pA t n s) Bh30 RQ4 WA (by omega) (by omega)) ?_
                  rintro v55 h59 ⟨Ih59, Qh59, f56, f57, f58⟩
                  have Rh59 : zMR ms201_q h h59 := Rh30.tr Qh59 (by decide +kernel)
                  have Bh59 : vB t n h59 := Bh30.fr Qh59 (by decide +kernel)
                  have th59_37_47 : fld h59 37 47 = fld h30 37 47 := Qh59.f (a1 := 37) (a2 := 37) (j1 := 47) (j2 := 48) (by decide +kernel) (by first | decide | exact ⟨by decide, by decide⟩) (by first | decide | exact ⟨by decide, by decide⟩)
                  have th59_37_41 : fld h59 37 41 = fld h30 37 41 := Qh59.f (a1 := 37) (a2 := 37) (j1 := 41) (j2 := 42) (by decide +kernel) (by first | decide | exact ⟨by decide, by decide⟩) (by first | decide | exact ⟨by decide, by decide⟩)
                  have S88 := f58
                  have O88 := f57
                  have F88 : fld h59 163 = fld h30 163 := Qh59.fa (a := 163) (by decide +kernel) rfl
                  have P88 := f57.1
                  refine zwif_ne (q := 107) (nx := 94) (by decide +kernel) (fun c60 => ?_) (fun c60 => ?_)
                  · have SB : (pBo t n s).1 = true ∧ mQ t n s.2.1 h59 (pBo t n s).2 ∧ fld h59 37 44 = -1 := by unfold pBo pCb; first | (rw [if_pos (by omega)]; exact ⟨S88.b1 (by omega), S88.qq (by omega), S88.e (by omega)⟩) | (rw [if_neg (by omega)]; exact ⟨S99.b1 (by omega), S99.qq (by omega), S99.e (by omega)⟩)
                    have K5 := SB.2.1.1
                    have OB : mO h30 h59 := by first | exact O88 | exact O99
                    have E163 : fld h59 163 = fld h30 163 := by first | exact F88 | exact F99
                    have G5 := SB.2.1.2.2.1
                    have E44 := SB.2.2
                    refine zwW_p [(1, 0, 2)] (q := 108) (ls' := [(2, 37), (0, kL2)]) (st' := [(2, 37)]) (by decide +kernel) rfl ?_
                    refine zwW_gc Ih59 (kd := 13) (bn := 49) (n := 97) (c := 154) (nx := 111) (by decide +kernel) ?_
                    refine zwW_p [(0, 8, 0)] (q := 113) (ls' := [(2, 37), (0, kL2)]) (st' := [(0, 8), (2, 154)]) (by decide +kernel) rfl ?_
                    refine zwW_ro Ih59 (a := 154) (n := 9) (kd := 26) (base := 155) (step := 1) (nx := 114) (by decide +kernel) rfl (by first | decide | exact ⟨by decide, by decide⟩) ?_
                    rw [show ((155 : Nat) : Int) + ((1 : Nat) : Int) * 8 = 163 from rfl]
                    refine zwW_p [(1, 0, 2)] (q := 115) (ls' := [(2, 37), (0, kL2)]) (st' := [(2, 37), (2, 163)]) (by decide +kernel) rfl ?_
                    refine zwW_gs Ih59 (kd := 13) (bn := 47) (n := 97) (t := 0) (lo := -1) (hi := 4) (nx := 118) (by decide +kernel) ?_
                    intro v61 ev61 lv61 uv61
                    refine zwW_p [(1, 0, 2)] (q := 119) (ls' := [(2, 37), (0, kL2)]) (st' := [(2, 37), (0, v61), (2, 163)]) (by decide +kernel) rfl ?_
                    refine zwW_gs Ih59 (kd := 13) (bn := 45) (n := 97) (t := 0) (lo := 0) (hi := 400) (nx := 122) (by decide +kernel) ?_
                    intro v62 ev62 lv62 uv62
                    have ib3 : 0 ≤ v61 ∧ v61 < ((5 : Nat) : Int) := (by first | omega | exact ⟨by omega, by omega⟩)
                    refine zwW_as Ih59 (a1 := 155) (a2 := 163) (n := 5) (lo := 0) (hi := 400) (nx := 123) (by decide +kernel) (by first | decide | exact ⟨by decide, by decide⟩) ib3 (by first | omega | exact ⟨by omega, by omega⟩) ?_
                    intro h63 eh63 Ih63
                    have jbh63 : 0 ≤ v61.toNat ∧ v61.toNat < 5 := ⟨Nat.zero_le _, zit ib3⟩
                    have th63_37_44 : fld h63 37 44 = fld h59 37 44 := by rw [eh63]; exact fld_wr (Or.inl (by decide))
                    have th63_37_45 : fld h63 37 45 = fld h59 37 45 := by rw [eh63]; exact fld_wr (Or.inl (by decide))
                    have th63_37_47 : fld h63 37 47 = fld h59 37 47 := by rw [eh63]; exact fld_wr (Or.inl (by decide))
                    have th63_37_41 : fld h63 37 41 = fld h59 37 41 := by rw [eh63]; exact fld_wr (Or.inl (by decide))
                    have th63_37_42 : fld h63 37 42 = fld h59 37 42 := by rw [eh63]; exact fld_wr (Or.inl (by decide))
                    have E122 : h63 = wr h59 163 (v61).toNat v62 := eh63
                    have C122 : (v61).toNat = (pV t n s.1 - 13).toNat := by omega
                    have X122 : v62 = fld h59 37 45 := by omega
                    have S122 := Ih59.s (a1 := 155) (a2 := 163) (k := 20) (n := 5) (by decide +kernel) (r := 163) (by decide) (by decide)
                    have K6 : mTk t n h63 (pBo t n s).2.1 := K5.fr (zMR.one (a1 := 163) (a2 := 163) (j1 := 0) (j2 := 5) (by first | decide | exact ⟨by decide, by decide⟩) (by first | omega | exact ⟨by omega, by omega⟩) eh63) (by decide +kernel)
                    have H122 : h63 = h63 := rfl
                    have Bh63 : vB t n h63 := Bh59.fr (zMR.one (a1 := 163) (a2 := 163) (j1 := 0) (j2 := 5) (by first | decide | exact ⟨by decide, by decide⟩) jbh63 eh63) (by decide +kernel)
                    have Rh63 : zMR ms201_q h h63 := Rh59.w (a1 := 163) (a2 := 163) (j1 := 0) (j2 := 5) (by decide +kernel) (by first | decide | exact ⟨by decide, by decide⟩) jbh63 eh63
                    refine zwW_p [(1, 0, 2), (1, 0, 2), (0, 59, 0)] (q := 127) (ls' := [(2, 37), (0, kL2)]) (st' := [(0, 59), (2, 37), (2, 37)]) (by decide +kernel) rfl ?_
                    refine zwW_cm Ih63 (op := 60) (k' := 250) (n := 1) (kd := 13) (m := 97) (nx := 130) (r := 37) (tl := [(0, 59)]) (st' := [(2, 37)]) (by decide +kernel) rfl (by decide +kernel) rfl (m250_p h63 Ih63 59 t n (pBo t n s).2.1 Bh63 K6 rfl) ?_
                    rintro x _ ⟨rfl, ⟨rfl, c64⟩ | ⟨rfl, c64⟩⟩
                    · refine zwW_cm Ih63 (op := 60) (k' := 247) (n := 1) (kd := 13) (m := 97) (nx := 133) (r := 37) (tl := [(0, 1)]) (st' := []) (by decide +kernel) rfl (by decide +kernel) rfl (m247_p h63 Ih63 1 t n (pBo t n s).2.1 Bh63 K6 (by omega)) ?_
                      rintro x h65 ⟨Ih65, Qh65, ⟨rfl, f66, f67, f68⟩ | ⟨rfl, f69, f70⟩⟩
                      · have Rh65 : zMR ms201_q h h65 := Rh63.tr Qh65 (by decide +kernel)
                        have Bh65 : vB t n h65 := Bh63.fr Qh65 (by decide +kernel)
                        have th65_37_45 : fld h65 37 45 = fld h63 37 45 := Qh65.f (a1 := 37) (a2 := 37) (j1 := 45) (j2 := 46) (by decide +kernel) (by first | decide | exact ⟨by decide, by decide⟩) (by first | decide | exact ⟨by decide, by decide⟩)
                        have th65_37_47 : fld h65 37 47 = fld h63 37 47 := Qh65.f (a1 := 37) (a2 := 37) (j1 := 47) (j2 := 48) (by decide +kernel) (by first | decide | exact ⟨by decide, by decide⟩) (by first | decide | exact ⟨by decide, by decide⟩)
                        have th65_37_41 : fld h65 37 41 = fld h63 37 41 := Qh65.f (a1 := 37) (a2 := 37) (j1 := 41) (j2 := 42) (by decide +kernel) (by first | decide | exact ⟨by decide, by decide⟩) (by first | decide | exact ⟨by decide, by decide⟩)
                        refine zwW_ret (nx := 134) (a := 1) (b := 0) (by decide +kernel) rfl (Or.inr (Or.inl ⟨rfl, by omega⟩)) ?_
                        have TE := pCls_t CC SB.1 c64
                        have GE := Gh30.add (c0 := (pV t n s.1 - 13).toNat) OB (by omega) (by omega) E163 GB.2.2.1 GB.2.2.2.2.2 SB.2.1 (GB.2.2.2.2.1 SB.1).2 (by rw [← C122]; exact E122) X122 S122 (mO.fr Qh65 (by decide +kernel)).2 (fun k hk => Qh65.f (a1 := 163) (a2 := 163) (j1 := 0) (j2 := 5) (by decide +kernel) (by first | decide | exact ⟨by decide, by decide⟩) (by first | omega | exact ⟨by omega, by omega⟩))
                        exact ⟨Ih65, Rh65, Or.inl ⟨rfl, by rw [TE], by rw [TE]; exact f67, by rw [TE]; exact GE, by omega⟩⟩
                      · exfalso; omega
                    · refine zwW_cm Ih63 (op := 60) (k' := 247) (n := 1) (kd := 13) (m := 97) (nx := 133) (r := 37) (tl := [(0, 0)]) (st' := []) (by decide +kernel) rfl (by decide +kernel) rfl (m247_p h63 Ih63 0 t n (pBo t n s).2.1 Bh63 K6 (by omega)) ?_
                      rintro x h71 ⟨Ih71, Qh71, ⟨rfl, f72, f73, f74⟩ | ⟨rfl, f75, f76⟩⟩
                      · exfalso; omega
                      · have Rh71 : zMR ms201_q h h71 := Rh63.tr Qh71 (by decide +kernel)
                        have Bh71 : vB t n h71 := Bh63.fr Qh71 (by decide +kernel)
                        have th71_37_45 : fld h71 37 45 = fld h63 37 45 := Qh71.f (a1 := 37) (a2 := 37) (j1 := 45) (j2 := 46) (by decide +kernel) (by first | decide | exact ⟨by decide, by decide⟩) (by first | decide | exact ⟨by decide, by decide⟩)
                        have th71_37_47 : fld h71 37 47 = fld h63 37 47 := Qh71.f (a1 := 37) (a2 := 37) (j1 := 47) (j2 := 48) (by decide +kernel) (by first | decide | exact ⟨by decide, by decide⟩) (by first | decide | exact ⟨by decide, by decide⟩)
                        have th71_37_41 : fld h71 37 41 = fld h63 37 41 := Qh71.f (a1 := 37) (a2 := 37) (j1 := 41) (j2 := 42) (by decide +kernel) (by first | decide | exact ⟨by decide, by decide⟩) (by first | decide | exact ⟨by decide, by decide⟩)
                        refine zwW_ret (nx := 134) (a := 1) (b := 0) (by decide +kernel) rfl (Or.inr (Or.inl ⟨rfl, by omega⟩)) ?_
                        have TN : ∃ r : Bool × pQ × (Nat → Int), pCls t n s b = r ∧ r.1 = false ∧ fld h71 37 44 = ((r.2.1.1 : Nat) : Int) := by
                          first
                          | exact ⟨_, pCls_no NC, rfl, f76⟩
                          | exact ⟨_, pCls_f CC SF.1, rfl, SF.2⟩
                          | exact ⟨_, pCls_s CC SB.1 c64, rfl, f76⟩
                        obtain ⟨rN, tN, bN, fN⟩ := TN
                        exact ⟨Ih71, Rh71, Or.inr ⟨rfl, by rw [tN, bN]; exact Bool.false_ne_true, by rw [tN]; exact fN⟩⟩
                  · refine zwW_p [(24, 105, 0)] (q := 105) (ls' := [(2, 37), (0, kL2)]) (st' := []) (by decide +kernel) rfl ?_
                    have SF : ¬ (pBo t n s).1 = true ∧ fld h59 37 44 = (((pBo t n s).2.1 : Nat) : Int) := by unfold pBo pCb; first | (rw [if_pos (by omega)]; exact ⟨S88.b0 (by omega), (S88.fl (by omega)).2⟩) | (rw [if_neg (by omega)]; exact ⟨S99.b0 (by omega), (S99.fl (by omega)).2⟩)
                    refine zwW_p [(0, 0, 0)] (q := 106) (ls' := [(2, 37), (0, kL2)]) (st' := [(0, 0)]) (by decide +kernel) rfl ?_
                    refine zwW_ret (nx := 107) (a := 1) (b := 0) (by decide +kernel) rfl (Or.inr (Or.inl ⟨rfl, Or.inl rfl⟩)) ?_
                    have TN : ∃ r : Bool × pQ × (Nat → Int), pCls t n s b = r ∧ r.1 = false ∧ fld h59 37 44 = ((r.2.1.1 : Nat) : Int) := by
                      first
                      | exact ⟨_, pCls_no NC, rfl, f25⟩
                      | exact ⟨_, pCls_f CC SF.1, rfl, SF.2⟩
                      | exact ⟨_, pCls_s CC SB.1 rfl, rfl, f25⟩
                    obtain ⟨rN, tN, bN, fN⟩ := TN
                    exact ⟨Ih59, Rh59, Or.inr ⟨rfl, by rw [tN, bN]; exact Bool.false_ne_true, by rw [tN]; exact fN⟩⟩
              · exfalso; omega
            · exfalso; omega
      · refine zwW_p [(1, 0, 2), (1, 0, 2)] (q := 14) (ls' := [(2, 37), (0, kL2)]) (st' := [(2, 37), (2, 37)]) (by decide +kernel) rfl ?_
        refine zwW_gc IhL2 (kd := 13) (bn := 54) (n := 97) (c := 166) (nx := 17) (by decide +kernel) ?_
        refine zwW_p [(1, 1, 0)] (q := 18) (ls' := [(2, 37), (0, kL2)]) (st' := [(0, kL2), (2, 166), (2, 37)]) (by decide +kernel) rfl ?_
        refine zwW_wd5 IhL2 (nx := 19) (by decide +kernel) (by first | omega | exact ⟨by omega, by omega⟩) ?_
        refine zwW_cm IhL2 (op := 60) (k' := 246) (n := 1) (kd := 13) (m := 97) (nx := 22) (r := 37) (tl := [(2, (-12 - kL2))]) (st' := []) (by decide +kernel) rfl (by decide +kernel) rfl (m246_p hL2 IhL2 (-12 - kL2) t n s.1 (by first | omega | exact ⟨by omega, by omega⟩) iL2_0 iL2_1) ?_
        rintro x _ ⟨rfl, ⟨rfl, c77⟩ | ⟨rfl, c77⟩⟩
        · have NK2 : ((mWi (-12 - kL2) : Nat) : Int) = 13 + kL2 := by unfold mWi; rw [if_pos (by omega)]; omega
          rw [NK2] at c77
          refine zwif_eq (q := 30) (nx := 25) (by decide +kernel) (fun c78 => ?_) (fun c78 => ?_)
          · exfalso; omega
          · refine zwW_p [(1, 0, 2), (1, 1, 0)] (q := 27) (ls' := [(2, 37), (0, kL2)]) (st' := [(0, kL2), (2, 37)]) (by decide +kernel) rfl ?_
            refine zwW_ps IhL2 (kd := 13) (bn := 47) (n := 97) (lo := -1) (hi := 4) (nx := 30) (by decide +kernel) (by first | omega | exact ⟨by omega, by omega⟩) ?_
            intro h79 eh79 Ih79
            have th79_37_44 : fld h79 37 44 = fld hL2 37 44 := by rw [eh79]; exact fld_wr (by decide)
            have th79_37_45 : fld h79 37 45 = fld hL2 37 45 := by rw [eh79]; exact fld_wr (by decide)
            have th79_37_47 : fld h79 37 47 = kL2 := by rw [eh79]; exact fld_wr_eq (IhL2.s (a1 := 37) (a2 := 37) (k := 13) (n := 97) (by decide +kernel) (by decide) (by decide)) (by decide)
            have th79_37_41 : fld h79 37 41 = fld hL2 37 41 := by rw [eh79]; exact fld_wr (by decide)
            have th79_37_42 : fld h79 37 42 = fld hL2 37 42 := by rw [eh79]; exact fld_wr (by decide)
            have Bh79 : vB t n h79 := iL2_0.fr (zMR.one (a1 := 37) (a2 := 37) (j1 := 47) (j2 := 48) (by first | decide | exact ⟨by decide, by decide⟩) (by first | decide | exact ⟨by decide, by decide⟩) eh79) (by decide +kernel)
            have Kh79 := iL2_1.fr (zMR.one (a1 := 37) (a2 := 37) (j1 := 47) (j2 := 48) (by first | decide | exact ⟨by decide, by decide⟩) (by first | decide | exact ⟨by decide, by decide⟩) eh79) (by decide +kernel)
            have Gh79 := iL2_2.fr (zMR.one (a1 := 37) (a2 := 37) (j1 := 47) (j2 := 48) (by first | decide | exact ⟨by decide, by decide⟩) (by first | decide | exact ⟨by decide, by decide⟩) eh79) (by decide +kernel)
            have Rh79 : zMR ms201_q h h79 := RhL2.w (a1 := 37) (a2 := 37) (j1 := 47) (j2 := 48) (by decide +kernel) (by first | decide | exact ⟨by decide, by decide⟩) (by first | decide | exact ⟨by decide, by decide⟩) eh79
            have LF : (fld h79 37 47 = -1 ∧ ∀ j : Nat, (j : Int) < (kL2 + 1) → ¬ (pK t n s.1 = 1 ∧ pV t n s.1 = 13 + (j : Int))) ∨ (0 ≤ fld h79 37 47 ∧ fld h79 37 47 < (kL2 + 1) ∧ pK t n s.1 = 1 ∧ pV t n s.1 = 13 + fld h79 37 47) := by first | exact Or.inr ⟨by omega, by omega, c77.1, by have z := c77.2; omega⟩ | (rcases iL2_4 with ⟨f1, f2⟩ | ⟨f1, f2, f3, f4⟩; exact Or.inl ⟨f1, fun j hj => by by_cases z : (j : Int) < kL2; exact f2 j z; (rw [show (j : Int) = kL2 by omega]; exact c77)⟩; exact Or.inr ⟨f1, by omega, f3, f4⟩)
            refine zwW_inc (i := 1) (c := 1) (x := kL2) (nx := 33) (by decide +kernel) rfl (by first | omega | exact ⟨by omega, by omega⟩) (ls' := [(2, 37), (0, (kL2 + 1))]) rfl ?_
            refine zwW_p [(24, 7, 0)] (q := 7) (ls' := [(2, 37), (0, (kL2 + 1))]) (st' := []) (by decide +kernel) rfl ?_
            exact IHL2 ((1000 - (kL2 + 1))).toNat (by omega) (kL2 + 1) h79 rfl (Bh79) (Kh79) (Gh79) (by omega) (LF) Ih79 Rh79
        · have NK2 : ((mWi (-12 - kL2) : Nat) : Int) = 13 + kL2 := by unfold mWi; rw [if_pos (by omega)]; omega
          rw [NK2] at c77
          refine zwif_eq (q := 30) (nx := 25) (by decide +kernel) (fun c80 => ?_) (fun c80 => ?_)
          · have LF : (fld hL2 37 47 = -1 ∧ ∀ j : Nat, (j : Int) < (kL2 + 1) → ¬ (pK t n s.1 = 1 ∧ pV t n s.1 = 13 + (j : Int))) ∨ (0 ≤ fld hL2 37 47 ∧ fld hL2 37 47 < (kL2 + 1) ∧ pK t n s.1 = 1 ∧ pV t n s.1 = 13 + fld hL2 37 47) := by first | exact Or.inr ⟨by omega, by omega, c77.1, by have z := c77.2; omega⟩ | (rcases iL2_4 with ⟨f1, f2⟩ | ⟨f1, f2, f3, f4⟩; exact Or.inl ⟨f1, fun j hj => by by_cases z : (j : Int) < kL2; exact f2 j z; (rw [show (j : Int) = kL2 by omega]; exact c77)⟩; exact Or.inr ⟨f1, by omega, f3, f4⟩)
            refine zwW_inc (i := 1) (c := 1) (x := kL2) (nx := 33) (by decide +kernel) rfl (by first | omega | exact ⟨by omega, by omega⟩) (ls' := [(2, 37), (0, (kL2 + 1))]) rfl ?_
            refine zwW_p [(24, 7, 0)] (q := 7) (ls' := [(2, 37), (0, (kL2 + 1))]) (st' := []) (by decide +kernel) rfl ?_
            exact IHL2 ((1000 - (kL2 + 1))).toNat (by omega) (kL2 + 1) hL2 rfl (iL2_0) (iL2_1) (iL2_2) (by omega) (LF) IhL2 RhL2
          · exfalso; omega
  exact L2 _ 0 h1 rfl (Bh1) (Kh1) (Gh1) (by omega) (Or.inl ⟨by omega, fun j hj => by omega⟩) Ih1 Rh1
def ms121_q : Zms := [(37, 37, 42, 47), (37, 37, 47, 48), (149, 153, 0, 840), (163, 163, 0, 5)]
-- WheelLandModel.reads()V
theorem m121_q {sc : List Int} (h : Hp) (I : zI h) (t : pT) (n : Nat) (c : Nat → Int) (B : vB t n h) : zwC sc 232 121 [(2, 37)] h (zwRv (fun g => zI g ∧ zMR ms121_q h g ∧ (mE t n g (pRead t n c)))) := by
  refine zwC_of (D := 231) 2 (by decide +kernel) rfl (ls := [(2, 37), (9, 0)]) rfl ?_
  have R : zMR ms121_q h h := zMR.rf _ _
  have B2 := B.2.1
  refine zwW_p [(1, 0, 2), (0, -1, 0)] (q := 2) (ls' := [(2, 37), (9, 0)]) (st' := [(0, -1), (2, 37)]) (by decide +kernel) rfl ?_
  refine zwW_ps I (kd := 13) (bn := 44) (n := 97) (lo := -1) (hi := 400) (nx := 5) (by decide +kernel) (by first | decide | exact ⟨by decide, by decide⟩) ?_
  intro h1 eh1 Ih1
  have th1_37_41 : fld h1 37 41 = fld h 37 41 := by rw [eh1]; exact fld_wr (by decide)
  have th1_37_42 : fld h1 37 42 = fld h 37 42 := by rw [eh1]; exact fld_wr (by decide)
  have th1_37_44 : fld h1 37 44 = -1 := by rw [eh1]; exact fld_wr_eq (I.s (a1 := 37) (a2 := 37) (k := 13) (n := 97) (by decide +kernel) (by decide) (by decide)) (by decide)
  have Bh1 : vB t n h1 := B.fr (zMR.one (a1 := 37) (a2 := 37) (j1 := 44) (j2 := 45) (by first | decide | exact ⟨by decide, by decide⟩) (by first | decide | exact ⟨by decide, by decide⟩) eh1) (by decide +kernel)
  have Rh1 : zMR ms121_q h h1 := R.w (a1 := 37) (a2 := 37) (j1 := 44) (j2 := 45) (by decide +kernel) (by first | decide | exact ⟨by decide, by decide⟩) (by first | decide | exact ⟨by decide, by decide⟩) eh1
  refine zwW_p [(0, 0, 0), (2, 1, 0)] (q := 7) (ls' := [(2, 37), (0, 0)]) (st' := []) (by decide +kernel) rfl ?_
  have L2 : ∀ (n0 : Nat) (kL2 : Int) (hL2 : Hp), n0 = ((1000 - kL2)).toNat → (vB t n hL2) → (∀ c : Nat, (c : Int) < kL2 → fld hL2 163 c = 0) → (0 ≤ kL2 ∧ kL2 ≤ 5 ∧ fld hL2 37 44 = -1 ∧ fld hL2 37 41 = fld h 37 41) → zI hL2 → zMR ms121_q h hL2 → zwW sc (231) 121 7 [(2, 37), (0, kL2)] [] hL2 (zwRv (fun g => zI g ∧ zMR ms121_q h g ∧ (mE t n g (pRead t n c)))) := by
    intro n0
    induction n0 using Nat.strongRecOn with
    | ind n0 IHL2 =>
      intro kL2 hL2 hnL2 iL2_0 iL2_1 iL2_2 IhL2 RhL2
      refine zwW_p [(1, 1, 0), (0, 5, 0)] (q := 9) (ls' := [(2, 37), (0, kL2)]) (st' := [(0, 5), (0, kL2)]) (by decide +kernel) rfl ?_
      refine zwic_ge (q := 28) (nx := 12) (by decide +kernel) (fun c3 => ?_) (fun c3 => ?_)
      · refine zwW_p [(1, 0, 2), (0, 0, 0)] (q := 30) (ls' := [(2, 37), (0, kL2)]) (st' := [(0, 0), (2, 37)]) (by decide +kernel) rfl ?_
        refine zwW_ps IhL2 (kd := 13) (bn := 42) (n := 97) (lo := 0) (hi := 400) (nx := 33) (by decide +kernel) (by first | decide | exact ⟨by decide, by decide⟩) ?_
        intro h4 eh4 Ih4
        have th4_37_41 : fld h4 37 41 = fld hL2 37 41 := by rw [eh4]; exact fld_wr (by decide)
        have th4_37_42 : fld h4 37 42 = 0 := by rw [eh4]; exact fld_wr_eq (IhL2.s (a1 := 37) (a2 := 37) (k := 13) (n := 97) (by decide +kernel) (by decide) (by decide)) (by decide)
        have th4_37_44 : fld h4 37 44 = fld hL2 37 44 := by rw [eh4]; exact fld_wr (by decide)
        have Kh4_163 : fld h4 163 = fld hL2 163 := (funext fun j => fld_oth eh4 (Or.inl (by decide))).trans rfl
        have Bh4 : vB t n h4 := iL2_0.fr (zMR.one (a1 := 37) (a2 := 37) (j1 := 42) (j2 := 43) (by first | decide | exact ⟨by decide, by decide⟩) (by first | decide | exact ⟨by decide, by decide⟩) eh4) (by decide +kernel)
        have Rh4 : zMR ms121_q h h4 := RhL2.w (a1 := 37) (a2 := 37) (j1 := 42) (j2 := 43) (by decide +kernel) (by first | decide | exact ⟨by decide, by decide⟩) (by first | decide | exact ⟨by decide, by decide⟩) eh4
        refine zwW_p [(1, 0, 2)] (q := 34) (ls' := [(2, 37), (0, kL2)]) (st' := [(2, 37)]) (by decide +kernel) rfl ?_
        have Z34 : ∀ c : Nat, c < 5 → fld h4 163 c = 0 := fun c hc => by rw [congrFun Kh4_163 c]; exact iL2_1 c (by omega)
        refine zwW_cmv Ih4 (op := 60) (k' := 200) (n := 0) (kd := 13) (m := 97) (nx := 37) (r := 37) (tl := []) (st' := []) (by decide +kernel) rfl (by decide +kernel) rfl (m200_p h4 Ih4 t n 0 Bh4 (by omega) (Nat.zero_le _)) ?_
        rintro h6 ⟨Ih6, Qh6, f5⟩
        have Rh6 : zMR ms121_q h h6 := Rh4.tr Qh6 (by decide +kernel)
        have Bh6 : vB t n h6 := Bh4.fr Qh6 (by decide +kernel)
        have Kh6_163 : fld h6 163 = fld hL2 163 := (Qh6.fa (a := 163) (by decide +kernel) rfl).trans Kh4_163
        have th6_37_41 : fld h6 37 41 = fld h4 37 41 := Qh6.f (a1 := 37) (a2 := 37) (j1 := 41) (j2 := 42) (by decide +kernel) (by first | decide | exact ⟨by decide, by decide⟩) (by first | decide | exact ⟨by decide, by decide⟩)
        have th6_37_44 : fld h6 37 44 = fld h4 37 44 := Qh6.f (a1 := 37) (a2 := 37) (j1 := 44) (j2 := 45) (by decide +kernel) (by first | decide | exact ⟨by decide, by decide⟩) (by first | decide | exact ⟨by decide, by decide⟩)
        have MD : mD t n h6 (pRead t n c) := ⟨400, (pSk t n 0, 0, c), fun _ => -1, f5, fun d hd => Or.inl ⟨rfl, by rw [congrFun Kh6_163 d]; exact iL2_1 d (by omega)⟩, ⟨Nat.zero_le _, f5.2.1⟩, by omega, by have z := B.2.1; omega, rfl⟩
        refine zwW_p [(0, 1, 0), (2, 1, 0)] (q := 39) (ls' := [(2, 37), (0, 1)]) (st' := []) (by decide +kernel) rfl ?_
        have L7 : ∀ (n0 : Nat) (hL7 : Hp), n0 = (fld hL7 37 41 - fld hL7 37 42).toNat → (vB t n hL7) → (mD t n hL7 (pRead t n c)) → zI hL7 → zMR ms121_q h hL7 → zwW sc (231) 121 39 [(2, 37), (0, 1)] [] hL7 (zwRv (fun g => zI g ∧ zMR ms121_q h g ∧ (mE t n g (pRead t n c)))) := by
          intro n0
          induction n0 using Nat.strongRecOn with
          | ind n0 IHL7 =>
            intro hL7 hnL7 iL7_0 iL7_1 IhL7 RhL7
            obtain ⟨kL, qL, bL, KL, GL, WL, EL, NL, TL⟩ := iL7_1
            have AL := KL.1
            have BL := iL7_0.1
            refine zwW_p [(1, 1, 0)] (q := 40) (ls' := [(2, 37), (0, 1)]) (st' := [(0, 1)]) (by decide +kernel) rfl ?_
            refine zwif_eq (q := 62) (nx := 43) (by decide +kernel) (fun c8 => ?_) (fun c8 => ?_)
            · exfalso; omega
            · refine zwW_p [(1, 0, 2)] (q := 44) (ls' := [(2, 37), (0, 1)]) (st' := [(2, 37)]) (by decide +kernel) rfl ?_
              refine zwW_gs IhL7 (kd := 13) (bn := 42) (n := 97) (t := 0) (lo := 0) (hi := 400) (nx := 47) (by decide +kernel) ?_
              intro v9 ev9 lv9 uv9
              refine zwW_p [(1, 0, 2)] (q := 48) (ls' := [(2, 37), (0, 1)]) (st' := [(2, 37), (0, v9)]) (by decide +kernel) rfl ?_
              refine zwW_gs IhL7 (kd := 13) (bn := 41) (n := 97) (t := 0) (lo := 0) (hi := 400) (nx := 51) (by decide +kernel) ?_
              intro v10 ev10 lv10 uv10
              refine zwic_ge (q := 62) (nx := 54) (by decide +kernel) (fun c11 => ?_) (fun c11 => ?_)
              · refine zwW_retv (nx := 63) (a := 0) (b := 0) (by decide +kernel) ?_
                exact ⟨IhL7, RhL7, by first | exact Or.inl ⟨by rw [TL, pRd_z (Or.inr (pK_0.mpr (by omega)))], EL, by rw [TL, pRd_z (Or.inr (pK_0.mpr (by omega)))]; exact GL⟩ | exact Or.inr ⟨by rw [TL, pRd_f (k := kL - 1) (by omega) (by have z := (pK_0 (t := t) (n := n) (p := qL.1)); omega) {A0}]; exact {A0}, by rw [TL, pRd_f (k := kL - 1) (by omega) (by have z := (pK_0 (t := t) (n := n) (p := qL.1)); omega) {A0}]; exact {A1}⟩⟩
              · refine zwW_p [(1, 0, 2)] (q := 55) (ls' := [(2, 37), (0, 1)]) (st' := [(2, 37)]) (by decide +kernel) rfl ?_
                refine zwW_cm IhL7 (op := 60) (k' := 201) (n := 0) (kd := 13) (m := 97) (nx := 58) (r := 37) (tl := []) (st' := []) (by decide +kernel) rfl (by decide +kernel) rfl (m201_q hL7 IhL7 t n qL bL iL7_0 KL GL WL (by omega) EL) ?_
                rintro x h12 ⟨Ih12, Qh12, ⟨rfl, f13, f14, f15, f16⟩ | ⟨rfl, f17, f18⟩⟩
                · have Rh12 : zMR ms121_q h h12 := RhL7.tr Qh12 (by decide +kernel)
                  have Bh12 : vB t n h12 := iL7_0.fr Qh12 (by decide +kernel)
                  have th12_37_41 : fld h12 37 41 = fld hL7 37 41 := Qh12.f (a1 := 37) (a2 := 37) (j1 := 41) (j2 := 42) (by decide +kernel) (by first | decide | exact ⟨by decide, by decide⟩) (by first | decide | exact ⟨by decide, by decide⟩)
                  have PW := pCls_W WL f13
                  have A55 : fld h12 37 42 = (((pCls t n qL bL).2.1.1 : Nat) : Int) := f14.1
                  have P55 := PW.1.2
                  have Q55 := PW.2
                  have B55 := (Bh12).1
                  have LB : mD t n h12 (pRead t n c) := ⟨kL - 1, _, _, f14, f15, PW.1, f16, by have z := PW.2; omega, by rw [TL]; exact pRd_n (k := kL - 1) (by omega) (by have z := (pK_0 (t := t) (n := n) (p := qL.1)); omega) f13⟩
                  refine zwW_p [(2, 1, 0), (24, 39, 0)] (q := 39) (ls' := [(2, 37), (0, 1)]) (st' := []) (by decide +kernel) rfl ?_
                  exact IHL7 (fld h12 37 41 - fld h12 37 42).toNat (by omega) h12 rfl (Bh12) (LB) Ih12 Rh12
                · have Rh12 : zMR ms121_q h h12 := RhL7.tr Qh12 (by decide +kernel)
                  have Bh12 : vB t n h12 := iL7_0.fr Qh12 (by decide +kernel)
                  have th12_37_41 : fld h12 37 41 = fld hL7 37 41 := Qh12.f (a1 := 37) (a2 := 37) (j1 := 41) (j2 := 42) (by decide +kernel) (by first | decide | exact ⟨by decide, by decide⟩) (by first | decide | exact ⟨by decide, by decide⟩)
                  refine zwW_p [(2, 1, 0), (24, 39, 0)] (q := 39) (ls' := [(2, 37), (0, 0)]) (st' := []) (by decide +kernel) rfl ?_
                  refine zwW_p [(1, 1, 0)] (q := 40) (ls' := [(2, 37), (0, 0)]) (st' := [(0, 0)]) (by decide +kernel) rfl ?_
                  refine zwif_eq (q := 62) (nx := 43) (by decide +kernel) (fun c19 => ?_) (fun c19 => ?_)
                  · refine zwW_retv (nx := 63) (a := 0) (b := 0) (by decide +kernel) ?_
                    exact ⟨Ih12, Rh12, by first | exact Or.inl ⟨by rw [TL, pRd_z (Or.inr (pK_0.mpr (by omega)))], EL, by rw [TL, pRd_z (Or.inr (pK_0.mpr (by omega)))]; exact GL⟩ | exact Or.inr ⟨by rw [TL, pRd_f (k := kL - 1) (by omega) (by have z := (pK_0 (t := t) (n := n) (p := qL.1)); omega) f17]; exact f17, by rw [TL, pRd_f (k := kL - 1) (by omega) (by have z := (pK_0 (t := t) (n := n) (p := qL.1)); omega) f17]; exact f18⟩⟩
                  · exfalso; omega
        exact L7 _ h6 rfl (Bh6) (MD) Ih6 Rh6
      · refine zwW_p [(1, 0, 2)] (q := 13) (ls' := [(2, 37), (0, kL2)]) (st' := [(2, 37)]) (by decide +kernel) rfl ?_
        refine zwW_gc IhL2 (kd := 13) (bn := 49) (n := 97) (c := 154) (nx := 16) (by decide +kernel) ?_
        refine zwW_p [(0, 8, 0)] (q := 18) (ls' := [(2, 37), (0, kL2)]) (st' := [(0, 8), (2, 154)]) (by decide +kernel) rfl ?_
        refine zwW_ro IhL2 (a := 154) (n := 9) (kd := 26) (base := 155) (step := 1) (nx := 19) (by decide +kernel) rfl (by first | decide | exact ⟨by decide, by decide⟩) ?_
        rw [show ((155 : Nat) : Int) + ((1 : Nat) : Int) * 8 = 163 from rfl]
        refine zwW_p [(1, 1, 0), (0, 0, 0)] (q := 21) (ls' := [(2, 37), (0, kL2)]) (st' := [(0, 0), (0, kL2), (2, 163)]) (by decide +kernel) rfl ?_
        have ib1 : 0 ≤ kL2 ∧ kL2 < ((5 : Nat) : Int) := (by first | omega | exact ⟨by omega, by omega⟩)
        refine zwW_as IhL2 (a1 := 155) (a2 := 163) (n := 5) (lo := 0) (hi := 400) (nx := 22) (by decide +kernel) (by first | decide | exact ⟨by decide, by decide⟩) ib1 (by first | decide | exact ⟨by decide, by decide⟩) ?_
        intro h20 eh20 Ih20
        have jbh20 : 0 ≤ kL2.toNat ∧ kL2.toNat < 5 := ⟨Nat.zero_le _, zit ib1⟩
        have th20_37_41 : fld h20 37 41 = fld hL2 37 41 := by rw [eh20]; exact fld_wr (Or.inl (by decide))
        have th20_37_42 : fld h20 37 42 = fld hL2 37 42 := by rw [eh20]; exact fld_wr (Or.inl (by decide))
        have th20_37_44 : fld h20 37 44 = fld hL2 37 44 := by rw [eh20]; exact fld_wr (Or.inl (by decide))
        have W21 : ∀ c : Nat, (c : Int) < kL2 + 1 → fld h20 163 c = 0 := by
          intro c hc
          by_cases hq : c = (kL2).toNat
          · rw [hq, eh20]; exact fld_wr_eq (IhL2.s (a1 := 155) (a2 := 163) (k := 20) (n := 5) (by decide +kernel) (by decide) (by decide)) (by omega)
          · rw [eh20, fld_wr (Or.inr hq)]; exact iL2_1 c (by omega)
        have Bh20 : vB t n h20 := iL2_0.fr (zMR.one (a1 := 163) (a2 := 163) (j1 := 0) (j2 := 5) (by first | decide | exact ⟨by decide, by decide⟩) jbh20 eh20) (by decide +kernel)
        have Rh20 : zMR ms121_q h h20 := RhL2.w (a1 := 163) (a2 := 163) (j1 := 0) (j2 := 5) (by decide +kernel) (by first | decide | exact ⟨by decide, by decide⟩) jbh20 eh20
        refine zwW_inc (i := 1) (c := 1) (x := kL2) (nx := 25) (by decide +kernel) rfl (by first | omega | exact ⟨by omega, by omega⟩) (ls' := [(2, 37), (0, (kL2 + 1))]) rfl ?_
        refine zwW_p [(24, 7, 0)] (q := 7) (ls' := [(2, 37), (0, (kL2 + 1))]) (st' := []) (by decide +kernel) rfl ?_
        exact IHL2 ((1000 - (kL2 + 1))).toNat (by omega) (kL2 + 1) h20 rfl (Bh20) (W21) (by omega) Ih20 Rh20
  exact L2 _ 0 h1 rfl (Bh1) (fun c hc => by omega) (by omega) Ih1 Rh1
def ms28_q : Zms := [(37, 37, 42, 47), (37, 37, 47, 48), (149, 153, 0, 840), (163, 163, 0, 5)]
-- WheelLandModel.fault()I
theorem m28_q {sc : List Int} (h : Hp) (I : zI h) (t : pT) (n : Nat) (c : Nat → Int) (B : vB t n h) : zwC sc 233 28 [(2, 37)] h (zwRt 0 (fun x g => zI g ∧ zMR ms28_q h g ∧ (-2147483648 ≤ x ∧ x ≤ 2147483647) ∧ (x = pFa t n c))) := by
  refine zwC_of (D := 232) 1 (by decide +kernel) rfl (ls := [(2, 37)]) rfl ?_
  have R : zMR ms28_q h h := zMR.rf _ _
  refine zwW_p [(1, 0, 2)] (q := 1) (ls' := [(2, 37)]) (st' := [(2, 37)]) (by decide +kernel) rfl ?_
  refine zwW_cmv I (op := 60) (k' := 121) (n := 0) (kd := 13) (m := 97) (nx := 4) (r := 37) (tl := []) (st' := []) (by decide +kernel) rfl (by decide +kernel) rfl (m121_q h I t n c B) ?_
  rintro h2 ⟨Ih2, Qh2, f1⟩
  have Rh2 : zMR ms28_q h h2 := R.tr Qh2 (by decide +kernel)
  refine zwW_p [(1, 0, 2)] (q := 5) (ls' := [(2, 37)]) (st' := [(2, 37)]) (by decide +kernel) rfl ?_
  refine zwW_gs Ih2 (kd := 13) (bn := 44) (n := 97) (t := 0) (lo := -1) (hi := 400) (nx := 8) (by decide +kernel) ?_
  intro v3 ev3 lv3 uv3
  refine zwW_ret (nx := 9) (a := 0) (b := 0) (by decide +kernel) rfl (Or.inl rfl) ?_
  exact ⟨Ih2, Rh2, by omega, by have z := f1.fx; omega⟩
end
section
/-! the TEXT's bytes on both sides -/
section TX
variable {f f2 : Nat → Int} {n k i j : Nat} {v x y z : Int}
theorem i_and255 (z : Int) : 0 ≤ i_and z 255 ∧ i_and z 255 ≤ 255 ∧ i_byt (i_and z 255) = i_byt z := by
  have e : i_and z 255 = ((z32 z % 256 : Nat) : Int) := by
    unfold i_and
    rw [show z32 255 = 2 ^ 8 - 1 from rfl, Nat.and_two_pow_sub_one_eq_mod]
    unfold w32
    omega
  rw [e]
  unfold i_byt z32
  omega
theorem i_byt2 (z : Int) : i_byt (i_byt z) = i_byt z := by
  unfold i_byt
  omega
theorem zu_cg {f f2 : Nat → Int} (h1 : f = f2) (h2 : i = j) (h3 : x = y) : zu f i x = zu f2 j y := by rw [h1, h2, h3]
/-- what four bytes put, in the class and in the model -/
def fBx (f : Nat → Int) (n : Nat) (v : Int) : Nat → (Nat → Int)
  | 0 => f
  | k + 1 => zu (fBx f n v k) (n + k) (i_and (i_ushr v (24 - 8 * (k : Int))) 255)
def fBm (f : Nat → Int) (n : Nat) (v : Int) : Nat → (Nat → Int)
  | 0 => f
  | k + 1 => zu (fBm f n v k) (n + k) (i_byt (i_ushr v (8 * (3 - (k : Int)))))
def fRel (f f2 : Nat → Int) : Prop := ∀ i, i < 400 → (0 ≤ f i ∧ f i ≤ 255) ∧ f2 i = i_byt (f i)
theorem fRel.st (R : fRel f f2) (n : Nat) (v : Int) : ∀ k : Nat, fRel (fBx f n v k) (fBm f2 n v k)
  | 0 => R
  | k + 1 => fun i hi => by
    have q := i_and255 (i_ushr v (24 - 8 * (k : Int)))
    show (0 ≤ zu (fBx f n v k) (n + k) (i_and (i_ushr v (24 - 8 * (k : Int))) 255) i ∧ zu (fBx f n v k) (n + k) (i_and (i_ushr v (24 - 8 * (k : Int))) 255) i ≤ 255) ∧ zu (fBm f2 n v k) (n + k) (i_byt (i_ushr v (8 * (3 - (k : Int))))) i = i_byt (zu (fBx f n v k) (n + k) (i_and (i_ushr v (24 - 8 * (k : Int))) 255) i)
    by_cases c : i = n + k
    · rw [c, zu_eq, zu_eq, q.2.2, show 24 - 8 * (k : Int) = 8 * (3 - (k : Int)) by omega]
      rw [show 24 - 8 * (k : Int) = 8 * (3 - (k : Int)) by omega] at q
      exact ⟨⟨q.1, q.2.1⟩, rfl⟩
    · rw [zu_ne c, zu_ne c]
      exact fRel.st R n v k i hi
def fB5x (f : Nat → Int) (n : Nat) (a b c d e : Int) : Nat → Int := fBx (fBx (fBx (fBx (fBx f n a 4) (n + 4) b 4) (n + 8) c 4) (n + 12) d 4) (n + 16) e 4
def fB5m (f : Nat → Int) (n : Nat) (a b c d e : Int) : Nat → Int := fBm (fBm (fBm (fBm (fBm f n a 4) (n + 4) b 4) (n + 8) c 4) (n + 12) d 4) (n + 16) e 4
theorem fRel.st5 (R : fRel f f2) (n : Nat) (a b c d e : Int) : fRel (fB5x f n a b c d e) (fB5m f2 n a b c d e) := ((((R.st n a 4).st (n + 4) b 4).st (n + 8) c 4).st (n + 12) d 4).st (n + 16) e 4
end TX
end
section
/-! contracts of the class -/
-- WheelLand$Reader.hasRoomFor(I)Z
theorem x117_q {sc : List Int} (h : Hp) (C : CI h) (a : Int) (q_a : -2147483648 ≤ a ∧ a ≤ 2147483647) (pa : 0 ≤ a ∧ a ≤ 400) : zwC sc 1 117 [(2, 9), (0, a)] h (zwRt 0 (fun x g => h = g ∧ ((x = 1 ∧ (fld h 9 0 + a ≤ 400)) ∨ (x = 0 ∧ (400 < fld h 9 0 + a))))) := by
  refine zwC_of (D := 0) 2 (by decide +kernel) rfl (ls := [(2, 9), (0, a)]) rfl ?_
  refine zwW_p [(1, 0, 2)] (q := 1) (ls' := [(2, 9), (0, a)]) (st' := [(2, 9)]) (by decide +kernel) rfl ?_
  refine zwW_gs C.1 (kd := 7) (bn := 0) (n := 9) (t := 0) (lo := 0) (hi := 400) (nx := 4) (by decide +kernel) ?_
  intro v1 ev1 lv1 uv1
  refine zwW_p [(1, 1, 0)] (q := 5) (ls' := [(2, 9), (0, a)]) (st' := [(0, a), (0, v1)]) (by decide +kernel) rfl ?_
  refine zwW_add (nx := 6) (by decide +kernel) (by first | omega | exact ⟨by omega, by omega⟩) ?_
  refine zwW_p [(1, 0, 2)] (q := 7) (ls' := [(2, 9), (0, a)]) (st' := [(2, 9), (0, (v1 + a))]) (by decide +kernel) rfl ?_
  refine zwW_gc C.1 (kd := 7) (bn := 1) (n := 9) (c := 10) (nx := 10) (by decide +kernel) ?_
  refine zwW_len (kd := 20) (n := 400) (nx := 11) (by decide +kernel) (C.1.s (a1 := 10) (a2 := 10) (by decide +kernel) (by omega) (by omega)) rfl ?_
  refine zwic_gt (q := 18) (nx := 14) (by decide +kernel) (fun c2 => ?_) (fun c2 => ?_)
  · refine zwW_p [(0, 0, 0)] (q := 19) (ls' := [(2, 9), (0, a)]) (st' := [(0, 0)]) (by decide +kernel) rfl ?_
    refine zwW_ret (nx := 20) (a := 1) (b := 0) (by decide +kernel) rfl (Or.inr (Or.inl ⟨rfl, Or.inl rfl⟩)) ?_
    exact ⟨rfl, Or.inr ⟨rfl, by omega⟩⟩
  · refine zwW_p [(0, 1, 0), (24, 19, 0)] (q := 19) (ls' := [(2, 9), (0, a)]) (st' := [(0, 1)]) (by decide +kernel) rfl ?_
    refine zwW_ret (nx := 20) (a := 1) (b := 0) (by decide +kernel) rfl (Or.inr (Or.inl ⟨rfl, Or.inr rfl⟩)) ?_
    exact ⟨rfl, Or.inl ⟨rfl, by omega⟩⟩
def msx118_q : Zms := [(9, 9, 0, 1), (10, 10, 0, 400)]
-- WheelLand$Reader.append(I)V
theorem x118_q {sc : List Int} (h : Hp) (C : CI h) (a : Int) (f : Nat → Int) (n : Nat) (q_a : -2147483648 ≤ a ∧ a ≤ 2147483647) (hf : fld h 10 = f) (hn : fld h 9 0 = (n : Int)) (hr : n ≤ 396) : zwC sc 1 118 [(2, 9), (0, a)] h (zwRv (fun g => CI g ∧ zXR msx118_q (0) (0) h g ∧ (fld g 10 = fBx f n a 4) ∧ (fld g 9 0 = (n : Int) + 4))) := by
  refine zwC_of (D := 0) 3 (by decide +kernel) rfl (ls := [(2, 9), (0, a), (9, 0)]) rfl ?_
  have X : zXR msx118_q 0 0 h h := zXR.rf _ _
  refine zwW_p [(0, 24, 0), (2, 2, 0)] (q := 3) (ls' := [(2, 9), (0, a), (0, 24)]) (st' := []) (by decide +kernel) rfl ?_
  have L1 : ∀ (n0 : Nat) (vL1 : Int) (hL1 : Hp), n0 = ((vL1 + 8)).toNat → (fld hL1 10 = fBx f n a ((24 - vL1) / 8).toNat) → (fld hL1 9 0 = (n : Int) + (24 - vL1) / 8 ∧ (24 - vL1) % 8 = 0) → (-8 ≤ vL1 ∧ vL1 ≤ 24) → CI hL1 → zXR msx118_q (0) (0) h hL1 → zwW sc (0) 118 3 [(2, 9), (0, a), (0, vL1)] [] hL1 (zwRv (fun g => CI g ∧ zXR msx118_q (0) (0) h g ∧ (fld g 10 = fBx f n a 4) ∧ (fld g 9 0 = (n : Int) + 4))) := by
    intro n0
    induction n0 using Nat.strongRecOn with
    | ind n0 IHL1 =>
      intro vL1 hL1 hnL1 iL1_0 iL1_1 iL1_2 ChL1 XhL1
      refine zwW_p [(1, 2, 0)] (q := 4) (ls' := [(2, 9), (0, a), (0, vL1)]) (st' := [(0, vL1)]) (by decide +kernel) rfl ?_
      refine zwif_lt (q := 51) (nx := 7) (by decide +kernel) (fun c2 => ?_) (fun c2 => ?_)
      · refine zwW_retv (nx := 52) (a := 0) (b := 0) (by decide +kernel) ?_
        exact ⟨ChL1, XhL1.le (by decide) (by decide), by have z := iL1_0; rwa [show ((24 - vL1) / 8).toNat = 4 by omega] at z, by omega⟩
      · refine zwW_p [(1, 0, 2)] (q := 8) (ls' := [(2, 9), (0, a), (0, vL1)]) (st' := [(2, 9)]) (by decide +kernel) rfl ?_
        refine zwW_gs ChL1.1 (kd := 7) (bn := 0) (n := 9) (t := 0) (lo := 0) (hi := 400) (nx := 11) (by decide +kernel) ?_
        intro v3 ev3 lv3 uv3
        refine zwW_p [(1, 0, 2)] (q := 12) (ls' := [(2, 9), (0, a), (0, vL1)]) (st' := [(2, 9), (0, v3)]) (by decide +kernel) rfl ?_
        refine zwW_gc ChL1.1 (kd := 7) (bn := 1) (n := 9) (c := 10) (nx := 15) (by decide +kernel) ?_
        refine zwW_len (kd := 20) (n := 400) (nx := 16) (by decide +kernel) (ChL1.1.s (a1 := 10) (a2 := 10) (by decide +kernel) (by omega) (by omega)) rfl ?_
        refine zwic_ge (q := 51) (nx := 19) (by decide +kernel) (fun c4 => ?_) (fun c4 => ?_)
        · refine zwW_retv (nx := 52) (a := 0) (b := 0) (by decide +kernel) ?_
          exact ⟨ChL1, XhL1.le (by decide) (by decide), by have z := iL1_0; rwa [show ((24 - vL1) / 8).toNat = 4 by omega] at z, by omega⟩
        · refine zwW_p [(1, 0, 2)] (q := 20) (ls' := [(2, 9), (0, a), (0, vL1)]) (st' := [(2, 9)]) (by decide +kernel) rfl ?_
          refine zwW_gc ChL1.1 (kd := 7) (bn := 1) (n := 9) (c := 10) (nx := 23) (by decide +kernel) ?_
          refine zwW_p [(1, 0, 2)] (q := 24) (ls' := [(2, 9), (0, a), (0, vL1)]) (st' := [(2, 9), (2, 10)]) (by decide +kernel) rfl ?_
          refine zwW_gs ChL1.1 (kd := 7) (bn := 0) (n := 9) (t := 0) (lo := 0) (hi := 400) (nx := 27) (by decide +kernel) ?_
          intro v5 ev5 lv5 uv5
          refine zwW_p [(1, 1, 0)] (q := 28) (ls' := [(2, 9), (0, a), (0, vL1)]) (st' := [(0, a), (0, v5), (2, 10)]) (by decide +kernel) rfl ?_
          refine zwW_p [(1, 2, 0)] (q := 29) (ls' := [(2, 9), (0, a), (0, vL1)]) (st' := [(0, vL1), (0, a), (0, v5), (2, 10)]) (by decide +kernel) rfl ?_
          refine zwW_ib (a := 10) (nx := 30) (by decide +kernel) rfl ?_
          refine zwW_p [(0, 255, 0)] (q := 33) (ls' := [(2, 9), (0, a), (0, vL1)]) (st' := [(0, 255), (0, (i_ushr a vL1)), (0, v5), (2, 10)]) (by decide +kernel) rfl ?_
          refine zwW_ib (a := 5) (nx := 34) (by decide +kernel) rfl ?_
          generalize gw34 : (i_and (i_ushr a vL1) 255) = w34
          have b34 : 0 ≤ w34 ∧ w34 ≤ 255 := by rw [← gw34]; exact ⟨(i_and255 _).1, (i_and255 _).2.1⟩
          have ib1 : 0 ≤ v5 ∧ v5 < ((400 : Nat) : Int) := (by first | omega | exact ⟨by omega, by omega⟩)
          refine zwW_as ChL1.1 (a1 := 10) (a2 := 10) (n := 400) (lo := -2147483648) (hi := 2147483647) (nx := 35) (by decide +kernel) (by first | decide | exact ⟨by decide, by decide⟩) ib1 (by first | omega | exact ⟨by omega, by omega⟩) ?_
          intro h6 eh6 Ih6
          have Ch6 : CI h6 := ChL1.wc eh6 Ih6 (by decide) (by decide)
          have Qh6 : zXR [(10, 10, 0, 400)] 0 0 hL1 h6 := zXR.wc eh6 rfl ⟨by decide, by decide, Or.inl (by decide)⟩ (by first | omega | exact ⟨by omega, by omega⟩)
          have kh6_10 : fld h6 10 = (zu (fBx f n a ((24 - vL1) / 8).toNat) v5.toNat w34) := by rw [fld_zu (ChL1.1.s (a1 := 10) (a2 := 10) (k := 20) (n := 400) (by decide +kernel) (by decide) (by decide)) (by omega) eh6, iL1_0]
          have Xh6 : zXR msx118_q (0) (0) h h6 := XhL1.tr (c2 := 0) (s2 := 0) Qh6 (by decide +kernel) (by decide) (by decide)
          have th6_9_0 : fld h6 9 0 = fld hL1 9 0 := Qh6.f (a1 := 9) (a2 := 9) (j1 := 0) (j2 := 1) (by decide +kernel) (by first | decide | exact ⟨by decide, by decide⟩) (by first | decide | exact ⟨by decide, by decide⟩) (by first | decide | exact ⟨by decide, by decide⟩)
          have K35 : fld h6 10 = fBx f n a (((24 - vL1) / 8).toNat + 1) := kh6_10.trans (zu_cg rfl (show _ = n + ((24 - vL1) / 8).toNat by omega) (gw34.symm.trans (by rw [show 24 - 8 * ((((24 - vL1) / 8).toNat : Nat) : Int) = vL1 by omega])))
          refine zwW_p [(1, 0, 2), (12, 0, 0)] (q := 37) (ls' := [(2, 9), (0, a), (0, vL1)]) (st' := [(2, 9), (2, 9)]) (by decide +kernel) rfl ?_
          refine zwW_gs Ch6.1 (kd := 7) (bn := 0) (n := 9) (t := 0) (lo := 0) (hi := 400) (nx := 40) (by decide +kernel) ?_
          intro v7 ev7 lv7 uv7
          refine zwW_p [(0, 1, 0)] (q := 41) (ls' := [(2, 9), (0, a), (0, vL1)]) (st' := [(0, 1), (0, v7), (2, 9)]) (by decide +kernel) rfl ?_
          refine zwW_add (nx := 42) (by decide +kernel) (by first | omega | exact ⟨by omega, by omega⟩) ?_
          refine zwW_ps Ch6.1 (kd := 7) (bn := 0) (n := 9) (lo := 0) (hi := 400) (nx := 45) (by decide +kernel) (by first | omega | exact ⟨by omega, by omega⟩) ?_
          intro h8 eh8 Ih8
          have Ch8 : CI h8 := Ch6.wc eh8 Ih8 (by decide) (by decide)
          have Qh8 : zXR [(9, 9, 0, 1)] 0 0 h6 h8 := zXR.wc eh8 rfl ⟨by decide, by decide, Or.inl (by decide)⟩ (by first | decide | exact ⟨by decide, by decide⟩)
          have Xh8 : zXR msx118_q (0) (0) h h8 := Xh6.tr (c2 := 0) (s2 := 0) Qh8 (by decide +kernel) (by decide) (by decide)
          have kh8_10 : fld h8 10 = (zu (fBx f n a ((24 - vL1) / 8).toNat) v5.toNat w34) := (Qh8.fa (a := 10) (by decide +kernel) (by decide)).trans kh6_10
          have th8_9_0 : fld h8 9 0 = (v7 + 1) := by rw [eh8]; exact fld_wr_eq (Ch6.1.s (a1 := 9) (a2 := 9) (k := 7) (n := 9) (by decide +kernel) (by decide) (by decide)) (by decide)
          refine zwW_inc (i := 2) (c := -8) (x := vL1) (nx := 48) (by decide +kernel) rfl (by first | omega | exact ⟨by omega, by omega⟩) (ls' := [(2, 9), (0, a), (0, (vL1 + (-8)))]) rfl ?_
          refine zwW_p [(24, 3, 0)] (q := 3) (ls' := [(2, 9), (0, a), (0, (vL1 + (-8)))]) (st' := []) (by decide +kernel) rfl ?_
          exact IHL1 (((vL1 + (-8)) + 8)).toNat (by omega) (vL1 + (-8)) h8 rfl (by rw [show ((24 - (vL1 + -8)) / 8).toNat = ((24 - vL1) / 8).toNat + 1 by omega]; exact kh8_10.trans (kh6_10.symm.trans K35)) (by omega) (by omega) Ch8 (Xh8.le (by decide) (by decide))
  exact L1 _ 24 h rfl (hf) (by omega) (by omega) C (X.le (by decide) (by decide))
def msx23_q : Zms := [(9, 9, 0, 1), (10, 10, 0, 400)]
-- WheelLand.feed(IIIII)I
theorem x23_q {sc : List Int} (h : Hp) (C : CI h) (a b c d e : Int) (f : Nat → Int) (n : Nat) (q_a : -2147483648 ≤ a ∧ a ≤ 2147483647) (q_b : -2147483648 ≤ b ∧ b ≤ 2147483647) (q_c : -2147483648 ≤ c ∧ c ≤ 2147483647) (q_d : -2147483648 ≤ d ∧ d ≤ 2147483647) (q_e : -2147483648 ≤ e ∧ e ≤ 2147483647) (hf : fld h 10 = f) (hn : fld h 9 0 = (n : Int)) : zwC sc 2 23 [(2, 1), (0, a), (0, b), (0, c), (0, d), (0, e)] h (zwRt 0 (fun x g => CI g ∧ zXR msx23_q (0) (0) h g ∧ (-2147483648 ≤ x ∧ x ≤ 2147483647) ∧ ((x = (n : Int) + 20 ∧ n ≤ 380 ∧ fld g 9 0 = (n : Int) + 20 ∧ fld g 10 = fB5x f n a b c d e) ∨ (x = -1 ∧ g = h ∧ 380 < n)))) := by
  refine zwC_of (D := 1) 6 (by decide +kernel) rfl (ls := [(2, 1), (0, a), (0, b), (0, c), (0, d), (0, e)]) rfl ?_
  have X : zXR msx23_q 0 0 h h := zXR.rf _ _
  refine zwW_p [(1, 0, 2)] (q := 1) (ls' := [(2, 1), (0, a), (0, b), (0, c), (0, d), (0, e)]) (st' := [(2, 1)]) (by decide +kernel) rfl ?_
  refine zwW_gc C.1 (kd := 12) (bn := 7) (n := 13) (c := 9) (nx := 4) (by decide +kernel) ?_
  refine zwW_p [(0, 20, 0)] (q := 6) (ls' := [(2, 1), (0, a), (0, b), (0, c), (0, d), (0, e)]) (st' := [(0, 20), (2, 9)]) (by decide +kernel) rfl ?_
  refine zwW_cm C.1 (op := 60) (k' := 117) (n := 1) (kd := 7) (m := 9) (nx := 9) (r := 9) (tl := [(0, 20)]) (st' := []) (by decide +kernel) rfl (by decide +kernel) rfl (x117_q h C 20 (by omega) (by omega)) ?_
  rintro x _ ⟨rfl, ⟨rfl, c1⟩ | ⟨rfl, c1⟩⟩
  · refine zwif_ne (q := 14) (nx := 12) (by decide +kernel) (fun c2 => ?_) (fun c2 => ?_)
    · refine zwW_p [(1, 0, 2)] (q := 15) (ls' := [(2, 1), (0, a), (0, b), (0, c), (0, d), (0, e)]) (st' := [(2, 1)]) (by decide +kernel) rfl ?_
      refine zwW_gc C.1 (kd := 12) (bn := 7) (n := 13) (c := 9) (nx := 18) (by decide +kernel) ?_
      refine zwW_p [(1, 1, 0)] (q := 19) (ls' := [(2, 1), (0, a), (0, b), (0, c), (0, d), (0, e)]) (st' := [(0, a), (2, 9)]) (by decide +kernel) rfl ?_
      refine zwW_cmv C.1 (op := 60) (k' := 118) (n := 1) (kd := 7) (m := 9) (nx := 22) (r := 9) (tl := [(0, a)]) (st' := []) (by decide +kernel) rfl (by decide +kernel) rfl (x118_q h C a f n (by omega) hf hn (by omega)) ?_
      rintro h5 ⟨Ch5, Qh5, f3, f4⟩
      have Xh5 : zXR msx23_q (0) (0) h h5 := X.tr (c2 := 0) (s2 := 0) Qh5 (by decide +kernel) (by decide) (by decide)
      refine zwW_p [(1, 0, 2)] (q := 23) (ls' := [(2, 1), (0, a), (0, b), (0, c), (0, d), (0, e)]) (st' := [(2, 1)]) (by decide +kernel) rfl ?_
      refine zwW_gc Ch5.1 (kd := 12) (bn := 7) (n := 13) (c := 9) (nx := 26) (by decide +kernel) ?_
      refine zwW_p [(1, 2, 0)] (q := 27) (ls' := [(2, 1), (0, a), (0, b), (0, c), (0, d), (0, e)]) (st' := [(0, b), (2, 9)]) (by decide +kernel) rfl ?_
      refine zwW_cmv Ch5.1 (op := 60) (k' := 118) (n := 1) (kd := 7) (m := 9) (nx := 30) (r := 9) (tl := [(0, b)]) (st' := []) (by decide +kernel) rfl (by decide +kernel) rfl (x118_q h5 Ch5 b (fBx f n a 4) (n + 4) (by omega) f3 (by omega) (by omega)) ?_
      rintro h8 ⟨Ch8, Qh8, f6, f7⟩
      have Xh8 : zXR msx23_q (0) (0) h h8 := Xh5.tr (c2 := 0) (s2 := 0) Qh8 (by decide +kernel) (by decide) (by decide)
      refine zwW_p [(1, 0, 2)] (q := 31) (ls' := [(2, 1), (0, a), (0, b), (0, c), (0, d), (0, e)]) (st' := [(2, 1)]) (by decide +kernel) rfl ?_
      refine zwW_gc Ch8.1 (kd := 12) (bn := 7) (n := 13) (c := 9) (nx := 34) (by decide +kernel) ?_
      refine zwW_p [(1, 3, 0)] (q := 35) (ls' := [(2, 1), (0, a), (0, b), (0, c), (0, d), (0, e)]) (st' := [(0, c), (2, 9)]) (by decide +kernel) rfl ?_
      refine zwW_cmv Ch8.1 (op := 60) (k' := 118) (n := 1) (kd := 7) (m := 9) (nx := 38) (r := 9) (tl := [(0, c)]) (st' := []) (by decide +kernel) rfl (by decide +kernel) rfl (x118_q h8 Ch8 c (fBx (fBx f n a 4) (n + 4) b 4) (n + 8) (by omega) f6 (by omega) (by omega)) ?_
      rintro h11 ⟨Ch11, Qh11, f9, f10⟩
      have Xh11 : zXR msx23_q (0) (0) h h11 := Xh8.tr (c2 := 0) (s2 := 0) Qh11 (by decide +kernel) (by decide) (by decide)
      refine zwW_p [(1, 0, 2)] (q := 39) (ls' := [(2, 1), (0, a), (0, b), (0, c), (0, d), (0, e)]) (st' := [(2, 1)]) (by decide +kernel) rfl ?_
      refine zwW_gc Ch11.1 (kd := 12) (bn := 7) (n := 13) (c := 9) (nx := 42) (by decide +kernel) ?_
      refine zwW_p [(1, 4, 0)] (q := 44) (ls' := [(2, 1), (0, a), (0, b), (0, c), (0, d), (0, e)]) (st' := [(0, d), (2, 9)]) (by decide +kernel) rfl ?_
      refine zwW_cmv Ch11.1 (op := 60) (k' := 118) (n := 1) (kd := 7) (m := 9) (nx := 47) (r := 9) (tl := [(0, d)]) (st' := []) (by decide +kernel) rfl (by decide +kernel) rfl (x118_q h11 Ch11 d (fBx (fBx (fBx f n a 4) (n + 4) b 4) (n + 8) c 4) (n + 12) (by omega) f9 (by omega) (by omega)) ?_
      rintro h14 ⟨Ch14, Qh14, f12, f13⟩
      have Xh14 : zXR msx23_q (0) (0) h h14 := Xh11.tr (c2 := 0) (s2 := 0) Qh14 (by decide +kernel) (by decide) (by decide)
      refine zwW_p [(1, 0, 2)] (q := 48) (ls' := [(2, 1), (0, a), (0, b), (0, c), (0, d), (0, e)]) (st' := [(2, 1)]) (by decide +kernel) rfl ?_
      refine zwW_gc Ch14.1 (kd := 12) (bn := 7) (n := 13) (c := 9) (nx := 51) (by decide +kernel) ?_
      refine zwW_p [(1, 5, 0)] (q := 53) (ls' := [(2, 1), (0, a), (0, b), (0, c), (0, d), (0, e)]) (st' := [(0, e), (2, 9)]) (by decide +kernel) rfl ?_
      refine zwW_cmv Ch14.1 (op := 60) (k' := 118) (n := 1) (kd := 7) (m := 9) (nx := 56) (r := 9) (tl := [(0, e)]) (st' := []) (by decide +kernel) rfl (by decide +kernel) rfl (x118_q h14 Ch14 e (fBx (fBx (fBx (fBx f n a 4) (n + 4) b 4) (n + 8) c 4) (n + 12) d 4) (n + 16) (by omega) f12 (by omega) (by omega)) ?_
      rintro h17 ⟨Ch17, Qh17, f15, f16⟩
      have Xh17 : zXR msx23_q (0) (0) h h17 := Xh14.tr (c2 := 0) (s2 := 0) Qh17 (by decide +kernel) (by decide) (by decide)
      refine zwW_p [(1, 0, 2)] (q := 57) (ls' := [(2, 1), (0, a), (0, b), (0, c), (0, d), (0, e)]) (st' := [(2, 1)]) (by decide +kernel) rfl ?_
      refine zwW_gc Ch17.1 (kd := 12) (bn := 7) (n := 13) (c := 9) (nx := 60) (by decide +kernel) ?_
      refine zwW_gs Ch17.1 (kd := 7) (bn := 0) (n := 9) (t := 0) (lo := 0) (hi := 400) (nx := 63) (by decide +kernel) ?_
      intro v18 ev18 lv18 uv18
      refine zwW_ret (nx := 64) (a := 0) (b := 0) (by decide +kernel) rfl (Or.inl rfl) ?_
      exact ⟨Ch17, Xh17.le (by decide) (by decide), by omega, by first | exact Or.inr ⟨by omega, rfl, by omega⟩ | exact Or.inl ⟨by omega, by omega, by omega, f15⟩⟩
    · exfalso; omega
  · refine zwif_ne (q := 14) (nx := 12) (by decide +kernel) (fun c19 => ?_) (fun c19 => ?_)
    · exfalso; omega
    · refine zwW_p [(0, -1, 0)] (q := 13) (ls' := [(2, 1), (0, a), (0, b), (0, c), (0, d), (0, e)]) (st' := [(0, -1)]) (by decide +kernel) rfl ?_
      refine zwW_ret (nx := 14) (a := 0) (b := 0) (by decide +kernel) rfl (Or.inl rfl) ?_
      exact ⟨C, X.le (by decide) (by decide), by omega, by first | exact Or.inr ⟨by omega, rfl, by omega⟩ | exact Or.inl ⟨by omega, by omega, by omega, rfl⟩⟩
def msx25_q : Zms := [(9, 9, 0, 1)]
-- WheelLand.end(I)Z
theorem x25_q {sc : List Int} (h : Hp) (C : CI h) (a : Int) (q_a : -2147483648 ≤ a ∧ a ≤ 2147483647) : zwC sc 2 25 [(2, 1), (0, a)] h (zwRt 0 (fun x g => CI g ∧ zXR msx25_q (0) (0) h g ∧ (0 ≤ x ∧ x ≤ 1) ∧ ((x = 1 ∧ fld g 9 0 = a ∧ 0 ≤ a ∧ a ≤ fld h 9 0) ∨ (x = 0 ∧ g = h ∧ (a < 0 ∨ fld h 9 0 < a))))) := by
  refine zwC_of (D := 1) 2 (by decide +kernel) rfl (ls := [(2, 1), (0, a)]) rfl ?_
  have X : zXR msx25_q 0 0 h h := zXR.rf _ _
  refine zwW_p [(1, 1, 0), (0, 0, 0), (1, 0, 2)] (q := 3) (ls' := [(2, 1), (0, a)]) (st' := [(2, 1), (0, 0), (0, a)]) (by decide +kernel) rfl ?_
  refine zwW_gc C.1 (kd := 12) (bn := 7) (n := 13) (c := 9) (nx := 6) (by decide +kernel) ?_
  refine zwW_gs C.1 (kd := 7) (bn := 0) (n := 9) (t := 0) (lo := 0) (hi := 400) (nx := 9) (by decide +kernel) ?_
  intro v1 ev1 lv1 uv1
  refine zwW_cs (k' := 98) (n := 3) (nx := 12) (as := [(0, a), (0, 0), (0, v1)]) (st' := []) (by decide +kernel) rfl (x98 h C a 0 v1 (by omega) (by omega) (by omega)) rfl ?_
  rintro x _ ⟨rfl, ⟨rfl, c2⟩ | ⟨rfl, c2⟩⟩
  · refine zwif_eq (q := 17) (nx := 15) (by decide +kernel) (fun c3 => ?_) (fun c3 => ?_)
    · exfalso; omega
    · refine zwW_p [(0, 0, 0)] (q := 16) (ls' := [(2, 1), (0, a)]) (st' := [(0, 0)]) (by decide +kernel) rfl ?_
      refine zwW_ret (nx := 17) (a := 1) (b := 0) (by decide +kernel) rfl (Or.inr (Or.inl ⟨rfl, Or.inl rfl⟩)) ?_
      exact ⟨C, X.le (by decide) (by decide), by omega, by first | exact Or.inr ⟨by omega, rfl, by omega⟩ | exact Or.inl ⟨by omega, by omega, by omega, by omega⟩⟩
  · refine zwif_eq (q := 17) (nx := 15) (by decide +kernel) (fun c4 => ?_) (fun c4 => ?_)
    · refine zwW_p [(1, 0, 2)] (q := 18) (ls' := [(2, 1), (0, a)]) (st' := [(2, 1)]) (by decide +kernel) rfl ?_
      refine zwW_gc C.1 (kd := 12) (bn := 7) (n := 13) (c := 9) (nx := 21) (by decide +kernel) ?_
      refine zwW_p [(1, 1, 0)] (q := 22) (ls' := [(2, 1), (0, a)]) (st' := [(0, a), (2, 9)]) (by decide +kernel) rfl ?_
      refine zwW_ps C.1 (kd := 7) (bn := 0) (n := 9) (lo := 0) (hi := 400) (nx := 25) (by decide +kernel) (by first | omega | exact ⟨by omega, by omega⟩) ?_
      intro h5 eh5 Ih5
      have Ch5 : CI h5 := C.wc eh5 Ih5 (by decide) (by decide)
      have Qh5 : zXR [(9, 9, 0, 1)] 0 0 h h5 := zXR.wc eh5 rfl ⟨by decide, by decide, Or.inl (by decide)⟩ (by first | decide | exact ⟨by decide, by decide⟩)
      have Xh5 : zXR msx25_q (0) (0) h h5 := X.tr (c2 := 0) (s2 := 0) Qh5 (by decide +kernel) (by decide) (by decide)
      have th5_9_0 : fld h5 9 0 = a := by rw [eh5]; exact fld_wr_eq (C.1.s (a1 := 9) (a2 := 9) (k := 7) (n := 9) (by decide +kernel) (by decide) (by decide)) (by decide)
      refine zwW_p [(0, 1, 0)] (q := 26) (ls' := [(2, 1), (0, a)]) (st' := [(0, 1)]) (by decide +kernel) rfl ?_
      refine zwW_ret (nx := 27) (a := 1) (b := 0) (by decide +kernel) rfl (Or.inr (Or.inl ⟨rfl, Or.inr rfl⟩)) ?_
      exact ⟨Ch5, Xh5.le (by decide) (by decide), by omega, by first | exact Or.inr ⟨by omega, rfl, by omega⟩ | exact Or.inl ⟨by omega, by omega, by omega, by omega⟩⟩
    · exfalso; omega
end
section
/-! contracts of methods -/
def ms119_q : Zms := [(37, 37, 41, 42), (98, 98, 0, 400)]
-- WheelLandModel.feeds(I)V
theorem m119_q {sc : List Int} (h : Hp) (I : zI h) (a : Int) (f : Nat → Int) (n : Nat) (q_a : -2147483648 ≤ a ∧ a ≤ 2147483647) (hf : fld h 98 = f) (hn : fld h 37 41 = (n : Int)) (hr : n ≤ 396) : zwC sc 1 119 [(2, 37), (0, a)] h (zwRv (fun g => zI g ∧ zMR ms119_q h g ∧ (fld g 98 = fBm f n a 4) ∧ (fld g 37 41 = (n : Int) + 4))) := by
  refine zwC_of (D := 0) 3 (by decide +kernel) rfl (ls := [(2, 37), (0, a), (9, 0)]) rfl ?_
  have R : zMR ms119_q h h := zMR.rf _ _
  refine zwW_p [(0, 3, 0), (2, 2, 0)] (q := 2) (ls' := [(2, 37), (0, a), (0, 3)]) (st' := []) (by decide +kernel) rfl ?_
  have L1 : ∀ (n0 : Nat) (kL1 : Int) (hL1 : Hp), n0 = ((kL1 + 1)).toNat → (fld hL1 98 = fBm f n a (3 - kL1).toNat) → (-1 ≤ kL1 ∧ kL1 ≤ 3) → (fld hL1 37 41 = (n : Int) + 3 - kL1) → zI hL1 → zMR ms119_q h hL1 → zwW sc (0) 119 2 [(2, 37), (0, a), (0, kL1)] [] hL1 (zwRv (fun g => zI g ∧ zMR ms119_q h g ∧ (fld g 98 = fBm f n a 4) ∧ (fld g 37 41 = (n : Int) + 4))) := by
    intro n0
    induction n0 using Nat.strongRecOn with
    | ind n0 IHL1 =>
      intro kL1 hL1 hnL1 iL1_0 iL1_1 iL1_2 IhL1 RhL1
      refine zwW_p [(1, 2, 0)] (q := 3) (ls' := [(2, 37), (0, a), (0, kL1)]) (st' := [(0, kL1)]) (by decide +kernel) rfl ?_
      refine zwif_lt (q := 38) (nx := 6) (by decide +kernel) (fun c2 => ?_) (fun c2 => ?_)
      · refine zwW_retv (nx := 39) (a := 0) (b := 0) (by decide +kernel) ?_
        exact ⟨IhL1, RhL1, by have z := iL1_0; rwa [show (3 - kL1).toNat = 4 by omega] at z, by omega⟩
      · refine zwW_p [(1, 0, 2)] (q := 7) (ls' := [(2, 37), (0, a), (0, kL1)]) (st' := [(2, 37)]) (by decide +kernel) rfl ?_
        refine zwW_gc IhL1 (kd := 13) (bn := 40) (n := 97) (c := 98) (nx := 10) (by decide +kernel) ?_
        refine zwW_p [(1, 0, 2)] (q := 11) (ls' := [(2, 37), (0, a), (0, kL1)]) (st' := [(2, 37), (2, 98)]) (by decide +kernel) rfl ?_
        refine zwW_gs IhL1 (kd := 13) (bn := 41) (n := 97) (t := 0) (lo := 0) (hi := 400) (nx := 14) (by decide +kernel) ?_
        intro v3 ev3 lv3 uv3
        refine zwW_p [(1, 1, 0), (0, 8, 0), (1, 2, 0)] (q := 18) (ls' := [(2, 37), (0, a), (0, kL1)]) (st' := [(0, kL1), (0, 8), (0, a), (0, v3), (2, 98)]) (by decide +kernel) rfl ?_
        refine zwW_mul (nx := 19) (by decide +kernel) (by first | omega | exact ⟨by omega, by omega⟩) ?_
        refine zwW_ib (a := 10) (nx := 20) (by decide +kernel) rfl ?_
        refine zwW_i2b (nx := 21) (by decide +kernel) ?_
        have ib1 : 0 ≤ v3 ∧ v3 < ((400 : Nat) : Int) := (by first | omega | exact ⟨by omega, by omega⟩)
        refine zwW_asb IhL1 (a1 := 98) (a2 := 98) (n := 400) (nx := 22) (by decide +kernel) (by first | decide | exact ⟨by decide, by decide⟩) ib1 ?_
        intro h4 eh4 Ih4
        have jbh4 : 0 ≤ v3.toNat ∧ v3.toNat < 400 := ⟨Nat.zero_le _, zit ib1⟩
        have th4_37_41 : fld h4 37 41 = fld hL1 37 41 := by rw [eh4]; exact fld_wr (Or.inl (by decide))
        have kh4_98 : fld h4 98 = (zu (fBm f n a (3 - kL1).toNat) v3.toNat (i_byt (i_byt (i_ushr a (8 * kL1))))) := by rw [fld_zu (IhL1.s (a1 := 98) (a2 := 98) (k := 21) (n := 400) (by decide +kernel) (by decide) (by decide)) (by omega) eh4, iL1_0]
        have Rh4 : zMR ms119_q h h4 := RhL1.w (a1 := 98) (a2 := 98) (j1 := 0) (j2 := 400) (by decide +kernel) (by first | decide | exact ⟨by decide, by decide⟩) jbh4 eh4
        have K22 : fld h4 98 = fBm f n a ((3 - kL1).toNat + 1) := kh4_98.trans (zu_cg rfl (show _ = n + (3 - kL1).toNat by omega) (by rw [i_byt2, show 8 * (3 - (((3 - kL1).toNat : Nat) : Int)) = 8 * kL1 by omega]))
        refine zwW_p [(1, 0, 2), (12, 0, 0)] (q := 24) (ls' := [(2, 37), (0, a), (0, kL1)]) (st' := [(2, 37), (2, 37)]) (by decide +kernel) rfl ?_
        refine zwW_gs Ih4 (kd := 13) (bn := 41) (n := 97) (t := 0) (lo := 0) (hi := 400) (nx := 27) (by decide +kernel) ?_
        intro v5 ev5 lv5 uv5
        refine zwW_p [(0, 1, 0)] (q := 28) (ls' := [(2, 37), (0, a), (0, kL1)]) (st' := [(0, 1), (0, v5), (2, 37)]) (by decide +kernel) rfl ?_
        refine zwW_add (nx := 29) (by decide +kernel) (by first | omega | exact ⟨by omega, by omega⟩) ?_
        refine zwW_ps Ih4 (kd := 13) (bn := 41) (n := 97) (lo := 0) (hi := 400) (nx := 32) (by decide +kernel) (by first | omega | exact ⟨by omega, by omega⟩) ?_
        intro h6 eh6 Ih6
        have th6_37_41 : fld h6 37 41 = (v5 + 1) := by rw [eh6]; exact fld_wr_eq (Ih4.s (a1 := 37) (a2 := 37) (k := 13) (n := 97) (by decide +kernel) (by decide) (by decide)) (by decide)
        have kh6_98 : fld h6 98 = (zu (fBm f n a (3 - kL1).toNat) v3.toNat (i_byt (i_byt (i_ushr a (8 * kL1))))) := (funext fun j => fld_oth eh6 (Or.inl (by decide))).trans kh4_98
        have Rh6 : zMR ms119_q h h6 := Rh4.w (a1 := 37) (a2 := 37) (j1 := 41) (j2 := 42) (by decide +kernel) (by first | decide | exact ⟨by decide, by decide⟩) (by first | decide | exact ⟨by decide, by decide⟩) eh6
        refine zwW_inc (i := 2) (c := -1) (x := kL1) (nx := 35) (by decide +kernel) rfl (by first | omega | exact ⟨by omega, by omega⟩) (ls' := [(2, 37), (0, a), (0, (kL1 + (-1)))]) rfl ?_
        refine zwW_p [(24, 2, 0)] (q := 2) (ls' := [(2, 37), (0, a), (0, (kL1 + (-1)))]) (st' := []) (by decide +kernel) rfl ?_
        exact IHL1 (((kL1 + (-1)) + 1)).toNat (by omega) (kL1 + (-1)) h6 rfl (by rw [show (3 - (kL1 + -1)).toNat = (3 - kL1).toNat + 1 by omega]; exact kh6_98.trans (kh4_98.symm.trans K22)) (by omega) (by omega) Ih6 Rh6
  exact L1 _ 3 h rfl (hf) (by omega) (by omega) I R
def ms24_q : Zms := [(37, 37, 41, 42), (98, 98, 0, 400)]
-- WheelLandModel.feed(IIIII)I
theorem m24_q {sc : List Int} (h : Hp) (I : zI h) (a b c d e : Int) (f : Nat → Int) (n : Nat) (q_a : -2147483648 ≤ a ∧ a ≤ 2147483647) (q_b : -2147483648 ≤ b ∧ b ≤ 2147483647) (q_c : -2147483648 ≤ c ∧ c ≤ 2147483647) (q_d : -2147483648 ≤ d ∧ d ≤ 2147483647) (q_e : -2147483648 ≤ e ∧ e ≤ 2147483647) (hf : fld h 98 = f) (hn : fld h 37 41 = (n : Int)) : zwC sc 2 24 [(2, 37), (0, a), (0, b), (0, c), (0, d), (0, e)] h (zwRt 0 (fun x g => zI g ∧ zMR ms24_q h g ∧ (-2147483648 ≤ x ∧ x ≤ 2147483647) ∧ ((x = (n : Int) + 20 ∧ n ≤ 380 ∧ fld g 37 41 = (n : Int) + 20 ∧ fld g 98 = fB5m f n a b c d e) ∨ (x = -1 ∧ g = h ∧ 380 < n)))) := by
  refine zwC_of (D := 1) 6 (by decide +kernel) rfl (ls := [(2, 37), (0, a), (0, b), (0, c), (0, d), (0, e)]) rfl ?_
  have R : zMR ms24_q h h := zMR.rf _ _
  refine zwW_p [(1, 0, 2)] (q := 1) (ls' := [(2, 37), (0, a), (0, b), (0, c), (0, d), (0, e)]) (st' := [(2, 37)]) (by decide +kernel) rfl ?_
  refine zwW_gs I (kd := 13) (bn := 41) (n := 97) (t := 0) (lo := 0) (hi := 400) (nx := 4) (by decide +kernel) ?_
  intro v1 ev1 lv1 uv1
  refine zwW_p [(0, 20, 0)] (q := 6) (ls' := [(2, 37), (0, a), (0, b), (0, c), (0, d), (0, e)]) (st' := [(0, 20), (0, v1)]) (by decide +kernel) rfl ?_
  refine zwW_add (nx := 7) (by decide +kernel) (by first | omega | exact ⟨by omega, by omega⟩) ?_
  refine zwW_p [(0, 400, 0)] (q := 10) (ls' := [(2, 37), (0, a), (0, b), (0, c), (0, d), (0, e)]) (st' := [(0, 400), (0, (v1 + 20))]) (by decide +kernel) rfl ?_
  refine zwic_le (q := 15) (nx := 13) (by decide +kernel) (fun c2 => ?_) (fun c2 => ?_)
  · refine zwW_p [(1, 0, 2), (1, 1, 0)] (q := 17) (ls' := [(2, 37), (0, a), (0, b), (0, c), (0, d), (0, e)]) (st' := [(0, a), (2, 37)]) (by decide +kernel) rfl ?_
    refine zwW_cmv I (op := 60) (k' := 119) (n := 1) (kd := 13) (m := 97) (nx := 20) (r := 37) (tl := [(0, a)]) (st' := []) (by decide +kernel) rfl (by decide +kernel) rfl (m119_q h I a f n (by omega) hf hn (by omega)) ?_
    rintro h5 ⟨Ih5, Qh5, f3, f4⟩
    have Rh5 : zMR ms24_q h h5 := R.tr Qh5 (by decide +kernel)
    refine zwW_p [(1, 0, 2), (1, 2, 0)] (q := 22) (ls' := [(2, 37), (0, a), (0, b), (0, c), (0, d), (0, e)]) (st' := [(0, b), (2, 37)]) (by decide +kernel) rfl ?_
    refine zwW_cmv Ih5 (op := 60) (k' := 119) (n := 1) (kd := 13) (m := 97) (nx := 25) (r := 37) (tl := [(0, b)]) (st' := []) (by decide +kernel) rfl (by decide +kernel) rfl (m119_q h5 Ih5 b (fBm f n a 4) (n + 4) (by omega) f3 (by omega) (by omega)) ?_
    rintro h8 ⟨Ih8, Qh8, f6, f7⟩
    have Rh8 : zMR ms24_q h h8 := Rh5.tr Qh8 (by decide +kernel)
    refine zwW_p [(1, 0, 2), (1, 3, 0)] (q := 27) (ls' := [(2, 37), (0, a), (0, b), (0, c), (0, d), (0, e)]) (st' := [(0, c), (2, 37)]) (by decide +kernel) rfl ?_
    refine zwW_cmv Ih8 (op := 60) (k' := 119) (n := 1) (kd := 13) (m := 97) (nx := 30) (r := 37) (tl := [(0, c)]) (st' := []) (by decide +kernel) rfl (by decide +kernel) rfl (m119_q h8 Ih8 c (fBm (fBm f n a 4) (n + 4) b 4) (n + 8) (by omega) f6 (by omega) (by omega)) ?_
    rintro h11 ⟨Ih11, Qh11, f9, f10⟩
    have Rh11 : zMR ms24_q h h11 := Rh8.tr Qh11 (by decide +kernel)
    refine zwW_p [(1, 0, 2), (1, 4, 0)] (q := 33) (ls' := [(2, 37), (0, a), (0, b), (0, c), (0, d), (0, e)]) (st' := [(0, d), (2, 37)]) (by decide +kernel) rfl ?_
    refine zwW_cmv Ih11 (op := 60) (k' := 119) (n := 1) (kd := 13) (m := 97) (nx := 36) (r := 37) (tl := [(0, d)]) (st' := []) (by decide +kernel) rfl (by decide +kernel) rfl (m119_q h11 Ih11 d (fBm (fBm (fBm f n a 4) (n + 4) b 4) (n + 8) c 4) (n + 12) (by omega) f9 (by omega) (by omega)) ?_
    rintro h14 ⟨Ih14, Qh14, f12, f13⟩
    have Rh14 : zMR ms24_q h h14 := Rh11.tr Qh14 (by decide +kernel)
    refine zwW_p [(1, 0, 2), (1, 5, 0)] (q := 39) (ls' := [(2, 37), (0, a), (0, b), (0, c), (0, d), (0, e)]) (st' := [(0, e), (2, 37)]) (by decide +kernel) rfl ?_
    refine zwW_cmv Ih14 (op := 60) (k' := 119) (n := 1) (kd := 13) (m := 97) (nx := 42) (r := 37) (tl := [(0, e)]) (st' := []) (by decide +kernel) rfl (by decide +kernel) rfl (m119_q h14 Ih14 e (fBm (fBm (fBm (fBm f n a 4) (n + 4) b 4) (n + 8) c 4) (n + 12) d 4) (n + 16) (by omega) f12 (by omega) (by omega)) ?_
    rintro h17 ⟨Ih17, Qh17, f15, f16⟩
    have Rh17 : zMR ms24_q h h17 := Rh14.tr Qh17 (by decide +kernel)
    refine zwW_p [(1, 0, 2)] (q := 43) (ls' := [(2, 37), (0, a), (0, b), (0, c), (0, d), (0, e)]) (st' := [(2, 37)]) (by decide +kernel) rfl ?_
    refine zwW_gs Ih17 (kd := 13) (bn := 41) (n := 97) (t := 0) (lo := 0) (hi := 400) (nx := 46) (by decide +kernel) ?_
    intro v18 ev18 lv18 uv18
    refine zwW_ret (nx := 47) (a := 0) (b := 0) (by decide +kernel) rfl (Or.inl rfl) ?_
    exact ⟨Ih17, Rh17, by omega, by first | exact Or.inr ⟨by omega, rfl, by omega⟩ | exact Or.inl ⟨by omega, by omega, by omega, f15⟩⟩
  · refine zwW_p [(0, -1, 0)] (q := 14) (ls' := [(2, 37), (0, a), (0, b), (0, c), (0, d), (0, e)]) (st' := [(0, -1)]) (by decide +kernel) rfl ?_
    refine zwW_ret (nx := 15) (a := 0) (b := 0) (by decide +kernel) rfl (Or.inl rfl) ?_
    exact ⟨I, R, by omega, by first | exact Or.inr ⟨by omega, rfl, by omega⟩ | exact Or.inl ⟨by omega, by omega, by omega, rfl⟩⟩
def ms26_q : Zms := [(37, 37, 41, 42)]
-- WheelLandModel.end(I)Z
theorem m26_q {sc : List Int} (h : Hp) (I : zI h) (a : Int) : zwC sc 2 26 [(2, 37), (0, a)] h (zwRt 0 (fun x g => zI g ∧ zMR ms26_q h g ∧ (-2147483648 ≤ x ∧ x ≤ 2147483647) ∧ ((x = 1 ∧ fld g 37 41 = a ∧ 0 ≤ a ∧ a ≤ fld h 37 41) ∨ (x = 0 ∧ g = h ∧ (a < 0 ∨ fld h 37 41 < a))))) := by
  refine zwC_of (D := 1) 2 (by decide +kernel) rfl (ls := [(2, 37), (0, a)]) rfl ?_
  have R : zMR ms26_q h h := zMR.rf _ _
  refine zwW_p [(1, 1, 0), (7, 0, 0), (0, 0, 1), (1, 0, 2)] (q := 4) (ls' := [(2, 37), (0, a)]) (st' := [(2, 37), (1, 0), (1, a)]) (by decide +kernel) rfl ?_
  refine zwW_gs I (kd := 13) (bn := 41) (n := 97) (t := 0) (lo := 0) (hi := 400) (nx := 7) (by decide +kernel) ?_
  intro v1 ev1 lv1 uv1
  refine zwW_p [(7, 0, 0)] (q := 8) (ls' := [(2, 37), (0, a)]) (st' := [(1, v1), (1, 0), (1, a)]) (by decide +kernel) rfl ?_
  refine zwW_cs (k' := 101) (n := 3) (nx := 11) (as := [(1, a), (1, 0), (1, v1)]) (st' := []) (by decide +kernel) rfl (m101 h a 0 v1) rfl ?_
  rintro x _ ⟨rfl, ⟨rfl, c2⟩ | ⟨rfl, c2⟩⟩
  · refine zwif_ne (q := 16) (nx := 14) (by decide +kernel) (fun c3 => ?_) (fun c3 => ?_)
    · refine zwW_p [(1, 0, 2), (1, 1, 0)] (q := 18) (ls' := [(2, 37), (0, a)]) (st' := [(0, a), (2, 37)]) (by decide +kernel) rfl ?_
      refine zwW_ps I (kd := 13) (bn := 41) (n := 97) (lo := 0) (hi := 400) (nx := 21) (by decide +kernel) (by first | omega | exact ⟨by omega, by omega⟩) ?_
      intro h4 eh4 Ih4
      have th4_37_41 : fld h4 37 41 = a := by rw [eh4]; exact fld_wr_eq (I.s (a1 := 37) (a2 := 37) (k := 13) (n := 97) (by decide +kernel) (by decide) (by decide)) (by decide)
      have Rh4 : zMR ms26_q h h4 := R.w (a1 := 37) (a2 := 37) (j1 := 41) (j2 := 42) (by decide +kernel) (by first | decide | exact ⟨by decide, by decide⟩) (by first | decide | exact ⟨by decide, by decide⟩) eh4
      refine zwW_p [(0, 1, 0)] (q := 22) (ls' := [(2, 37), (0, a)]) (st' := [(0, 1)]) (by decide +kernel) rfl ?_
      refine zwW_ret (nx := 23) (a := 1) (b := 0) (by decide +kernel) rfl (Or.inr (Or.inl ⟨rfl, Or.inr rfl⟩)) ?_
      exact ⟨Ih4, Rh4, by omega, by first | exact Or.inr ⟨by omega, rfl, by omega⟩ | exact Or.inl ⟨by omega, by omega, by omega, by omega⟩⟩
    · exfalso; omega
  · refine zwif_ne (q := 16) (nx := 14) (by decide +kernel) (fun c5 => ?_) (fun c5 => ?_)
    · exfalso; omega
    · refine zwW_p [(0, 0, 0)] (q := 15) (ls' := [(2, 37), (0, a)]) (st' := [(0, 0)]) (by decide +kernel) rfl ?_
      refine zwW_ret (nx := 16) (a := 1) (b := 0) (by decide +kernel) rfl (Or.inr (Or.inl ⟨rfl, Or.inl rfl⟩)) ?_
      exact ⟨I, R, by omega, by first | exact Or.inr ⟨by omega, rfl, by omega⟩ | exact Or.inl ⟨by omega, by omega, by omega, by omega⟩⟩
end
section
/-! runs are of one way: two contracts of a call hold together -/
section DT
variable {sc : List Int}
theorem zw_detE {cal : Nat → List Vl → Hp → Option Vl → Hp → Prop} (hc : ∀ y as hp r1 h1 r2 h2, cal y as hp r1 h1 → cal y as hp r2 h2 → r1 = r2 ∧ h1 = h2) {y : Nat} : ∀ (n m pc : Nat) (ls st : List Vl) (hp : Hp) (r1 : Option Vl) (h1 : Hp) (r2 : Option Vl) (h2 : Hp), Ex cdT mK sc stxt cal y n pc ls st hp r1 h1 → Ex cdT mK sc stxt cal y m pc ls st hp r2 h2 → r1 = r2 ∧ h1 = h2
  | 0, _, _, _, _, _, _, _, _, _, hx, _ => hx.elim
  | _ + 1, 0, _, _, _, _, _, _, _, _, _, hx => hx.elim
  | n + 1, m + 1, pc, ls, st, hp, r1, h1, r2, h2, hx, kx => by
    obtain ⟨op, nx, a, b, os, e, H⟩ := hx
    obtain ⟨op2, nx2, a2, b2, os2, e2, K⟩ := kx
    rw [e] at e2
    injection e2 with e2
    simp only [Prod.mk.injEq] at e2
    obtain ⟨rfl, rfl, rfl, rfl, rfl⟩ := e2
    rcases H with ⟨o1, x1, x2, s1, x3⟩ | ⟨o1, o2, x1, x2, s1, x3⟩ | ⟨o1, o2, x1, s1, x3⟩ | ⟨o1, o2, x1, x2, s1, x3⟩ | ⟨o1, o2, x1, x2, x4, x5, s1, s2, s3, x3⟩ | ⟨o1, s1, s2⟩ <;> rcases K with ⟨p1, y1, y2, t1, y3⟩ | ⟨p1, p2, y1, y2, t1, y3⟩ | ⟨p1, p2, y1, t1, y3⟩ | ⟨p1, p2, y1, y2, t1, y3⟩ | ⟨p1, p2, y1, y2, y4, y5, t1, t2, t3, y3⟩ | ⟨p1, t1, t2⟩ <;> first | (exfalso; omega) | skip
    · rw [s1] at t1
      injection t1 with t1
      simp only [Prod.mk.injEq] at t1
      obtain ⟨rfl, rfl⟩ := t1
      exact zw_detE hc n m _ _ _ _ _ _ _ _ x3 y3
    · rw [s1] at t1
      injection t1 with t1
      simp only [Prod.mk.injEq] at t1
      obtain ⟨rfl, rfl⟩ := t1
      exact zw_detE hc n m _ _ _ _ _ _ _ _ x3 y3
    · rw [s1] at t1
      injection t1 with t1
      subst t1
      exact zw_detE hc n m _ _ _ _ _ _ _ _ x3 y3
    · rw [s1] at t1
      injection t1 with t1
      simp only [Prod.mk.injEq] at t1
      obtain ⟨rfl, rfl⟩ := t1
      exact zw_detE hc n m _ _ _ _ _ _ _ _ x3 y3
    · rw [s1] at t1
      injection t1 with t1
      simp only [Prod.mk.injEq] at t1
      obtain ⟨rfl, rfl⟩ := t1
      obtain ⟨rfl, rfl⟩ := hc _ _ _ _ _ _ _ s3 t3
      exact zw_detE hc n m _ _ _ _ _ _ _ _ x3 y3
    · rw [s1] at t1
      injection t1 with t1
      exact ⟨t1, s2.trans t2.symm⟩
theorem zw_det : ∀ (d y : Nat) (as : List Vl) (hp : Hp) (r1 : Option Vl) (h1 : Hp) (r2 : Option Vl) (h2 : Hp), Runs cdT mK sc stxt mL d y as hp r1 h1 → Runs cdT mK sc stxt mL d y as hp r2 h2 → r1 = r2 ∧ h1 = h2
  | 0, _, _, _, _, _, _, _, hx, _ => hx.elim
  | d + 1, _, _, _, _, _, _, _, hx, kx => by
    obtain ⟨-, n, hx⟩ := hx
    obtain ⟨-, m, kx⟩ := kx
    exact zw_detE (zw_det d) n m _ _ _ _ _ _ _ _ hx kx
theorem zwC_and {D y : Nat} {as : List Vl} {h : Hp} {Q R : Option Vl → Hp → Prop} (A : zwC sc D y as h Q) (B : zwC sc D y as h R) : zwC sc D y as h (fun r g => Q r g ∧ R r g) := by
  obtain ⟨r1, h1, x1, q1⟩ := A
  obtain ⟨r2, h2, x2, q2⟩ := B
  obtain ⟨rfl, rfl⟩ := zw_det D y as h r1 h1 r2 h2 x1 x2
  exact ⟨r1, h1, x1, q1, q2⟩
theorem zwC_an2 {D D2 y t : Nat} {as : List Vl} {h : Hp} {Q R : Int → Hp → Prop} (A : zwC sc D y as h (zwRt t Q)) (B : zwC sc D2 y as h (zwRt t R)) : zwC sc (max D D2) y as h (zwRt t (fun x g => Q x g ∧ R x g)) := by
  refine zwC_to (zwC_and (zwC_up (Nat.le_max_left D D2) A) (zwC_up (Nat.le_max_right D D2) B)) ?_
  rintro r g ⟨⟨x, e, q⟩, ⟨x2, e2, q2⟩⟩
  rw [e] at e2
  injection e2 with e2
  injection e2 with _ e2
  subst e2
  exact ⟨x, e, q, q2⟩
end DT
end
section
/-! what was read, as a sheet: what it holds -/
section ZT
variable {sc : List Int} {h : Hp}
/-- a sheet just made: its number, its words, its marks -/
def zSc (h g : Hp) (a x : Int) : Prop := ∃ v w : Int, 365 < v ∧ fld g x 0 = a ∧ fld g x 1 = v ∧ fld g x 2 = w ∧ (∃ m : Nat, sh g v = some (20, m) ∧ (m : Int) = fld h 9 6) ∧ (∀ i : Nat, (i : Int) < fld h 9 6 → fld g v i = fld h 11 i) ∧ (∀ c : Nat, c < 5 → fld g w c = fld h 12 c) ∧ sh h v = none
theorem x122_s {sc : List Int} (h : Hp) (C : CI h) (a : Int) (q_a : -2147483648 ≤ a ∧ a ≤ 2147483647) : zwC sc 3 122 [(2, 9), (0, a)] h (zwRt 2 (fun x g => CI g ∧ zXR [] 3 408 h g ∧ gS g x ∧ zSc h g a x)) := by
  refine zwC_of (D := 2) 2 (by decide +kernel) rfl (ls := [(2, 9), (0, a)]) rfl ?_
  have F0 := zFr.start C (kd := 10) (n := 3)
  have hlen := C.len
  refine zwW_new (kd := 10) (n := 3) (nx := 3) (by decide +kernel) rfl rfl ?_
  rintro h1 r e1 er
  rw [← e1, ← er] at F0
  have C1 : CI h1 := C.old F0.1 F0.2.1
  refine zwW_p [(12, 0, 0), (1, 1, 0), (1, 0, 2)] (q := 6) (ls' := [(2, 9), (0, a)]) (st' := [(2, 9), (0, a), (2, r), (2, r)]) (by decide +kernel) rfl ?_
  refine zwW_gc C1.1 (kd := 7) (bn := 7) (n := 9) (c := 11) (nx := 9) (by decide +kernel) ?_
  refine zwW_p [(1, 0, 2)] (q := 10) (ls' := [(2, 9), (0, a)]) (st' := [(2, 9), (2, 11), (0, a), (2, r), (2, r)]) (by decide +kernel) rfl ?_
  refine zwW_gs C1.1 (kd := 7) (bn := 6) (n := 9) (t := 0) (lo := 0) (hi := 400) (nx := 13) (by decide +kernel) ?_
  intro n en ln un
  have s11 := C1.1.s (a1 := 11) (a2 := 11) (k := 20) (n := 400) (by decide +kernel) (r := 11) (by decide) (by decide)
  refine zwW_cs (k' := 202) (n := 2) (nx := 16) (as := [(2, 11), (0, n)]) (st' := [(0, a), (2, r), (2, r)]) (by decide +kernel) rfl (x202 s11 (by first | omega | exact ⟨by omega, by omega⟩) (by decide)) rfl ?_
  rintro v h2 ⟨ev, l, e2, hl, hall⟩
  have O2 : zOld h1 h2 := by rw [e2]; exact zOld.app _
  have Y2 : zDy h2 := by
    rw [e2]
    refine F0.2.1.app (fun x hx => ?_)
    obtain ⟨i, hi, rfl⟩ := List.getElem_of_mem hx
    have w := hall i (by omega)
    rw [List.getD_eq_getElem?_getD, List.getElem?_eq_getElem hi] at w
    have w : l[i] = fld h1 11 i := w
    rw [w]
    exact C1.1.b (a1 := 11) (a2 := 11) (j1 := 0) (j2 := 400) (by decide +kernel) (by decide) (by decide) (by omega) (by omega)
  have C2 : CI h2 := C.old (F0.1.tr O2) Y2
  have sv : sh h2 v = some (20, l.length) := by rw [e2, ev]; exact sh_new 20 l
  refine zwW_p [(1, 0, 2)] (q := 17) (ls' := [(2, 9), (0, a)]) (st' := [(2, 9), (2, v), (0, a), (2, r), (2, r)]) (by decide +kernel) rfl ?_
  refine zwW_gc C2.1 (kd := 7) (bn := 8) (n := 9) (c := 12) (nx := 20) (by decide +kernel) ?_
  have s12 := C2.1.s (a1 := 12) (a2 := 12) (k := 20) (n := 5) (by decide +kernel) (r := 12) (by decide) (by decide)
  obtain ⟨lb, cb, nb⟩ := sh_cel s12
  refine zwW_clone (nx := 23) (by decide +kernel) cb rfl ?_
  obtain ⟨h3, e3⟩ : ∃ z, z = h2 ++ [(20, lb)] := ⟨_, rfl⟩
  obtain ⟨w, ew⟩ : ∃ z, z = ((h2.length + 1 : Nat) : Int) := ⟨_, rfl⟩
  rw [← e3, ← ew]
  have O3 : zOld h2 h3 := by rw [e3]; exact zOld.app _
  have Y3 : zDy h3 := by
    rw [e3]
    refine Y2.app (fun x hx => ?_)
    obtain ⟨i, hi, rfl⟩ := List.getElem_of_mem hx
    have q := C2.1.b (a1 := 12) (a2 := 12) (j1 := 0) (j2 := 5) (lo := -2147483648) (hi := 2147483647) (by decide +kernel) (r := 12) (j := i) (by decide) (by decide) (by omega) (by omega)
    rw [fld_of cb, List.getD_eq_getElem?_getD, List.getElem?_eq_getElem hi] at q
    exact q
  have sw : sh h3 w = some (20, 5) := by rw [e3, ew, ← nb]; exact sh_new 20 lb
  have l1 : h1.length = h.length + 1 := F0.2.2.2.1
  have l2 : h2.length = h.length + 2 := by rw [e2, List.length_append, List.length_singleton, l1]
  have F : zFr h h3 r 10 (List.replicate 3 0) 3 (3 + l.length + 5) := by
    refine ⟨(F0.1.tr O2).tr O3, Y3, ?_, by rw [e3, List.length_append, List.length_singleton, l2], ?_⟩
    · rw [O3.2 r (by omega), O2.2 r (by omega)]
      exact F0.2.2.1
    · rw [e3, sz_app, e2, sz_app, F0.2.2.2.2]
      unfold sz
      simp [nb]
      omega
  refine zwW_cast (a := 20) (kd := 20) (n := 5) (nx := 26) (by decide +kernel) rfl (Or.inr sw) ?_
  refine zwW_cvv (op := 62) (k' := 203) (n := 3) (kd := 10) (m := 3) (nx := 29) (r := r) (tl := [(0, a), (2, v), (2, w)]) (st' := [(2, r)]) (by decide +kernel) rfl (by decide +kernel) (sh_of F.2.2.1) (x203 h h3 C r a v w F (by omega) q_a ⟨by omega, O3.sp sv, by omega⟩ ⟨by omega, sw, by omega⟩) rfl ?_
  rintro g ⟨Cg, R, G, cg, og⟩
  have cv : cel g v = some (20, l) := by
    rw [og v (by omega), O3.2 v (by omega), e2, ev]
    exact cel_new _
  have cw : cel g w = some (20, lb) := by
    rw [og w (by omega), e3, ew]
    exact cel_new _
  have n6 : n = fld h 9 6 := by rw [en, F0.1.fl (r := 9) (by omega)]
  have S : zSc h g a r := by
    refine ⟨v, w, by omega, by rw [fld_of cg]; rfl, by rw [fld_of cg]; rfl, by rw [fld_of cg]; rfl, ⟨l.length, sh_of cv, by omega⟩, fun i hi => ?_, fun c hc => ?_, ?_⟩
    · rw [fld_of cv, hall i (by omega), F0.1.fl (r := 11) (by omega)]
    · rw [fld_of cw, ← fld_of cb, (F0.1.tr O2).fl (r := 12) (by omega)]
    · cases z : sh h v with
      | none => rfl
      | some p =>
        obtain ⟨p1, p2⟩ := p
        exact absurd (sh_pos z).2 (by omega)
  exact zwW_ret (nx := 30) (a := 0) (b := 2) (by decide +kernel) rfl (Or.inl rfl) ⟨Cg, R.le (by decide) (by omega), G, S⟩
end ZT
end
section
/-! which of the sheets in force counts -/
section WY
variable {fs ff : Nat → Int} {Lc : Int → Int} {w z K : Int} {k n : Nat}
/-- the place in the row of those in force, after so many of them -/
def pBw (fs ff : Nat → Int) (Lc : Int → Int) (w : Int) : Nat → Int
  | 0 => -1
  | k + 1 => if ff k ≤ w ∧ 0 < Lc (fs k) ∧ (pBw fs ff Lc w k = -1 ∨ ff (pBw fs ff Lc w k).toNat ≤ ff k) then (k : Int) else pBw fs ff Lc w k
def pWhy (fs ff : Nat → Int) (Lc : Int → Int) (w : Int) (n : Nat) : Int := if pBw fs ff Lc w n = -1 then -1 else fs (pBw fs ff Lc w n).toNat
theorem pBw_t (hz : z = pBw fs ff Lc w k) (hk : K = (k : Int)) (c1 : ff k ≤ w) (c2 : 0 < Lc (fs k)) (c3 : z = -1 ∨ ff z.toNat ≤ ff k) : K = pBw fs ff Lc w (k + 1) := by
  subst hz
  exact hk.trans (if_pos ⟨c1, c2, c3⟩).symm
theorem pBw_f (hz : z = pBw fs ff Lc w k) (c : ¬ (ff k ≤ w ∧ 0 < Lc (fs k) ∧ (z = -1 ∨ ff z.toNat ≤ ff k))) : z = pBw fs ff Lc w (k + 1) := by
  subst hz
  exact (if_neg c).symm
theorem pBw_b : ∀ n : Nat, -1 ≤ pBw fs ff Lc w n ∧ pBw fs ff Lc w n < n
  | 0 => ⟨Int.le_refl _, by show (-1 : Int) < ((0 : Nat) : Int); omega⟩
  | n + 1 => by
    have q := pBw_b n
    show -1 ≤ (if _ then _ else _) ∧ (if _ then _ else _) < _
    split <;> omega
theorem pWhy_n (hz : z = pBw fs ff Lc w n) (c : z = -1) : -1 = pWhy fs ff Lc w n := by
  unfold pWhy
  rw [← hz, if_pos c]
theorem pWhy_y (hz : z = pBw fs ff Lc w n) (c : z ≠ -1) : fs z.toNat = pWhy fs ff Lc w n := by
  unfold pWhy
  rw [← hz, if_neg c]
/-- the same of other rows that agree -/
theorem pBw_cg {fs2 ff2 : Nat → Int} {Lc2 : Int → Int} : ∀ n : Nat, (∀ k, k < n → ff k = ff2 k ∧ (0 < Lc (fs k) ↔ 0 < Lc2 (fs2 k))) → pBw fs ff Lc w n = pBw fs2 ff2 Lc2 w n
  | 0, _ => rfl
  | n + 1, H => by
    have q := pBw_cg n (fun k hk => H k (by omega))
    have b := pBw_b (fs := fs2) (ff := ff2) (Lc := Lc2) (w := w) n
    obtain ⟨h1, h2⟩ := H n (by omega)
    show (if _ then _ else _) = (if _ then _ else _)
    rw [q, h1]
    by_cases z : pBw fs2 ff2 Lc2 w n = -1
    · simp only [z, true_or, and_true, h2]
    · rw [(H (pBw fs2 ff2 Lc2 w n).toNat (by omega)).1]
      simp only [h2]
end WY
end
section
/-! contracts of methods -/
-- WheelLandModel.sheetFor(II)I
theorem m126_w {sc : List Int} (h : Hp) (I : zI h) (a b : Int) (p1 : 0 ≤ a) (p2 : a ≤ 4) (hF : ∀ k : Nat, (k : Int) < fld h 37 53 → fld h 164 k < fld h 37 52) : zwC sc 1 126 [(2, 37), (0, a), (0, b)] h (zwRt 0 (fun x g => h = g ∧ (-2147483648 ≤ x ∧ x ≤ 2147483647) ∧ (x = pWhy (fld h 164) (fld h 165) (fun s => fld h (155 + s) a.toNat) b (fld h 37 53).toNat))) := by
  refine zwC_of (D := 0) 5 (by decide +kernel) rfl (ls := [(2, 37), (0, a), (0, b), (9, 0), (9, 0)]) rfl ?_
  refine zwW_p [(0, -1, 0), (2, 3, 0), (0, 0, 0), (2, 4, 0)] (q := 5) (ls' := [(2, 37), (0, a), (0, b), (0, -1), (0, 0)]) (st' := []) (by decide +kernel) rfl ?_
  have L1 : ∀ (n0 : Nat) (zL1 kL1 : Int), n0 = ((100 - kL1)).toNat → (0 ≤ kL1 ∧ kL1 ≤ 12 ∧ kL1 ≤ max 0 (fld h 37 53)) → (-1 ≤ zL1 ∧ zL1 < kL1 ∧ zL1 < max 0 (fld h 37 53)) → (zL1 = pBw (fld h 164) (fld h 165) (fun s => fld h (155 + s) a.toNat) b (kL1).toNat) → zwW sc (0) 126 5 [(2, 37), (0, a), (0, b), (0, zL1), (0, kL1)] [] h (zwRt 0 (fun x g => h = g ∧ (-2147483648 ≤ x ∧ x ≤ 2147483647) ∧ (x = pWhy (fld h 164) (fld h 165) (fun s => fld h (155 + s) a.toNat) b (fld h 37 53).toNat))) := by
    intro n0
    induction n0 using Nat.strongRecOn with
    | ind n0 IHL1 =>
      intro zL1 kL1 hnL1 iL1_0 iL1_1 iL1_2
      refine zwW_p [(1, 4, 0), (1, 0, 2)] (q := 8) (ls' := [(2, 37), (0, a), (0, b), (0, zL1), (0, kL1)]) (st' := [(2, 37), (0, kL1)]) (by decide +kernel) rfl ?_
      refine zwW_gs I (kd := 13) (bn := 53) (n := 97) (t := 0) (lo := 0) (hi := 12) (nx := 11) (by decide +kernel) ?_
      intro v2 ev2 lv2 uv2
      refine zwic_ge (q := 72) (nx := 14) (by decide +kernel) (fun c3 => ?_) (fun c3 => ?_)
      · refine zwW_p [(1, 3, 0), (0, -1, 0)] (q := 74) (ls' := [(2, 37), (0, a), (0, b), (0, zL1), (0, kL1)]) (st' := [(0, -1), (0, zL1)]) (by decide +kernel) rfl ?_
        refine zwic_ne (q := 81) (nx := 77) (by decide +kernel) (fun c4 => ?_) (fun c4 => ?_)
        · refine zwW_p [(1, 0, 2)] (q := 82) (ls' := [(2, 37), (0, a), (0, b), (0, zL1), (0, kL1)]) (st' := [(2, 37)]) (by decide +kernel) rfl ?_
          refine zwW_gc I (kd := 13) (bn := 50) (n := 97) (c := 164) (nx := 85) (by decide +kernel) ?_
          refine zwW_p [(1, 3, 0)] (q := 86) (ls' := [(2, 37), (0, a), (0, b), (0, zL1), (0, kL1)]) (st' := [(0, zL1), (2, 164)]) (by decide +kernel) rfl ?_
          have ib1 : 0 ≤ zL1 ∧ zL1 < ((12 : Nat) : Int) := (by first | omega | exact ⟨by omega, by omega⟩)
          refine zwW_al I (a1 := 164) (a2 := 164) (kd := 20) (n := 12) (t := 0) (lo := 0) (hi := 7) (nx := 87) (by decide +kernel) (by first | decide | exact ⟨by decide, by decide⟩) ib1 ?_
          intro v5 ev5 lv5 uv5
          refine zwW_ret (nx := 88) (a := 0) (b := 0) (by decide +kernel) rfl (Or.inl rfl) ?_
          exact ⟨rfl, by omega, by first | exact pWhy_n (z := zL1) (by have z := iL1_2; rwa [show (kL1).toNat = (fld h 37 53).toNat by omega] at z) (by omega) | exact Eq.trans (b := fld h 164 (zL1).toNat) (by omega) (pWhy_y (z := zL1) (by have z := iL1_2; rwa [show (kL1).toNat = (fld h 37 53).toNat by omega] at z) (by omega))⟩
        · refine zwW_p [(0, -1, 0), (24, 87, 0)] (q := 87) (ls' := [(2, 37), (0, a), (0, b), (0, zL1), (0, kL1)]) (st' := [(0, -1)]) (by decide +kernel) rfl ?_
          refine zwW_ret (nx := 88) (a := 0) (b := 0) (by decide +kernel) rfl (Or.inl rfl) ?_
          exact ⟨rfl, by omega, by first | exact pWhy_n (z := zL1) (by have z := iL1_2; rwa [show (kL1).toNat = (fld h 37 53).toNat by omega] at z) (by omega) | exact Eq.trans (b := fld h 164 (zL1).toNat) (by omega) (pWhy_y (z := zL1) (by have z := iL1_2; rwa [show (kL1).toNat = (fld h 37 53).toNat by omega] at z) (by omega))⟩
      · refine zwW_p [(1, 0, 2)] (q := 15) (ls' := [(2, 37), (0, a), (0, b), (0, zL1), (0, kL1)]) (st' := [(2, 37)]) (by decide +kernel) rfl ?_
        refine zwW_gc I (kd := 13) (bn := 51) (n := 97) (c := 165) (nx := 18) (by decide +kernel) ?_
        refine zwW_p [(1, 4, 0)] (q := 20) (ls' := [(2, 37), (0, a), (0, b), (0, zL1), (0, kL1)]) (st' := [(0, kL1), (2, 165)]) (by decide +kernel) rfl ?_
        have ib2 : 0 ≤ kL1 ∧ kL1 < ((12 : Nat) : Int) := (by first | omega | exact ⟨by omega, by omega⟩)
        refine zwW_al I (a1 := 165) (a2 := 165) (kd := 20) (n := 12) (t := 0) (lo := 0) (hi := 155) (nx := 21) (by decide +kernel) (by first | decide | exact ⟨by decide, by decide⟩) ib2 ?_
        intro v6 ev6 lv6 uv6
        refine zwW_p [(1, 2, 0)] (q := 22) (ls' := [(2, 37), (0, a), (0, b), (0, zL1), (0, kL1)]) (st' := [(0, b), (0, v6)]) (by decide +kernel) rfl ?_
        refine zwic_gt (q := 66) (nx := 25) (by decide +kernel) (fun c7 => ?_) (fun c7 => ?_)
        · refine zwW_inc (i := 4) (c := 1) (x := kL1) (nx := 69) (by decide +kernel) rfl (by first | omega | exact ⟨by omega, by omega⟩) (ls' := [(2, 37), (0, a), (0, b), (0, zL1), (0, (kL1 + 1))]) rfl ?_
          refine zwW_p [(24, 5, 0)] (q := 5) (ls' := [(2, 37), (0, a), (0, b), (0, zL1), (0, (kL1 + 1))]) (st' := []) (by decide +kernel) rfl ?_
          exact IHL1 ((100 - (kL1 + 1))).toNat (by omega) zL1 (kL1 + 1) rfl (by omega) (by omega) (by rw [show (kL1 + 1).toNat = (kL1).toNat + 1 by omega]; first | exact pBw_t iL1_2 (by omega) (by omega) (show 0 < fld h (155 + fld h 164 (kL1).toNat) a.toNat by omega) (by omega) | exact pBw_f iL1_2 (by rintro ⟨c1, c2, c3⟩; have c2 : 0 < fld h (155 + fld h 164 (kL1).toNat) a.toNat := c2; omega))
        · refine zwW_p [(1, 0, 2)] (q := 26) (ls' := [(2, 37), (0, a), (0, b), (0, zL1), (0, kL1)]) (st' := [(2, 37)]) (by decide +kernel) rfl ?_
          refine zwW_gc I (kd := 13) (bn := 49) (n := 97) (c := 154) (nx := 29) (by decide +kernel) ?_
          refine zwW_p [(1, 0, 2)] (q := 30) (ls' := [(2, 37), (0, a), (0, b), (0, zL1), (0, kL1)]) (st' := [(2, 37), (2, 154)]) (by decide +kernel) rfl ?_
          refine zwW_gc I (kd := 13) (bn := 50) (n := 97) (c := 164) (nx := 33) (by decide +kernel) ?_
          refine zwW_p [(1, 4, 0)] (q := 35) (ls' := [(2, 37), (0, a), (0, b), (0, zL1), (0, kL1)]) (st' := [(0, kL1), (2, 164), (2, 154)]) (by decide +kernel) rfl ?_
          refine zwW_al I (a1 := 164) (a2 := 164) (kd := 20) (n := 12) (t := 0) (lo := 0) (hi := 7) (nx := 36) (by decide +kernel) (by first | decide | exact ⟨by decide, by decide⟩) ib2 ?_
          intro v8 ev8 lv8 uv8
          refine zwW_ro I (a := 154) (n := 9) (kd := 26) (base := 155) (step := 1) (nx := 37) (by decide +kernel) rfl (by first | omega | exact ⟨by omega, by omega⟩) ?_
          rw [show ((155 : Nat) : Int) + ((1 : Nat) : Int) * v8 = (155 + v8) by omega]
          refine zwW_p [(1, 1, 0)] (q := 38) (ls' := [(2, 37), (0, a), (0, b), (0, zL1), (0, kL1)]) (st' := [(0, a), (2, (155 + v8))]) (by decide +kernel) rfl ?_
          have ib3 : 0 ≤ a ∧ a < ((5 : Nat) : Int) := (by first | omega | exact ⟨by omega, by omega⟩)
          refine zwW_al I (a1 := 155) (a2 := 163) (kd := 20) (n := 5) (t := 0) (lo := 0) (hi := 400) (nx := 39) (by decide +kernel) (by first | omega | exact ⟨by omega, by omega⟩) ib3 ?_
          intro v9 ev9 lv9 uv9
          have L39 : v9 = fld h (155 + fld h 164 (kL1).toNat) a.toNat := by rw [ev9, ev8]
          refine zwif_le (q := 66) (nx := 42) (by decide +kernel) (fun c10 => ?_) (fun c10 => ?_)
          · refine zwW_inc (i := 4) (c := 1) (x := kL1) (nx := 69) (by decide +kernel) rfl (by first | omega | exact ⟨by omega, by omega⟩) (ls' := [(2, 37), (0, a), (0, b), (0, zL1), (0, (kL1 + 1))]) rfl ?_
            refine zwW_p [(24, 5, 0)] (q := 5) (ls' := [(2, 37), (0, a), (0, b), (0, zL1), (0, (kL1 + 1))]) (st' := []) (by decide +kernel) rfl ?_
            exact IHL1 ((100 - (kL1 + 1))).toNat (by omega) zL1 (kL1 + 1) rfl (by omega) (by omega) (by rw [show (kL1 + 1).toNat = (kL1).toNat + 1 by omega]; first | exact pBw_t iL1_2 (by omega) (by omega) (show 0 < fld h (155 + fld h 164 (kL1).toNat) a.toNat by omega) (by omega) | exact pBw_f iL1_2 (by rintro ⟨c1, c2, c3⟩; have c2 : 0 < fld h (155 + fld h 164 (kL1).toNat) a.toNat := c2; omega))
          · refine zwW_p [(1, 3, 0), (0, -1, 0)] (q := 44) (ls' := [(2, 37), (0, a), (0, b), (0, zL1), (0, kL1)]) (st' := [(0, -1), (0, zL1)]) (by decide +kernel) rfl ?_
            refine zwic_eq (q := 63) (nx := 47) (by decide +kernel) (fun c11 => ?_) (fun c11 => ?_)
            · refine zwW_p [(1, 4, 0), (2, 3, 0)] (q := 66) (ls' := [(2, 37), (0, a), (0, b), (0, kL1), (0, kL1)]) (st' := []) (by decide +kernel) rfl ?_
              refine zwW_inc (i := 4) (c := 1) (x := kL1) (nx := 69) (by decide +kernel) rfl (by first | omega | exact ⟨by omega, by omega⟩) (ls' := [(2, 37), (0, a), (0, b), (0, kL1), (0, (kL1 + 1))]) rfl ?_
              refine zwW_p [(24, 5, 0)] (q := 5) (ls' := [(2, 37), (0, a), (0, b), (0, kL1), (0, (kL1 + 1))]) (st' := []) (by decide +kernel) rfl ?_
              exact IHL1 ((100 - (kL1 + 1))).toNat (by omega) kL1 (kL1 + 1) rfl (by omega) (by omega) (by rw [show (kL1 + 1).toNat = (kL1).toNat + 1 by omega]; first | exact pBw_t iL1_2 (by omega) (by omega) (show 0 < fld h (155 + fld h 164 (kL1).toNat) a.toNat by omega) (by omega) | exact pBw_f iL1_2 (by rintro ⟨c1, c2, c3⟩; have c2 : 0 < fld h (155 + fld h 164 (kL1).toNat) a.toNat := c2; omega))
            · refine zwW_p [(1, 0, 2)] (q := 48) (ls' := [(2, 37), (0, a), (0, b), (0, zL1), (0, kL1)]) (st' := [(2, 37)]) (by decide +kernel) rfl ?_
              refine zwW_gc I (kd := 13) (bn := 51) (n := 97) (c := 165) (nx := 51) (by decide +kernel) ?_
              refine zwW_p [(1, 4, 0)] (q := 53) (ls' := [(2, 37), (0, a), (0, b), (0, zL1), (0, kL1)]) (st' := [(0, kL1), (2, 165)]) (by decide +kernel) rfl ?_
              refine zwW_al I (a1 := 165) (a2 := 165) (kd := 20) (n := 12) (t := 0) (lo := 0) (hi := 155) (nx := 54) (by decide +kernel) (by first | decide | exact ⟨by decide, by decide⟩) ib2 ?_
              intro v12 ev12 lv12 uv12
              refine zwW_p [(1, 0, 2)] (q := 55) (ls' := [(2, 37), (0, a), (0, b), (0, zL1), (0, kL1)]) (st' := [(2, 37), (0, v12)]) (by decide +kernel) rfl ?_
              refine zwW_gc I (kd := 13) (bn := 51) (n := 97) (c := 165) (nx := 58) (by decide +kernel) ?_
              refine zwW_p [(1, 3, 0)] (q := 59) (ls' := [(2, 37), (0, a), (0, b), (0, zL1), (0, kL1)]) (st' := [(0, zL1), (2, 165), (0, v12)]) (by decide +kernel) rfl ?_
              have ib4 : 0 ≤ zL1 ∧ zL1 < ((12 : Nat) : Int) := (by first | omega | exact ⟨by omega, by omega⟩)
              refine zwW_al I (a1 := 165) (a2 := 165) (kd := 20) (n := 12) (t := 0) (lo := 0) (hi := 155) (nx := 60) (by decide +kernel) (by first | decide | exact ⟨by decide, by decide⟩) ib4 ?_
              intro v13 ev13 lv13 uv13
              refine zwic_lt (q := 66) (nx := 63) (by decide +kernel) (fun c14 => ?_) (fun c14 => ?_)
              · refine zwW_inc (i := 4) (c := 1) (x := kL1) (nx := 69) (by decide +kernel) rfl (by first | omega | exact ⟨by omega, by omega⟩) (ls' := [(2, 37), (0, a), (0, b), (0, zL1), (0, (kL1 + 1))]) rfl ?_
                refine zwW_p [(24, 5, 0)] (q := 5) (ls' := [(2, 37), (0, a), (0, b), (0, zL1), (0, (kL1 + 1))]) (st' := []) (by decide +kernel) rfl ?_
                exact IHL1 ((100 - (kL1 + 1))).toNat (by omega) zL1 (kL1 + 1) rfl (by omega) (by omega) (by rw [show (kL1 + 1).toNat = (kL1).toNat + 1 by omega]; first | exact pBw_t iL1_2 (by omega) (by omega) (show 0 < fld h (155 + fld h 164 (kL1).toNat) a.toNat by omega) (by omega) | exact pBw_f iL1_2 (by rintro ⟨c1, c2, c3⟩; have c2 : 0 < fld h (155 + fld h 164 (kL1).toNat) a.toNat := c2; omega))
              · refine zwW_p [(1, 4, 0), (2, 3, 0)] (q := 66) (ls' := [(2, 37), (0, a), (0, b), (0, kL1), (0, kL1)]) (st' := []) (by decide +kernel) rfl ?_
                refine zwW_inc (i := 4) (c := 1) (x := kL1) (nx := 69) (by decide +kernel) rfl (by first | omega | exact ⟨by omega, by omega⟩) (ls' := [(2, 37), (0, a), (0, b), (0, kL1), (0, (kL1 + 1))]) rfl ?_
                refine zwW_p [(24, 5, 0)] (q := 5) (ls' := [(2, 37), (0, a), (0, b), (0, kL1), (0, (kL1 + 1))]) (st' := []) (by decide +kernel) rfl ?_
                exact IHL1 ((100 - (kL1 + 1))).toNat (by omega) kL1 (kL1 + 1) rfl (by omega) (by omega) (by rw [show (kL1 + 1).toNat = (kL1).toNat + 1 by omega]; first | exact pBw_t iL1_2 (by omega) (by omega) (show 0 < fld h (155 + fld h 164 (kL1).toNat) a.toNat by omega) (by omega) | exact pBw_f iL1_2 (by rintro ⟨c1, c2, c3⟩; have c2 : 0 < fld h (155 + fld h 164 (kL1).toNat) a.toNat := c2; omega))
  exact L1 _ (-1) 0 rfl (by omega) (by omega) (rfl)
end
section
/-! which of the sheets in force counts: the class's search -/
section WY
variable {h : Hp} {a b r w : Int} {k : Nat}
/-- what is in force, in the class as in the model -/
def zFrc (h : Hp) (a : Int) : Prop := ∀ k : Nat, (k : Int) < fld h 13 1 → 365 < fld h 15 k ∧ fld h 16 k = fld h 165 k ∧ 0 ≤ fld h 165 k ∧ (fld h (fld h (fld h 15 k) 2) a.toNat ≠ -1 ↔ 0 < fld h (155 + fld h 164 k) a.toNat)
def zBw (h : Hp) (a b : Int) (n : Nat) : Int := pBw (fld h 164) (fld h 165) (fun s => fld h (155 + s) a.toNat) b n
def zFi (h : Hp) (a b r w : Int) (n : Nat) : Prop := (zBw h a b n = -1 ∧ r = 0 ∧ w = 0) ∨ (0 ≤ zBw h a b n ∧ r = fld h 15 (zBw h a b n).toNat ∧ w = fld h 165 (zBw h a b n).toNat ∧ 365 < r)
theorem zFi_0 : zFi h a b 0 0 0 := Or.inl ⟨rfl, rfl, rfl⟩
theorem zFi_t (F : zFrc h a) (H : zFi h a b r w k) (hk : (k : Int) < fld h 13 1) (c1 : fld h 16 k ≤ b) (c2 : w ≤ fld h 16 k) (c3 : fld h (fld h (fld h 15 k) 2) a.toNat ≠ -1) : zFi h a b (fld h 15 k) (fld h 16 k) (k + 1) := by
  obtain ⟨f1, f2, f3, f4⟩ := F k hk
  have e : zBw h a b (k + 1) = (k : Int) := (pBw_t (z := zBw h a b k) rfl rfl (by omega) (f4.mp c3) (by
    rcases H with ⟨z1, z2, z3⟩ | ⟨z1, z2, z3, z4⟩
    · exact Or.inl z1
    · exact Or.inr (by omega))).symm
  refine Or.inr ⟨by omega, ?_, ?_, f1⟩
  · rw [e, Int.toNat_natCast]
  · rw [e, Int.toNat_natCast, f2]
theorem zFi_f (F : zFrc h a) (H : zFi h a b r w k) (hk : (k : Int) < fld h 13 1) (c : b < fld h 16 k ∨ fld h 16 k < w ∨ fld h (fld h (fld h 15 k) 2) a.toNat = -1) : zFi h a b r w (k + 1) := by
  obtain ⟨f1, f2, f3, f4⟩ := F k hk
  have e : zBw h a b (k + 1) = zBw h a b k := (pBw_f (z := zBw h a b k) rfl (by
    rintro ⟨c1, c2, c3⟩
    rcases c with c | c | c
    · omega
    · rcases H with ⟨z1, z2, z3⟩ | ⟨z1, z2, z3, z4⟩
      · omega
      · have c3 : zBw h a b k = -1 ∨ fld h 165 (zBw h a b k).toNat ≤ fld h 165 k := c3
        omega
    · exact f4.mpr c2 c)).symm
  unfold zFi
  rw [e]
  exact H
end WY
end
section
/-! contracts of the class -/
-- WheelLand$Sheet.beginOf(I)I
theorem x206_w {sc : List Int} (h : Hp) (C : CI h) (r a : Int) (G_r : gS h r) (q_a : -2147483648 ≤ a ∧ a ≤ 2147483647) (p1 : 0 ≤ a ∧ a ≤ 4) : zwC sc 1 206 [(2, r), (0, a)] h (zwRt 0 (fun x g => h = g ∧ (-2147483648 ≤ x ∧ x ≤ 2147483647) ∧ (x = fld h (fld h r 2) a.toNat))) := by
  refine zwC_of (D := 0) 2 (by decide +kernel) rfl (ls := [(2, r), (0, a)]) rfl ?_
  have lw_r := G_r.1
  refine zwW_p [(1, 1, 0)] (q := 1) (ls' := [(2, r), (0, a)]) (st' := [(0, a)]) (by decide +kernel) rfl ?_
  refine zwif_lt (q := 22) (nx := 4) (by decide +kernel) (fun c1 => ?_) (fun c1 => ?_)
  · exfalso; omega
  · refine zwW_p [(1, 1, 0), (1, 0, 2)] (q := 6) (ls' := [(2, r), (0, a)]) (st' := [(2, r), (0, a)]) (by decide +kernel) rfl ?_
    refine zwW_get (kd := 10) (bn := 2) (t := 2) (n := 3) (nx := 9) (by decide +kernel) G_r.2.1 rfl ?_
    obtain ⟨v2, ev2⟩ : ∃ z, z = fld h r 2 := ⟨_, rfl⟩
    rw [← ev2]
    have Gv2 : gA 5 h v2 := by rw [ev2]; exact G_r.2.2.2
    have lv2 := Gv2.1
    refine zwW_len (n := 5) (nx := 10) (by decide +kernel) Gv2.2 rfl ?_
    refine zwic_ge (q := 22) (nx := 13) (by decide +kernel) (fun c3 => ?_) (fun c3 => ?_)
    · exfalso; omega
    · refine zwW_p [(1, 0, 2)] (q := 14) (ls' := [(2, r), (0, a)]) (st' := [(2, r)]) (by decide +kernel) rfl ?_
      refine zwW_get (kd := 10) (bn := 2) (t := 2) (n := 3) (nx := 17) (by decide +kernel) G_r.2.1 rfl ?_
      rw [← ev2]
      refine zwW_p [(1, 1, 0)] (q := 18) (ls' := [(2, r), (0, a)]) (st' := [(0, a), (2, v2)]) (by decide +kernel) rfl ?_
      refine zwX_ai C (n := 5) (nx := 19) (by decide +kernel) Gv2.2 Gv2.1 (by first | omega | exact ⟨by omega, by omega⟩) ?_
      intro v5 ev5 lv5 uv5
      refine zwW_p [(24, 23, 0)] (q := 23) (ls' := [(2, r), (0, a)]) (st' := [(0, v5)]) (by decide +kernel) rfl ?_
      refine zwW_ret (nx := 24) (a := 0) (b := 0) (by decide +kernel) rfl (Or.inl rfl) ?_
      exact ⟨rfl, by omega, by first | omega | (subst_vars; rfl)⟩
-- WheelLand$Rules.inForce(II)LWheelLand$Sheet;
theorem x125_w {sc : List Int} (h : Hp) (C : CI h) (a b : Int) (q_a : -2147483648 ≤ a ∧ a ≤ 2147483647) (q_b : -2147483648 ≤ b ∧ b ≤ 2147483647) (p1 : 0 ≤ a ∧ a ≤ 4) (F : zFrc h a) : zwC sc 2 125 [(2, 13), (0, a), (0, b)] h (zwRt 2 (fun x g => h = g ∧ ((x = 0 ∧ (zBw h a b (fld h 13 1).toNat = -1)) ∨ (gS h x ∧ (0 ≤ zBw h a b (fld h 13 1).toNat ∧ x = fld h 15 (zBw h a b (fld h 13 1).toNat).toNat))))) := by
  refine zwC_of (D := 1) 7 (by decide +kernel) rfl (ls := [(2, 13), (0, a), (0, b), (9, 0), (9, 0), (9, 0), (9, 0)]) rfl ?_
  refine zwW_p [(0, 0, 2), (2, 3, 2), (0, 0, 0), (2, 4, 0), (0, 0, 0), (2, 5, 0)] (q := 8) (ls' := [(2, 13), (0, a), (0, b), (2, 0), (0, 0), (0, 0), (9, 0)]) (st' := []) (by decide +kernel) rfl ?_
  have L1 : ∀ (n0 : Nat) (wL1 kL1 r3L1 : Int) (w6L1 : Vl), n0 = ((1000 - kL1)).toNat → (zFi h a b r3L1 wL1 (kL1).toNat) → (kL1 ≤ max 0 (fld h 13 1)) → (-2147483648 ≤ wL1 ∧ wL1 ≤ 2147483647) → (0 ≤ kL1 ∧ kL1 ≤ 12) → ((r3L1 = 0 ∨ gS h r3L1)) → zwW sc (1) 125 8 [(2, 13), (0, a), (0, b), (2, r3L1), (0, wL1), (0, kL1), w6L1] [] h (zwRt 2 (fun x g => h = g ∧ ((x = 0 ∧ (zBw h a b (fld h 13 1).toNat = -1)) ∨ (gS h x ∧ (0 ≤ zBw h a b (fld h 13 1).toNat ∧ x = fld h 15 (zBw h a b (fld h 13 1).toNat).toNat))))) := by
    intro n0
    induction n0 using Nat.strongRecOn with
    | ind n0 IHL1 =>
      intro wL1 kL1 r3L1 w6L1 hnL1 iL1_0 iL1_1 iL1_2 iL1_3 gL1_0
      have lw_r3L1 : 0 ≤ r3L1 := by
        rcases gL1_0 with z | z
        · omega
        · have := z.1
          omega
      refine zwW_p [(1, 5, 0), (1, 0, 2)] (q := 11) (ls' := [(2, 13), (0, a), (0, b), (2, r3L1), (0, wL1), (0, kL1), w6L1]) (st' := [(2, 13), (0, kL1)]) (by decide +kernel) rfl ?_
      refine zwW_gs C.1 (kd := 9) (bn := 1) (n := 6) (t := 0) (lo := 0) (hi := 12) (nx := 14) (by decide +kernel) ?_
      intro v2 ev2 lv2 uv2
      refine zwic_ge (q := 92) (nx := 17) (by decide +kernel) (fun c3 => ?_) (fun c3 => ?_)
      · refine zwW_p [(1, 3, 2)] (q := 93) (ls' := [(2, 13), (0, a), (0, b), (2, r3L1), (0, wL1), (0, kL1), w6L1]) (st' := [(2, r3L1)]) (by decide +kernel) rfl ?_
        refine zwW_ret (nx := 94) (a := 0) (b := 2) (by decide +kernel) rfl (Or.inl rfl) ?_
        refine ⟨rfl, ?_⟩
        have z := iL1_0
        rw [show (kL1).toNat = (fld h 13 1).toNat by omega] at z
        rcases z with ⟨z1, z2, z3⟩ | ⟨z1, z2, z3, z4⟩
        · exact Or.inl ⟨z2, z1⟩
        · exact Or.inr ⟨(gL1_0).resolve_left (by omega), z1, z2⟩
      · refine zwW_p [(1, 5, 0), (1, 0, 2)] (q := 20) (ls' := [(2, 13), (0, a), (0, b), (2, r3L1), (0, wL1), (0, kL1), w6L1]) (st' := [(2, 13), (0, kL1)]) (by decide +kernel) rfl ?_
        refine zwW_gc C.1 (kd := 9) (bn := 2) (n := 6) (c := 15) (nx := 23) (by decide +kernel) ?_
        refine zwW_len (kd := 24) (n := 12) (nx := 24) (by decide +kernel) (C.1.s (a1 := 15) (a2 := 15) (by decide +kernel) (by omega) (by omega)) rfl ?_
        refine zwic_ge (q := 92) (nx := 27) (by decide +kernel) (fun c4 => ?_) (fun c4 => ?_)
        · exfalso; omega
        · refine zwW_p [(1, 0, 2)] (q := 28) (ls' := [(2, 13), (0, a), (0, b), (2, r3L1), (0, wL1), (0, kL1), w6L1]) (st' := [(2, 13)]) (by decide +kernel) rfl ?_
          refine zwW_gc C.1 (kd := 9) (bn := 2) (n := 6) (c := 15) (nx := 31) (by decide +kernel) ?_
          refine zwW_p [(1, 5, 0)] (q := 33) (ls' := [(2, 13), (0, a), (0, b), (2, r3L1), (0, wL1), (0, kL1), w6L1]) (st' := [(0, kL1), (2, 15)]) (by decide +kernel) rfl ?_
          refine zwW_al C.1 (a1 := 15) (a2 := 15) (kd := 24) (n := 12) (t := 2) (lo := 0) (hi := 2147483647) (nx := 34) (by decide +kernel) (by first | decide | exact ⟨by decide, by decide⟩) (by first | omega | exact ⟨by omega, by omega⟩) ?_
          intro v5 ev5 lv5 uv5
          have Gv5 : v5 = 0 ∨ gS h v5 := by rw [ev5]; exact C.2.2.2.2 kL1.toNat (by omega)
          have F34 := F (kL1).toNat (by omega)
          refine zwW_p [(2, 6, 2), (1, 0, 2)] (q := 37) (ls' := [(2, 13), (0, a), (0, b), (2, r3L1), (0, wL1), (0, kL1), (2, v5)]) (st' := [(2, 13)]) (by decide +kernel) rfl ?_
          refine zwW_gc C.1 (kd := 9) (bn := 3) (n := 6) (c := 16) (nx := 40) (by decide +kernel) ?_
          refine zwW_p [(1, 5, 0)] (q := 42) (ls' := [(2, 13), (0, a), (0, b), (2, r3L1), (0, wL1), (0, kL1), (2, v5)]) (st' := [(0, kL1), (2, 16)]) (by decide +kernel) rfl ?_
          have ib1 : 0 ≤ kL1 ∧ kL1 < ((12 : Nat) : Int) := (by first | omega | exact ⟨by omega, by omega⟩)
          refine zwW_al C.1 (a1 := 16) (a2 := 16) (kd := 20) (n := 12) (t := 0) (lo := -2147483648) (hi := 2147483647) (nx := 43) (by decide +kernel) (by first | decide | exact ⟨by decide, by decide⟩) ib1 ?_
          intro v6 ev6 lv6 uv6
          refine zwW_p [(1, 2, 0)] (q := 44) (ls' := [(2, 13), (0, a), (0, b), (2, r3L1), (0, wL1), (0, kL1), (2, v5)]) (st' := [(0, b), (0, v6)]) (by decide +kernel) rfl ?_
          refine zwic_gt (q := 86) (nx := 47) (by decide +kernel) (fun c7 => ?_) (fun c7 => ?_)
          · refine zwW_inc (i := 5) (c := 1) (x := kL1) (nx := 89) (by decide +kernel) rfl (by first | omega | exact ⟨by omega, by omega⟩) (ls' := [(2, 13), (0, a), (0, b), (2, r3L1), (0, wL1), (0, (kL1 + 1)), (2, v5)]) rfl ?_
            refine zwW_p [(24, 8, 0)] (q := 8) (ls' := [(2, 13), (0, a), (0, b), (2, r3L1), (0, wL1), (0, (kL1 + 1)), (2, v5)]) (st' := []) (by decide +kernel) rfl ?_
            exact IHL1 ((1000 - (kL1 + 1))).toNat (by omega) wL1 (kL1 + 1) r3L1 (2, v5) rfl (by rw [show (kL1 + 1).toNat = (kL1).toNat + 1 by omega]; first | exact zFi_f F iL1_0 (by omega) (by omega) | (have z := zFi_t F iL1_0 (by omega) (by omega) (by omega) (by omega); subst_vars; exact z)) (by omega) (by omega) (by omega) gL1_0
          · refine zwW_p [(1, 0, 2)] (q := 48) (ls' := [(2, 13), (0, a), (0, b), (2, r3L1), (0, wL1), (0, kL1), (2, v5)]) (st' := [(2, 13)]) (by decide +kernel) rfl ?_
            refine zwW_gc C.1 (kd := 9) (bn := 3) (n := 6) (c := 16) (nx := 51) (by decide +kernel) ?_
            refine zwW_p [(1, 5, 0)] (q := 53) (ls' := [(2, 13), (0, a), (0, b), (2, r3L1), (0, wL1), (0, kL1), (2, v5)]) (st' := [(0, kL1), (2, 16)]) (by decide +kernel) rfl ?_
            refine zwW_al C.1 (a1 := 16) (a2 := 16) (kd := 20) (n := 12) (t := 0) (lo := -2147483648) (hi := 2147483647) (nx := 54) (by decide +kernel) (by first | decide | exact ⟨by decide, by decide⟩) ib1 ?_
            intro v8 ev8 lv8 uv8
            refine zwW_p [(1, 4, 0)] (q := 56) (ls' := [(2, 13), (0, a), (0, b), (2, r3L1), (0, wL1), (0, kL1), (2, v5)]) (st' := [(0, wL1), (0, v8)]) (by decide +kernel) rfl ?_
            refine zwic_lt (q := 86) (nx := 59) (by decide +kernel) (fun c9 => ?_) (fun c9 => ?_)
            · refine zwW_inc (i := 5) (c := 1) (x := kL1) (nx := 89) (by decide +kernel) rfl (by first | omega | exact ⟨by omega, by omega⟩) (ls' := [(2, 13), (0, a), (0, b), (2, r3L1), (0, wL1), (0, (kL1 + 1)), (2, v5)]) rfl ?_
              refine zwW_p [(24, 8, 0)] (q := 8) (ls' := [(2, 13), (0, a), (0, b), (2, r3L1), (0, wL1), (0, (kL1 + 1)), (2, v5)]) (st' := []) (by decide +kernel) rfl ?_
              exact IHL1 ((1000 - (kL1 + 1))).toNat (by omega) wL1 (kL1 + 1) r3L1 (2, v5) rfl (by rw [show (kL1 + 1).toNat = (kL1).toNat + 1 by omega]; first | exact zFi_f F iL1_0 (by omega) (by omega) | (have z := zFi_t F iL1_0 (by omega) (by omega) (by omega) (by omega); subst_vars; exact z)) (by omega) (by omega) (by omega) gL1_0
            · refine zwW_p [(1, 6, 2)] (q := 61) (ls' := [(2, 13), (0, a), (0, b), (2, r3L1), (0, wL1), (0, kL1), (2, v5)]) (st' := [(2, v5)]) (by decide +kernel) rfl ?_
              refine zwnu_eq (q := 86) (nx := 64) (by decide +kernel) (by omega) (fun c10 => ?_) (fun c10 => ?_)
              · refine zwW_inc (i := 5) (c := 1) (x := kL1) (nx := 89) (by decide +kernel) rfl (by first | omega | exact ⟨by omega, by omega⟩) (ls' := [(2, 13), (0, a), (0, b), (2, r3L1), (0, wL1), (0, (kL1 + 1)), (2, v5)]) rfl ?_
                refine zwW_p [(24, 8, 0)] (q := 8) (ls' := [(2, 13), (0, a), (0, b), (2, r3L1), (0, wL1), (0, (kL1 + 1)), (2, v5)]) (st' := []) (by decide +kernel) rfl ?_
                exact IHL1 ((1000 - (kL1 + 1))).toNat (by omega) wL1 (kL1 + 1) r3L1 (2, v5) rfl (by rw [show (kL1 + 1).toNat = (kL1).toNat + 1 by omega]; first | exact zFi_f F iL1_0 (by omega) (by omega) | (have z := zFi_t F iL1_0 (by omega) (by omega) (by omega) (by omega); subst_vars; exact z)) (by omega) (by omega) (by omega) gL1_0
              · have G11 : gS h v5 := Gv5.resolve_left (by omega)
                have lG11 := G11.1
                refine zwW_p [(1, 6, 2), (1, 1, 0)] (q := 67) (ls' := [(2, 13), (0, a), (0, b), (2, r3L1), (0, wL1), (0, kL1), (2, v5)]) (st' := [(0, a), (2, v5)]) (by decide +kernel) rfl ?_
                refine zwW_cv (op := 60) (k' := 206) (n := 1) (kd := 10) (m := 3) (nx := 70) (r := v5) (tl := [(0, a)]) (st' := []) (by decide +kernel) rfl (by decide +kernel) G11.2.1 (x206_w h C v5 a G11 (by omega) p1) rfl ?_
                rintro v12 _ ⟨rfl, f13, f14⟩
                have B70 : v12 = fld h (fld h (fld h 15 (kL1).toNat) 2) a.toNat := by have z := f14; rw [ev5] at z; exact z
                refine zwW_p [(0, -1, 0)] (q := 71) (ls' := [(2, 13), (0, a), (0, b), (2, r3L1), (0, wL1), (0, kL1), (2, v5)]) (st' := [(0, -1), (0, v12)]) (by decide +kernel) rfl ?_
                refine zwic_eq (q := 86) (nx := 74) (by decide +kernel) (fun c15 => ?_) (fun c15 => ?_)
                · refine zwW_inc (i := 5) (c := 1) (x := kL1) (nx := 89) (by decide +kernel) rfl (by first | omega | exact ⟨by omega, by omega⟩) (ls' := [(2, 13), (0, a), (0, b), (2, r3L1), (0, wL1), (0, (kL1 + 1)), (2, v5)]) rfl ?_
                  refine zwW_p [(24, 8, 0)] (q := 8) (ls' := [(2, 13), (0, a), (0, b), (2, r3L1), (0, wL1), (0, (kL1 + 1)), (2, v5)]) (st' := []) (by decide +kernel) rfl ?_
                  exact IHL1 ((1000 - (kL1 + 1))).toNat (by omega) wL1 (kL1 + 1) r3L1 (2, v5) rfl (by rw [show (kL1 + 1).toNat = (kL1).toNat + 1 by omega]; first | exact zFi_f F iL1_0 (by omega) (by omega) | (have z := zFi_t F iL1_0 (by omega) (by omega) (by omega) (by omega); subst_vars; exact z)) (by omega) (by omega) (by omega) gL1_0
                · refine zwW_p [(1, 0, 2)] (q := 75) (ls' := [(2, 13), (0, a), (0, b), (2, r3L1), (0, wL1), (0, kL1), (2, v5)]) (st' := [(2, 13)]) (by decide +kernel) rfl ?_
                  refine zwW_gc C.1 (kd := 9) (bn := 3) (n := 6) (c := 16) (nx := 78) (by decide +kernel) ?_
                  refine zwW_p [(1, 5, 0)] (q := 80) (ls' := [(2, 13), (0, a), (0, b), (2, r3L1), (0, wL1), (0, kL1), (2, v5)]) (st' := [(0, kL1), (2, 16)]) (by decide +kernel) rfl ?_
                  refine zwW_al C.1 (a1 := 16) (a2 := 16) (kd := 20) (n := 12) (t := 0) (lo := -2147483648) (hi := 2147483647) (nx := 81) (by decide +kernel) (by first | decide | exact ⟨by decide, by decide⟩) ib1 ?_
                  intro v16 ev16 lv16 uv16
                  refine zwW_p [(2, 4, 0), (1, 6, 2), (2, 3, 2)] (q := 86) (ls' := [(2, 13), (0, a), (0, b), (2, v5), (0, v16), (0, kL1), (2, v5)]) (st' := []) (by decide +kernel) rfl ?_
                  refine zwW_inc (i := 5) (c := 1) (x := kL1) (nx := 89) (by decide +kernel) rfl (by first | omega | exact ⟨by omega, by omega⟩) (ls' := [(2, 13), (0, a), (0, b), (2, v5), (0, v16), (0, (kL1 + 1)), (2, v5)]) rfl ?_
                  refine zwW_p [(24, 8, 0)] (q := 8) (ls' := [(2, 13), (0, a), (0, b), (2, v5), (0, v16), (0, (kL1 + 1)), (2, v5)]) (st' := []) (by decide +kernel) rfl ?_
                  exact IHL1 ((1000 - (kL1 + 1))).toNat (by omega) v16 (kL1 + 1) v5 (2, v5) rfl (by rw [show (kL1 + 1).toNat = (kL1).toNat + 1 by omega]; first | exact zFi_f F iL1_0 (by omega) (by omega) | (have z := zFi_t F iL1_0 (by omega) (by omega) (by omega) (by omega); subst_vars; exact z)) (by omega) (by omega) (by omega) (Or.inr G11)
  exact L1 _ 0 0 0 (9, 0) rfl (zFi_0) (by omega) (by omega) (by omega) (Or.inl rfl)
end
section
/-! the sheets and what is in force, the class's and the model's -/
section SH
variable {h h0 h1 h2 h4 h5 g : Hp} {ms ms' : Zms} {c s c' s' x y m : Int} {k j n : Nat} {T : Bool × pQ × (Nat → Int)}
theorem zXR.du (R : zXR ms c s h g) {k n : Nat} (e : zun ms (1000 + k) = true) {r : Int} (hr : 365 < r) (hs : sh h r = some (k, n)) (h25 : k ≠ 25) : fld g r = fld h r := funext fun j => R.2.2.2.2.2.2.1 r k n j hr hs h25 (fun f hf hz => by
  have w := List.all_eq_true.mp e f hf
  rw [Bool.or_eq_true] at w
  rcases w with w | w
  · have := Nat.le_of_ble_eq_true w
    omega
  · have := Nat.le_of_ble_eq_true w
    omega)
/-- no place of those from a to b -/
def zuw (ms : Zms) (a b : Nat) : Bool := ms.all (fun q => Nat.blt q.2.1 a || Nat.blt b q.1)
theorem zXR.rw {a b : Nat} (R : zXR ms c s h g) (e : zuw ms a b = true) (h1 : 0 < a) (h2 : b ≤ 365) {r : Int} (k1 : (a : Int) ≤ r) (k2 : r ≤ (b : Int)) : fld g r = fld h r := funext fun j => R.2.1 r j (by omega) (by omega) (fun f hf hz => by
  have w := List.all_eq_true.mp e f hf
  rw [Bool.or_eq_true] at w
  rcases w with w | w
  · have := Nat.le_of_ble_eq_true w
    omega
  · have := Nat.le_of_ble_eq_true w
    omega)
/-- words and marks against rows and lengths -/
def zSr (W M : Nat → Int) (N : Nat) (R : Nat → Nat → Int) (L : Nat → Int) : Prop := ∀ d : Nat, d < 5 → (M d = -1 ∧ L d = 0) ∨ ∃ B l : Nat, M d = (B : Int) ∧ L d = (l : Int) ∧ 0 < l ∧ B + l < N ∧ W (B + l) = -21 ∧ ∀ k, k < l → mCd (R d) k (W (B + k))
theorem zSr.cg {W W2 M M2 L L2 : Nat → Int} {N : Nat} {R R2 : Nat → Nat → Int} (P : zSr W M N R L) (eM : ∀ d, d < 5 → M2 d = M d) (eL : ∀ d, d < 5 → L2 d = L d) (eR : ∀ d, d < 5 → R2 d = R d) (eW : (∃ d, d < 5 ∧ M d ≠ -1) → ∀ i, i < N → W2 i = W i) : zSr W2 M2 N R2 L2 := fun d hd => by
  rcases P d hd with ⟨p1, p2⟩ | ⟨B, l, p1, p2, p3, p4, p5, p6⟩
  · exact Or.inl ⟨(eM d hd).trans p1, (eL d hd).trans p2⟩
  · have w := eW ⟨d, hd, by omega⟩
    refine Or.inr ⟨B, l, (eM d hd).trans p1, (eL d hd).trans p2, p3, p4, (w _ p4).trans p5, fun k hk => ?_⟩
    rw [eR d hd, w _ (by omega)]
    exact p6 k hk
/-- a sheet's words -/
def zWo (h : Hp) (s : Nat) : Int := fld h (zv h 14 s) 1
def zMa (h : Hp) (s : Nat) : Int := fld h (zv h 14 s) 2
def zHa (h : Hp) (s : Nat) : Prop := ∃ d : Nat, d < 5 ∧ fld h (zMa h s) d ≠ -1
/-- one sheet -/
def zS1 (h : Hp) (s : Nat) : Prop := fld h (zv h 14 s) 0 = (s : Int) ∧ ∃ N : Nat, (sh h (zWo h s) = some (20, N) ∧ N ≤ 400) ∧ zSr (fld h (zWo h s)) (fld h (zMa h s)) N (fun d => fld h (101 + 6 * (s : Int) + (d : Int))) (fld h (155 + (s : Int))) ∧ (zHa h s → ∀ v : Nat, (v : Int) < fld h 2 2 → fld h (zv h 2 v) 16 ≠ zWo h s)
def zShe (h : Hp) : Prop := ∀ s : Nat, (s : Int) < fld h 14 2 → zS1 h s
theorem zS_g (C : CI h) {s : Nat} (hs : (s : Int) < fld h 14 2) : gS h (zv h 14 s) := (zv_g C (A := 14) (by decide) hs).2
theorem zV_g (C : CI h) {v : Nat} (hv : (v : Int) < fld h 2 2) : gV h (zv h 2 v) := (zv_g C (A := 2) (by decide) hv).2
theorem zS1.st {s : Nat} (P : zS1 h s) (eA : zv g 14 s = zv h 14 s) (eF : ∀ j : Nat, fld g (zv h 14 s) j = fld h (zv h 14 s) j) (eS : ∀ q p, sh h q = some p → sh g q = some p) (eM : fld g (zMa h s) = fld h (zMa h s)) (eW : zHa h s → fld g (zWo h s) = fld h (zWo h s)) (eR : ∀ d : Nat, d < 5 → fld g (101 + 6 * (s : Int) + (d : Int)) = fld h (101 + 6 * (s : Int) + (d : Int))) (eL : fld g (155 + (s : Int)) = fld h (155 + (s : Int))) (eV : zHa h s → ∀ v : Nat, (v : Int) < fld g 2 2 → fld g (zv g 2 v) 16 ≠ zWo h s) : zS1 g s := by
  obtain ⟨p0, N, p1, p2, p3⟩ := P
  have w1 : zWo g s = zWo h s := by unfold zWo; rw [eA, eF]
  have w2 : zMa g s = zMa h s := by unfold zMa; rw [eA, eF]
  have w3 : zHa g s → zHa h s := by
    rintro ⟨d, hd, z⟩
    rw [w2, eM] at z
    exact ⟨d, hd, z⟩
  unfold zS1
  rw [eA, eF, w1, w2, eM]
  exact ⟨p0, N, ⟨eS _ _ p1.1, p1.2⟩, p2.cg (fun _ _ => rfl) (fun d _ => congrFun eL d) eR (fun w i _ => congrFun (eW w) i), fun w => eV (w3 w)⟩
theorem zS_fin (R : zXR ms c s h g) {r : Int} {k n j : Nat} (hr : 365 < r) (hs : sh h r = some (k, n)) (e : zfin k j = true) : fld g r j = fld h r j := R.2.2.1 r k n j hr hs e
/-- the villages' price rows stay -/
theorem zV_16 (C : CI h) (R : zXR ms c s h g) (e : zun ms 2 = true) {v : Nat} (hv : (v : Int) < fld g 2 2) : (v : Int) < fld h 2 2 ∧ fld g (zv g 2 v) 16 = fld h (zv h 2 v) 16 := by
  rw [show fld g 2 2 = fld h 2 2 from R.vz (A := 2) (by decide) e] at hv
  have G := zV_g C hv
  refine ⟨hv, ?_⟩
  rw [R.v C (A := 2) (by decide) e hv]
  exact zS_fin R G.1 G.2.1 rfl
def zkSh (ms : Zms) : Bool := zun ms 14 && (zun ms 2 && (zun ms (1000 + 20) && (zuw ms 101 148 && zuw ms 155 162)))
theorem zS1.kp {u : Nat} (P : zS1 h u) (C : CI h) (hu : (u : Int) < fld h 14 2) (R : zXR ms c s h g) (e1 : zv g 14 u = zv h 14 u) (e2 : zun ms 2 = true) (e3 : zun ms (1000 + 20) = true) (eR : ∀ d : Nat, d < 5 → fld g (101 + 6 * (u : Int) + (d : Int)) = fld h (101 + 6 * (u : Int) + (d : Int))) (eL : fld g (155 + (u : Int)) = fld h (155 + (u : Int))) : zS1 g u := by
  have G := zS_g C hu
  obtain ⟨g1, g2, ⟨g3, N, g4⟩, g5, g6⟩ := G
  obtain ⟨p0, N2, p1, p2, p3⟩ := P
  refine zS1.st ⟨p0, N2, p1, p2, p3⟩ e1 (fun j => zS_fin R g1 g2 rfl) R.1 (R.du e3 g5 g6 (by decide)) (fun _ => R.du e3 g3 g4 (by decide)) eR eL (fun w v hv => ?_)
  obtain ⟨k1, k2⟩ := zV_16 C R e2 hv
  rw [k2]
  exact p3 w v k1
theorem zShe.kp (P : zShe h) (C : CI h) (R : zXR ms c s h g) (e : zkSh ms = true) : zShe g := by
  unfold zkSh at e
  simp only [Bool.and_eq_true] at e
  obtain ⟨e1, e2, e3, e4, e5⟩ := e
  intro u hu
  rw [show fld g 14 2 = fld h 14 2 from R.vz (A := 14) (by decide) e1] at hu
  have b := zLb_14 C
  exact (P u hu).kp C hu R (R.v C (A := 14) (by decide) e1 hu) e2 e3 (fun d hd => R.rw e4 (by decide) (by decide) (by omega) (by omega)) (R.rw e5 (by decide) (by decide) (by omega) (by omega))
/-! rows of numbers but the villages' prices stay -/
def zKw (h g : Hp) : Prop := (∀ q p, sh h q = some p → sh g q = some p) ∧ ∀ (q : Int) (n : Nat), 365 < q → sh h q = some (20, n) → (∀ v : Nat, (v : Int) < fld h 2 2 → fld h (zv h 2 v) 16 ≠ q) → fld g q = fld h q
theorem zKw.rf : zKw h h := ⟨fun _ _ z => z, fun _ _ _ _ _ => rfl⟩
theorem zKw.fr (K : zKw h h1) (Q : zXR ms c s h1 g) (e : zun ms (1000 + 20) = true) : zKw h g := ⟨fun q p z => Q.1 q p (K.1 q p z), fun q n h1 h2 h3 => (Q.du e h1 (K.1 _ _ h2) (by decide)).trans (K.2 q n h1 h2 h3)⟩
theorem zKw.tr (K : zKw h h1) (C : CI h) (R : zXR ms c s h h1) (e : zun ms 2 = true) (L : zKw h1 g) : zKw h g := ⟨fun q p z => L.1 q p (K.1 q p z), fun q n k1 k2 k3 => (L.2 q n k1 (K.1 _ _ k2) (fun v hv => by
  obtain ⟨z1, z2⟩ := zV_16 C R e hv
  rw [z2]
  exact k3 v z1)).trans (K.2 q n k1 k2 k3)⟩
theorem zKw.st {r : Int} {i : Nat} (K : zKw h h1) (C : CI h) (R : zXR ms c s h h1) (e : zun ms 2 = true) (F : ∀ q : Int, q ≠ fld h1 r 16 → fld g q = fld h1 q) (er : r = zv h1 2 i) (hi : (i : Int) < fld h1 2 2) (S : ∀ q p, sh h1 q = some p → sh g q = some p) : zKw h g := ⟨fun q p z => S q p (K.1 q p z), fun q n k1 k2 k3 => (F q (fun z => by
  obtain ⟨z1, z2⟩ := zV_16 C R e hi
  rw [er, z2] at z
  exact k3 i z1 z.symm)).trans (K.2 q n k1 k2 k3)⟩
theorem zShe.go (P : zShe h) (C : CI h) (R : zXR ms c s h g) (K : zKw h g) (e : (zun ms 14 && (zun ms 2 && (zuw ms 101 148 && zuw ms 155 162))) = true) : zShe g := by
  simp only [Bool.and_eq_true] at e
  obtain ⟨e1, e2, e4, e5⟩ := e
  intro u hu
  rw [show fld g 14 2 = fld h 14 2 from R.vz (A := 14) (by decide) e1] at hu
  have b := zLb_14 C
  obtain ⟨g1, g2, ⟨g3, N, g4⟩, g5, g6⟩ := zS_g C hu
  obtain ⟨p0, N2, p1, p2, p3⟩ := P u hu
  refine zS1.st ⟨p0, N2, p1, p2, p3⟩ (R.v C (A := 14) (by decide) e1 hu) (fun j => zS_fin R g1 g2 rfl) R.1 (K.2 _ 5 g5 g6 (fun v hv z => ?_)) (fun w => K.2 _ N g3 g4 (fun v hv z => p3 w v hv z)) (fun d hd => R.rw e4 (by decide) (by decide) (by omega) (by omega)) (R.rw e5 (by decide) (by decide) (by omega) (by omega)) (fun w v hv => ?_)
  · have G := (zV_g C hv).2.2.2
    rw [z] at G
    have q := Option.some.inj (G.symm.trans g6)
    have q2 : 157 = 5 := congrArg Prod.snd q
    omega
  · obtain ⟨k1, k2⟩ := zV_16 C R e2 hv
    rw [k2]
    exact p3 w v k1
/-- a village more -/
theorem zShe.vil {rr q : Int} (P : zShe h) (C : CI h) (R : zXR ms c s h h1) (D : zAd 2 h h1 rr) (e : (zun ms 14 && (zun ms (1000 + 20) && (zuw ms 101 148 && zuw ms 155 162))) = true) (eq : fld h1 rr 16 = q) (sq : sh h1 q = some (20, 157)) (cq : ∀ j : Nat, j < 157 → fld h1 q j = 10) : zShe h1 := by
  simp only [Bool.and_eq_true] at e
  obtain ⟨e1, e3, e4, e5⟩ := e
  intro u hu
  rw [show fld h1 14 2 = fld h 14 2 from R.vz (A := 14) (by decide) e1] at hu
  have b := zLb_14 C
  obtain ⟨g1, g2, ⟨g3, N, g4⟩, g5, g6⟩ := zS_g C hu
  obtain ⟨p0, N2, p1, p2, p3⟩ := P u hu
  refine zS1.st ⟨p0, N2, p1, p2, p3⟩ (R.v C (A := 14) (by decide) e1 hu) (fun j => zS_fin R g1 g2 rfl) R.1 (R.du e3 g5 g6 (by decide)) (fun _ => R.du e3 g3 g4 (by decide)) (fun d hd => R.rw e4 (by decide) (by decide) (by omega) (by omega)) (R.rw e5 (by decide) (by decide) (by omega) (by omega)) (fun w v hv z => ?_)
  rcases D.cs C (by decide) hv with ⟨k1, k2⟩ | ⟨k1, k2⟩
  · have G := zV_g C k1
    rw [k2, zS_fin R G.1 G.2.1 rfl] at z
    exact p3 w v k1 z
  · rw [k2, eq] at z
    obtain ⟨d, hd, hM⟩ := w
    rcases p2 d hd with ⟨y1, y2⟩ | ⟨B, l, y1, y2, y3, y4, y5, y6⟩
    · exact hM y1
    · have w1 := R.1 _ _ p1.1
      rw [← z, sq] at w1
      have w2 : 157 = N2 := congrArg Prod.snd (Option.some.inj w1)
      have w3 : fld h1 (zWo h u) (B + l) = -21 := (congrFun (R.du e3 g3 g4 (by decide)) (B + l)).trans y5
      rw [← z, cq _ (by omega)] at w3
      omega
/-! a sheet made -/
def zSo (T : Bool × pQ × (Nat → Int)) (h g : Hp) (A a : Int) : Prop := fld g A 0 = a ∧ sh g (fld g A 1) = some (20, T.2.1.2.1) ∧ sh h (fld g A 1) = none ∧ (∀ i : Nat, i < T.2.1.2.1 → fld g (fld g A 1) i = T.2.1.2.2 i) ∧ (∀ d : Nat, d < 5 → fld g (fld g A 2) d = T.2.2 d) ∧ T.2.1.2.1 ≤ 400
theorem zSo.mk {a r : Int} (X : fld h4 11 = T.2.1.2.2 ∧ fld h4 9 6 = ((T.2.1.2.1 : Nat) : Int) ∧ rGb T.2.2 h4) (S : zSc h4 h5 a r) (G : gS h5 r) (D : zAdded h5 14 r g) (C5 : CI h5) (e : fld h5 14 2 = m) (ha : a = m) (R : ∀ q p, sh h q = some p → sh h4 q = some p) (hb : fld h4 9 6 ≤ 400) : zSo T h g (zv g 14 m.toNat) m := by
  obtain ⟨x1, x2, x3⟩ := X
  obtain ⟨v, w, s1, s2, s3, s4, ⟨n, s5, s6⟩, s7, s8, s9⟩ := S
  have er : zv g 14 m.toNat = r := by rw [← e]; exact D.2.2.2.2.1
  have fr : fld g r = fld h5 r := zAdded.o C5 (by decide) D G.2.1 (by decide) G.1
  have fv : fld g v = fld h5 v := zAdded.o C5 (by decide) D s5 (by decide) s1
  have gw : 365 < w ∧ sh h5 w = some (20, 5) := by rw [← s4]; exact G.2.2.2
  have fw : fld g w = fld h5 w := zAdded.o C5 (by decide) D gw.2 (by decide) gw.1
  have en : n = T.2.1.2.1 := by omega
  subst en
  unfold zSo
  rw [er, fr, s2, s3, s4]
  refine ⟨ha, D.2.1.1 _ _ s5, ?_, fun i hi => ?_, fun d hd => ?_, by omega⟩
  · cases z : sh h v with
    | none => rfl
    | some p => exact absurd (R _ _ z) (by rw [s9]; exact fun z => by cases z)
  · rw [fv, s7 i (by omega), x1]
  · rw [fw, s8 d hd]
    exact x3 d hd
theorem zSo.kp {A a : Int} (S : zSo T h g A a) (G : gS g A) (R : zXR ms c s g h1) (e : zun ms (1000 + 20) = true) : zSo T h h1 A a := by
  obtain ⟨s1, s2, s3, s4, s5, s6⟩ := S
  obtain ⟨g1, g2, ⟨g3, N, g4⟩, g5, g6⟩ := G
  have f : ∀ j, fld h1 A j = fld g A j := fun j => zS_fin R g1 g2 rfl
  unfold zSo
  rw [f, f, f]
  refine ⟨s1, R.1 _ _ s2, s3, fun i hi => ?_, fun d hd => ?_, s6⟩
  · rw [R.du e g3 g4 (by decide)]
    exact s4 i hi
  · rw [R.du e g5 g6 (by decide)]
    exact s5 d hd
def zXs (T : Bool × pQ × (Nat → Int)) (p : Int) (h g : Hp) : Prop := (∀ i : Nat, (i : Int) < fld h 14 2 → zv g 14 i = zv h 14 i) ∧ ((p = -1 ∧ fld h 14 2 < 8 ∧ fld g 14 2 = fld h 14 2 + 1 ∧ zSo T h g (zv g 14 (fld h 14 2).toNat) (fld h 14 2)) ∨ ((p ≠ -1 ∨ 8 ≤ fld h 14 2) ∧ fld g 14 2 = fld h 14 2))
/-! the model's copy -/
def mJo (h g : Hp) (s : Int) : Prop := (∀ r : Int, 101 ≤ r → r ≤ 148 → (r < 101 + 6 * s ∨ 106 + 6 * s ≤ r) → fld g r = fld h r) ∧ ∀ r : Int, 155 ≤ r → r ≤ 162 → r ≠ 155 + s → fld g r = fld h r
def mJc (h : Hp) (s c : Int) : Prop := ∀ d : Nat, (d : Int) < c → fld h (155 + s) d = fld h 163 d ∧ ∀ i : Nat, (i : Int) < 2 * fld h 163 d → fld h (101 + 6 * s + (d : Int)) i = fld h (149 + (d : Int)) i
def mJi (h : Hp) (s c i : Int) : Prop := fld h (155 + s) c.toNat = fld h 163 c.toNat ∧ ∀ j : Nat, (j : Int) < i → fld h (101 + 6 * s + c) j = fld h (149 + c) j
def zMr (s : Int) (T : Bool × pQ × (Nat → Int)) (g : Hp) : Prop := zSr T.2.1.2.2 T.2.2 T.2.1.2.1 (fun d => fld g (101 + 6 * s + (d : Int))) (fld g (155 + s))
theorem mE.gd {t : pT} {n : Nat} {cc : Nat → Int} (E : mE t n g (pRead t n cc)) (p : pFa t n cc = -1) : mG (pRead t n cc).2.2 (pRead t n cc).2.1 g := by
  rcases E with ⟨e1, e2, e3⟩ | ⟨e1, e2⟩
  · exact e3
  · rw [pFa_f e1] at p
    omega
theorem mG.eq {b : Nat → Int} {q : pQ} (G : mG b q h) (e1 : ∀ r : Int, 149 ≤ r → r ≤ 153 → fld g r = fld h r) (e2 : fld g 163 = fld h 163) : mG b q g := by
  intro d hd
  rw [e2, e1 _ (by omega) (by omega)]
  exact G d hd
theorem fld_o {r q : Int} (e : g = wr h r j x) (hq : q ≠ r) : fld g q = fld h q := by
  funext i
  rw [e]
  exact fld_wr (Or.inl hq)
theorem mJo.rf : mJo h h s := ⟨fun _ _ _ _ => rfl, fun _ _ _ _ => rfl⟩
theorem mJo.w {r : Int} (J : mJo h h1 s) (e : g = wr h1 r j x) (hr : r = 37 ∨ r = 155 + s ∨ (101 + 6 * s ≤ r ∧ r < 106 + 6 * s)) (hs : 0 ≤ s ∧ s < 8) : mJo h g s := ⟨fun q k1 k2 k3 => (fld_o e (by omega)).trans (J.1 q k1 k2 k3), fun q k1 k2 k3 => (fld_o e (by omega)).trans (J.2 q k1 k2 k3)⟩
theorem mJo.fr (J : mJo h h1 s) (R : zMR ms h1 g) (e : (zuw ms 101 148 && zuw ms 155 162) = true) : mJo h g s := by
  rw [Bool.and_eq_true] at e
  have f : ∀ (a b : Nat), zuw ms a b = true → ∀ r : Int, (a : Int) ≤ r → r ≤ (b : Int) → fld g r = fld h1 r := fun a b e r k1 k2 => funext fun j => R.2.2.2 _ j (fun f hf hz => by
    have w := List.all_eq_true.mp e f hf
    rw [Bool.or_eq_true] at w
    rcases w with w | w
    · have := Nat.le_of_ble_eq_true w
      omega
    · have := Nat.le_of_ble_eq_true w
      omega)
  exact ⟨fun q k1 k2 k3 => (f 101 148 e.1 q k1 k2).trans (J.1 q k1 k2 k3), fun q k1 k2 k3 => (f 155 162 e.2 q k1 k2).trans (J.2 q k1 k2 k3)⟩
theorem mJo.all (R : zMR ms h g) (e : (zuw ms 101 148 && zuw ms 155 162) = true) : (∀ r : Int, 101 ≤ r → r ≤ 148 → fld g r = fld h r) ∧ ∀ r : Int, 155 ≤ r → r ≤ 162 → fld g r = fld h r := by
  have J1 : mJo h g (-100) := mJo.rf.fr R e
  exact ⟨fun r k1 k2 => J1.1 r k1 k2 (by omega), fun r k1 k2 => J1.2 r k1 k2 (by omega)⟩
theorem mJc.w {r : Int} (J : mJc h s c) (e : g = wr h r j x) (hr : r = 37 ∨ (r = 155 + s ∧ (j : Int) = c) ∨ r = 101 + 6 * s + c) (hs : 0 ≤ s ∧ s < 8) (hc : 0 ≤ c ∧ c < 5) : mJc g s c := by
  intro d hd
  obtain ⟨j1, j2⟩ := J d hd
  have f3 : fld g 163 = fld h 163 := fld_o e (by omega)
  have f4 : fld g (149 + (d : Int)) = fld h (149 + (d : Int)) := fld_o e (by omega)
  have f5 : fld g (101 + 6 * s + (d : Int)) = fld h (101 + 6 * s + (d : Int)) := fld_o e (by omega)
  rw [f3, f4, f5]
  refine ⟨?_, j2⟩
  rw [← j1, e]
  exact fld_wr (by omega)
theorem mJc.w5 (J : mJc h s 5) (e : g = wr h 37 j x) (hs : 0 ≤ s ∧ s < 8) : mJc g s 5 := by
  intro d hd
  obtain ⟨j1, j2⟩ := J d hd
  have f3 : fld g 163 = fld h 163 := fld_o e (by omega)
  have f4 : fld g (149 + (d : Int)) = fld h (149 + (d : Int)) := fld_o e (by omega)
  have f5 : fld g (101 + 6 * s + (d : Int)) = fld h (101 + 6 * s + (d : Int)) := fld_o e (by omega)
  have f6 : fld g (155 + s) = fld h (155 + s) := fld_o e (by omega)
  rw [f3, f4, f5, f6]
  exact ⟨j1, j2⟩
theorem mJi.z {r : Int} (I : zI h) (e : g = wr h r c.toNat x) (hr : r = 155 + s) (hx : x = fld h 163 c.toNat) (hs : 0 ≤ s ∧ s < 8) (hc : 0 ≤ c ∧ c < 5) : mJi g s c 0 := by
  subst hr
  refine ⟨?_, fun j hj => by omega⟩
  have f3 : fld g 163 = fld h 163 := fld_o e (by omega)
  rw [f3, e, fld_wr_eq (I.s (a1 := 155) (a2 := 163) (k := 20) (n := 5) (by decide +kernel) (by omega) (by omega)) (by omega)]
  exact hx
theorem mJi.w {r i : Int} (I : zI h) (J : mJi h s c i) (e : g = wr h r i.toNat x) (hr : r = 101 + 6 * s + c) (hx : x = fld h (149 + c) i.toNat) (hs : 0 ≤ s ∧ s < 8) (hc : 0 ≤ c ∧ c < 5) (hi : 0 ≤ i ∧ i < 840) : mJi g s c (i + 1) := by
  subst hr
  obtain ⟨j1, j2⟩ := J
  have f3 : fld g 163 = fld h 163 := fld_o e (by omega)
  have f4 : fld g (149 + c) = fld h (149 + c) := fld_o e (by omega)
  have f5 : fld g (155 + s) = fld h (155 + s) := fld_o e (by omega)
  unfold mJi
  rw [f3, f4, f5]
  refine ⟨j1, fun j hj => ?_⟩
  by_cases z : j = i.toNat
  · obtain ⟨-, -, k3⟩ := I.c2 (s := s) (c := c) (by omega) (by omega)
    rw [z, e, fld_wr_eq k3 (by omega)]
    exact hx
  · rw [e, fld_wr (Or.inr z)]
    exact j2 j (by omega)
theorem mJc.e {i : Int} (J : mJc h s c) (K : mJi h s c i) (hc : 0 ≤ c ∧ c < 5) (hi : 2 * fld h 163 c.toNat ≤ i) : mJc h s (c + 1) := by
  intro d hd
  by_cases z : (d : Int) < c
  · exact J d z
  · have e : (d : Int) = c := by omega
    have e2 : c.toNat = d := by omega
    obtain ⟨k1, k2⟩ := K
    rw [e2] at k1 hi
    rw [← e] at k2
    exact ⟨k1, fun i hi2 => k2 i (by omega)⟩
theorem zMr.mk (J : mJc h s 5) (G : mG T.2.2 T.2.1 h) : zMr s T h := by
  intro d hd
  obtain ⟨j1, j2⟩ := J d (by omega)
  rcases G d hd with ⟨g1, g2⟩ | ⟨B, L, g1, g2, g3, g4, g5, g6⟩
  · exact Or.inl ⟨g1, j1.trans g2⟩
  · refine Or.inr ⟨B, L, g1, j1.trans g2, g3, g4, g5, fun k hk => ?_⟩
    have w := g6 k hk
    have y1 : fld h (101 + 6 * s + (d : Int)) (2 * k) = fld h (149 + (d : Int)) (2 * k) := j2 _ (by rw [g2]; omega)
    have y2 : fld h (101 + 6 * s + (d : Int)) (2 * k + 1) = fld h (149 + (d : Int)) (2 * k + 1) := j2 _ (by rw [g2]; omega)
    show mCd (fld h (101 + 6 * s + (d : Int))) k _
    unfold mCd at w ⊢
    rw [y1, y2]
    exact w
def zMs (T : Bool × pQ × (Nat → Int)) (p : Int) (h g : Hp) : Prop := (p = -1 ∧ fld h 37 52 < 8 ∧ mJo h g (fld h 37 52) ∧ zMr (fld h 37 52) T g) ∨ ((p ≠ -1 ∨ 8 ≤ fld h 37 52) ∧ (∀ r : Int, 101 ≤ r → r ≤ 148 → fld g r = fld h r) ∧ ∀ r : Int, 155 ≤ r → r ≤ 162 → fld g r = fld h r)
/-- both calls -/
theorem zShe.sheet {p : Int} (P : zShe h) (C : CI h) (C1 : CI h1) (Q : zXR ms c s h h1) (Z : zXR ms' c' s' h1 g) (e : (zun ms 2 && (zun ms (1000 + 20) && (zuw ms 101 148 && zuw ms 155 162))) = true) (e' : (zun ms' 14 && (zun ms' 2 && zun ms' (1000 + 20))) = true) (hn : fld h 14 2 = fld h 37 52) (hm : fld h1 37 52 = fld h 37 52) (X : zXs T p h h1) (M : zMs T p h1 g) : zShe g := by
  simp only [Bool.and_eq_true] at e e'
  obtain ⟨e2, e3, e4, e5⟩ := e
  obtain ⟨d1, d2, d3⟩ := e'
  have b := zLb_14 C
  obtain ⟨x0, x⟩ := X
  intro u hu
  rw [show fld g 14 2 = fld h1 14 2 from Z.vz (A := 14) (by decide) d1] at hu
  have old : (u : Int) < fld h 14 2 → zS1 h1 u := fun k => (P u k).kp C k Q (x0 u k) e2 e3 (fun d hd => Q.rw e4 (by decide) (by decide) (by omega) (by omega)) (Q.rw e5 (by decide) (by decide) (by omega) (by omega))
  rcases M with ⟨m1, m2, m3, m4⟩ | ⟨m1, m2, m3⟩
  · rcases x with ⟨y1, y2, y3, y4⟩ | ⟨y1, y2⟩
    · by_cases k : (u : Int) < fld h 14 2
      · exact (old k).kp C1 hu Z (Z.v C1 (A := 14) (by decide) d1 hu) d2 d3 (fun d hd => m3.1 _ (by omega) (by omega) (by omega)) (m3.2 _ (by omega) (by omega) (by omega))
      · have eu : (u : Int) = fld h 14 2 := by omega
        have eu2 : (fld h 14 2).toNat = u := by omega
        rw [eu2, ← eu] at y4
        rw [show fld h1 37 52 = (u : Int) by omega] at m4
        have G := zS_g C1 hu
        have S := y4.kp G Z d3
        obtain ⟨s1, s2, s3, s4, s5, s6⟩ := S
        have eA : zv g 14 u = zv h1 14 u := Z.v C1 (A := 14) (by decide) d1 hu
        unfold zS1 zHa zWo zMa
        rw [eA]
        refine ⟨s1, _, ⟨s2, s6⟩, m4.cg s5 (fun _ _ => rfl) (fun _ _ => rfl) (fun _ i hi => s4 i hi), fun _ v hv z => ?_⟩
        obtain ⟨k1, k2⟩ := zV_16 C1 Z d2 hv
        obtain ⟨k3, k4⟩ := zV_16 C Q e2 k1
        rw [k2, k4] at z
        have w := (zV_g C k3).2.2.2
        rw [z, s3] at w
        cases w
    · exfalso
      omega
  · have hq : (u : Int) < fld h 14 2 := by
      rcases x with ⟨y1, y2, y3, y4⟩ | ⟨y1, y2⟩
      · exfalso
        omega
      · omega
    exact (old hq).kp C1 hu Z (Z.v C1 (A := 14) (by decide) d1 hu) d2 d3 (fun d hd => m2 _ (by omega) (by omega)) (m3 _ (by omega) (by omega))
/-! what is in force -/
def zFo (h : Hp) : Prop := ∀ k : Nat, (k : Int) < fld h 13 1 → (0 ≤ fld h 164 k ∧ fld h 164 k < fld h 14 2) ∧ fld h 15 k = zv h 14 (fld h 164 k).toNat ∧ fld h 16 k = fld h 165 k ∧ 0 ≤ fld h 165 k
theorem zFo.st (P : zFo h) (en : fld g 13 1 = fld h 13 1) (e1 : fld g 15 = fld h 15) (e2 : fld g 16 = fld h 16) (e3 : fld g 164 = fld h 164) (e4 : fld g 165 = fld h 165) (eN : fld h 14 2 ≤ fld g 14 2) (ev : ∀ i : Nat, (i : Int) < fld h 14 2 → zv g 14 i = zv h 14 i) : zFo g := by
  intro k hk
  rw [en] at hk
  obtain ⟨⟨p0, p1⟩, p2, p3, p4⟩ := P k hk
  rw [e1, e2, e3, e4]
  exact ⟨⟨p0, by omega⟩, by rw [ev _ (by omega)]; exact p2, p3, p4⟩
def zkFo (ms : Zms) : Bool := zun ms 14 && (zun ms 15 && (zun ms 16 && (zun ms 164 && (zun ms 165 && zqN ms 13 13 1 2))))
theorem zFo.kp (P : zFo h) (C : CI h) (R : zXR ms c s h g) (e : zkFo ms = true) : zFo g := by
  unfold zkFo at e
  simp only [Bool.and_eq_true] at e
  obtain ⟨e1, e2, e3, e4, e5, e6⟩ := e
  exact P.st (R.f e6 (by first | decide | exact ⟨by decide, by decide⟩) (by first | decide | exact ⟨by decide, by decide⟩) (by first | decide | exact ⟨by decide, by decide⟩)) (R.fa (a := 15) e2 (by decide)) (R.fa (a := 16) e3 (by decide)) (R.fa (a := 164) e4 (by decide)) (R.fa (a := 165) e5 (by decide)) (by have w : fld g 14 2 = fld h 14 2 := R.vz (A := 14) (by decide) e1; omega) (fun i hi => R.v C (A := 14) (by decide) e1 hi)
theorem zFo.sheet {p : Int} (P : zFo h) (C1 : CI h1) (Q : zXR ms c s h h1) (Z : zXR ms' c' s' h1 g) (e : (zun ms 15 && (zun ms 16 && (zun ms 164 && (zun ms 165 && zqN ms 13 13 1 2)))) = true) (e' : zkFo ms' = true) (X : zXs T p h h1) : zFo g := by
  simp only [Bool.and_eq_true] at e
  obtain ⟨e2, e3, e4, e5, e6⟩ := e
  refine zFo.kp (P.st (Q.f e6 (by first | decide | exact ⟨by decide, by decide⟩) (by first | decide | exact ⟨by decide, by decide⟩) (by first | decide | exact ⟨by decide, by decide⟩)) (Q.fa (a := 15) e2 (by decide)) (Q.fa (a := 16) e3 (by decide)) (Q.fa (a := 164) e4 (by decide)) (Q.fa (a := 165) e5 (by decide)) ?_ X.1) C1 Z e'
  rcases X.2 with ⟨y1, y2, y3, y4⟩ | ⟨y1, y2⟩ <;> omega
theorem zFo.force {a b : Int} (P : zFo h) (C : CI h) (C1 : CI h1) (Q : zXR ms c s h h1) (Z : zXR ms' c' s' h1 g) (e : (zun ms 14 && (zun ms 164 && zun ms 165)) = true) (e' : (zun ms' 14 && (zun ms' 15 && (zun ms' 16 && zqN ms' 13 13 1 2))) = true) (hn : fld h 13 1 = fld h1 37 53) (b0 : 0 ≤ fld h 13 1) (ha : 0 ≤ a ∧ a < fld h 14 2) (hb : 0 ≤ b) (x1 : fld h1 13 1 = fld h 13 1 + 1) (x2 : fld h1 15 = zu (fld h 15) (fld h 13 1).toNat (zv h 14 a.toNat)) (x3 : fld h1 16 = zu (fld h 16) (fld h 13 1).toNat b) (m1 : fld g 164 = zu (fld h1 164) (fld h1 37 53).toNat a) (m2 : fld g 165 = zu (fld h1 165) (fld h1 37 53).toNat b) : zFo g := by
  simp only [Bool.and_eq_true] at e e'
  obtain ⟨q1, q2, q3⟩ := e
  obtain ⟨z1, z2, z3, z4⟩ := e'
  intro k hk
  rw [Z.f z4 (r := 13) (by first | decide | exact ⟨by decide, by decide⟩) (by first | decide | exact ⟨by decide, by decide⟩) (by first | decide | exact ⟨by decide, by decide⟩), x1] at hk
  have f1 : fld g 15 = fld h1 15 := Z.fa (a := 15) z2 (by decide)
  have f2 : fld g 16 = fld h1 16 := Z.fa (a := 16) z3 (by decide)
  have f3 : fld h1 164 = fld h 164 := Q.fa (a := 164) q2 (by decide)
  have f4 : fld h1 165 = fld h 165 := Q.fa (a := 165) q3 (by decide)
  have f5 : fld h1 14 2 = fld h 14 2 := Q.vz (A := 14) (by decide) q1
  have f6 : fld g 14 2 = fld h1 14 2 := Z.vz (A := 14) (by decide) z1
  have fv : ∀ i : Nat, (i : Int) < fld h 14 2 → zv g 14 i = zv h 14 i := fun i hi => (Z.v C1 (A := 14) (by decide) z1 (show (i : Int) < fld h1 14 2 by omega)).trans (Q.v C (A := 14) (by decide) q1 hi)
  rw [f1, f2, x2, x3, m1, m2, f3, f4, ← hn]
  by_cases w : k = (fld h 13 1).toNat
  · rw [w, zu_eq, zu_eq, zu_eq, zu_eq]
    exact ⟨⟨ha.1, by omega⟩, (fv _ (by omega)).symm, rfl, hb⟩
  · obtain ⟨⟨p0, p1⟩, p2, p3, p4⟩ := P k (by omega)
    rw [zu_ne w, zu_ne w, zu_ne w, zu_ne w]
    exact ⟨⟨p0, by omega⟩, by rw [fv _ (by omega)]; exact p2, p3, p4⟩
/-! why -/
def zFrn (h : Hp) (a : Int) : Prop := zFrc h a ∧ ∀ k : Nat, (k : Int) < fld h 13 1 → fld h (fld h 15 k) 0 = fld h 164 k
theorem zFrn_of {a : Int} (C : CI h) (P : zShe h) (F : zFo h) (ha : 0 ≤ a ∧ a ≤ 4) : zFrn h a := by
  refine ⟨fun k hk => ?_, fun k hk => ?_⟩
  · obtain ⟨⟨p0, p1⟩, p2, p3, p4⟩ := F k hk
    have hs : (((fld h 164 k).toNat : Nat) : Int) = fld h 164 k := by omega
    have G := zS_g C (s := (fld h 164 k).toNat) (by omega)
    obtain ⟨-, N, -, w, -⟩ := P (fld h 164 k).toNat (by omega)
    rw [p2]
    refine ⟨G.1, p3, p4, ?_⟩
    have w := w a.toNat (by omega)
    rw [hs] at w
    unfold zMa at w
    rcases w with ⟨w1, w2⟩ | ⟨B, l, w1, w2, w3, -⟩ <;> omega
  · obtain ⟨⟨p0, p1⟩, p2, -, -⟩ := F k hk
    rw [p2]
    have w := (P (fld h 164 k).toNat (by omega)).1
    omega
def zWhy (h : Hp) (a b : Int) : Int := if (0 ≤ a ∧ a ≤ 4) ∧ 0 ≤ b ∧ b ≤ 155 then pWhy (fld h 164) (fld h 165) (fun s => fld h (155 + s) a.toNat) b (fld h 13 1).toNat else -1
theorem zWhy_o {a b : Int} (q : ¬ ((0 ≤ a ∧ a ≤ 4) ∧ 0 ≤ b ∧ b ≤ 155)) : -1 = zWhy h a b := (if_neg q).symm
theorem zWhy_n {a b : Int} (q : (0 ≤ a ∧ a ≤ 4) ∧ 0 ≤ b ∧ b ≤ 155) (z : zBw h a b (fld h 13 1).toNat = -1) : -1 = zWhy h a b := by
  unfold zWhy
  rw [if_pos q]
  exact pWhy_n rfl z
theorem zWhy_y {a b r v : Int} (q : (0 ≤ a ∧ a ≤ 4) ∧ 0 ≤ b ∧ b ≤ 155) (F : zFrn h a) (z : 0 ≤ zBw h a b (fld h 13 1).toNat ∧ r = fld h 15 (zBw h a b (fld h 13 1).toNat).toNat) (e : v = fld h r 0) : v = zWhy h a b := by
  unfold zWhy
  rw [if_pos q]
  have b0 := pBw_b (fs := fld h 164) (ff := fld h 165) (Lc := fun s => fld h (155 + s) a.toNat) (w := b) (fld h 13 1).toNat
  have b1 : zBw h a b (fld h 13 1).toNat < ((fld h 13 1).toNat : Nat) := b0.2
  have w := F.2 (zBw h a b (fld h 13 1).toNat).toNat (by omega)
  have p := pWhy_y (fs := fld h 164) (ff := fld h 165) (Lc := fun s => fld h (155 + s) a.toNat) (w := b) (n := (fld h 13 1).toNat) (z := zBw h a b (fld h 13 1).toNat) rfl (by omega)
  rw [← p, e, z.2, w]
theorem zWhy_m {a b v : Int} (q : (0 ≤ a ∧ a ≤ 4) ∧ 0 ≤ b ∧ b ≤ 155) (e : v = pWhy (fld h 164) (fld h 165) (fun s => fld h (155 + s) a.toNat) b (fld h 37 53).toNat) (hn : fld h 13 1 = fld h 37 53) : v = zWhy h a b := by
  unfold zWhy
  rw [if_pos q, hn]
  exact e
end SH
end
