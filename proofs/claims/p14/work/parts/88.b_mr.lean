/-! contracts of methods -/
-- WheelLandModel.skips()V
theorem m200_pl {sc : List Int} (h : Hp) (I : zI h) (t : pT) (n p : Nat) (B : vB t n h) (pp : fld h 37 42 = (p : Int)) (p3 : fld h 37 43 = (p : Int)) (pl : p < n) (LT : pLet (t p) = true) : zwW sc 1 200 87 [(2, 37)] [] h (zwRv (fun g => zI g ∧ zMR msS2 h g ∧ mTk t n g p)) := by
  have R : zMR msS2 h h := zMR.rf _ _
  have B1 := B.1
  have B2 := B.2.1
  have L1 : ∀ (n0 : Nat) (hL1 : Hp), n0 = (fld hL1 37 41 - fld hL1 37 43).toNat → (vB t n hL1) → (fld hL1 37 42 = p ∧ p ≤ fld hL1 37 43 ∧ fld hL1 37 43 ≤ n) → (pRun pLet t n (fld hL1 37 43).toNat = pRun pLet t n p) → zI hL1 → zMR msS2 h hL1 → zwW sc (1) 200 87 [(2, 37)] [] hL1 (zwRv (fun g => zI g ∧ zMR msS2 h g ∧ mTk t n g p)) := by
    intro n0
    induction n0 using Nat.strongRecOn with
    | ind n0 IHL1 =>
      intro hL1 hnL1 iL1_0 iL1_1 iL1_2 IhL1 RhL1
      have BL := iL1_0.1
      refine zwW_p [(1, 0, 2)] (q := 88) (ls' := [(2, 37)]) (st' := [(2, 37)]) (by decide +kernel) rfl ?_
      refine zwW_gs IhL1 (kd := 13) (bn := 43) (n := 97) (t := 0) (lo := 0) (hi := 400) (nx := 91) (by decide +kernel) ?_
      intro v2 ev2 lv2 uv2
      refine zwW_p [(1, 0, 2)] (q := 92) (ls' := [(2, 37)]) (st' := [(2, 37), (0, v2)]) (by decide +kernel) rfl ?_
      refine zwW_gs IhL1 (kd := 13) (bn := 41) (n := 97) (t := 0) (lo := 0) (hi := 400) (nx := 95) (by decide +kernel) ?_
      intro v3 ev3 lv3 uv3
      refine zwic_ge (q := 190) (nx := 98) (by decide +kernel) (fun c4 => ?_) (fun c4 => ?_)
      · have TK : mTk t n hL1 p := mTk_w (by omega) (by omega) LT (by rw [← iL1_2, pRun_e (fun z => by first | omega | (have w := pLet_t.mp z.2; omega))]; omega)
        refine zwW_retv (nx := 191) (a := 0) (b := 0) (by decide +kernel) ?_
        exact ⟨IhL1, RhL1, by exact TK⟩
      · refine zwW_p [(1, 0, 2)] (q := 99) (ls' := [(2, 37)]) (st' := [(2, 37)]) (by decide +kernel) rfl ?_
        refine zwW_gc IhL1 (kd := 13) (bn := 40) (n := 97) (c := 98) (nx := 102) (by decide +kernel) ?_
        refine zwW_p [(1, 0, 2)] (q := 103) (ls' := [(2, 37)]) (st' := [(2, 37), (2, 98)]) (by decide +kernel) rfl ?_
        refine zwW_gs IhL1 (kd := 13) (bn := 43) (n := 97) (t := 0) (lo := 0) (hi := 400) (nx := 106) (by decide +kernel) ?_
        intro v5 ev5 lv5 uv5
        refine zwW_al IhL1 (a1 := 98) (a2 := 98) (kd := 21) (n := 400) (t := 0) (lo := -128) (hi := 127) (nx := 107) (by decide +kernel) ⟨by decide, by decide⟩ ⟨by omega, by omega⟩ ?_
        intro v6 ev6 lv6 uv6
        have E107 : v6 = t ((fld hL1 37 43).toNat) := by rw [ev6]; refine Eq.trans ?_ (iL1_0.2.2 ((fld hL1 37 43).toNat) (by omega)); first | rfl | (congr 1; omega)
        refine zwW_cs (k' := 244) (n := 1) (nx := 110) (as := [(0, v6)]) (st' := []) (by decide +kernel) rfl (m244 hL1 v6) rfl ?_
        rintro x _ ⟨rfl, ⟨rfl, c7⟩ | ⟨rfl, c7⟩⟩
        · refine zwif_eq (q := 190) (nx := 113) (by decide +kernel) (fun c8 => ?_) (fun c8 => ?_)
          · exfalso; omega
          · refine zwW_p [(1, 0, 2), (12, 0, 0)] (q := 115) (ls' := [(2, 37)]) (st' := [(2, 37), (2, 37)]) (by decide +kernel) rfl ?_
            refine zwW_gs IhL1 (kd := 13) (bn := 43) (n := 97) (t := 0) (lo := 0) (hi := 400) (nx := 118) (by decide +kernel) ?_
            intro v9 ev9 lv9 uv9
            refine zwW_p [(0, 1, 0)] (q := 119) (ls' := [(2, 37)]) (st' := [(0, 1), (0, v9), (2, 37)]) (by decide +kernel) rfl ?_
            refine zwW_add (nx := 120) (by decide +kernel) ⟨by omega, by omega⟩ ?_
            refine zwW_ps IhL1 (kd := 13) (bn := 43) (n := 97) (lo := 0) (hi := 400) (nx := 123) (by decide +kernel) ⟨by omega, by omega⟩ ?_
            intro h10 eh10 Ih10
            have th10_37_41 : fld h10 37 41 = fld hL1 37 41 := by rw [eh10]; exact fld_wr (by decide)
            have th10_37_42 : fld h10 37 42 = fld hL1 37 42 := by rw [eh10]; exact fld_wr (by decide)
            have th10_37_43 : fld h10 37 43 = (v9 + 1) := by rw [eh10]; exact fld_wr_eq (IhL1.s (a1 := 37) (a2 := 37) (k := 13) (n := 97) (by decide +kernel) (by decide) (by decide)) (by decide)
            have Bh10 : vB t n h10 := iL1_0.fr (zMR.one (a1 := 37) (a2 := 37) (j1 := 43) (j2 := 44) ⟨by decide, by decide⟩ ⟨by decide, by decide⟩ eh10) (by decide +kernel)
            have Rh10 : zMR msS2 h h10 := RhL1.w (a1 := 37) (a2 := 37) (j1 := 43) (j2 := 44) (by decide +kernel) ⟨by decide, by decide⟩ ⟨by decide, by decide⟩ eh10
            have PR87 : pRun pLet t n (fld h10 37 43).toNat = pRun pLet t n p := by rw [← iL1_2, show (fld h10 37 43).toNat = (fld hL1 37 43).toNat + 1 by omega]; exact (pRun_s (by omega) (pLet_t.mpr (by omega))).symm
            refine zwW_p [(24, 87, 0)] (q := 87) (ls' := [(2, 37)]) (st' := []) (by decide +kernel) rfl ?_
            exact IHL1 (fld h10 37 41 - fld h10 37 43).toNat (by omega) h10 rfl (Bh10) (by omega) (PR87) Ih10 Rh10
        · refine zwif_eq (q := 190) (nx := 113) (by decide +kernel) (fun c11 => ?_) (fun c11 => ?_)
          · have TK : mTk t n hL1 p := mTk_w (by omega) (by omega) LT (by rw [← iL1_2, pRun_e (fun z => by first | omega | (have w := pLet_t.mp z.2; omega))]; omega)
            refine zwW_retv (nx := 191) (a := 0) (b := 0) (by decide +kernel) ?_
            exact ⟨IhL1, RhL1, by exact TK⟩
          · exfalso; omega
  exact L1 _ h rfl (B) (by omega) (by rw [show (fld h 37 43).toNat = p by omega]) I R
-- WheelLandModel.skips()V
theorem m200_pd {sc : List Int} (h : Hp) (I : zI h) (t : pT) (n p : Nat) (B : vB t n h) (pp : fld h 37 42 = (p : Int)) (p3 : fld h 37 43 = (p : Int)) (pl : p < n) (NL : ¬ pLet (t p) = true) (DG : pDig (t p) = true) : zwW sc 1 200 141 [(2, 37)] [] h (zwRv (fun g => zI g ∧ zMR msS2 h g ∧ mTk t n g p)) := by
  have R : zMR msS2 h h := zMR.rf _ _
  have B1 := B.1
  have B2 := B.2.1
  have L1 : ∀ (n0 : Nat) (hL1 : Hp), n0 = (fld hL1 37 41 - fld hL1 37 43).toNat → (vB t n hL1) → (fld hL1 37 42 = p ∧ p ≤ fld hL1 37 43 ∧ fld hL1 37 43 ≤ n) → (pRun pDig t n (fld hL1 37 43).toNat = pRun pDig t n p) → zI hL1 → zMR msS2 h hL1 → zwW sc (1) 200 141 [(2, 37)] [] hL1 (zwRv (fun g => zI g ∧ zMR msS2 h g ∧ mTk t n g p)) := by
    intro n0
    induction n0 using Nat.strongRecOn with
    | ind n0 IHL1 =>
      intro hL1 hnL1 iL1_0 iL1_1 iL1_2 IhL1 RhL1
      have BL := iL1_0.1
      refine zwW_p [(1, 0, 2)] (q := 142) (ls' := [(2, 37)]) (st' := [(2, 37)]) (by decide +kernel) rfl ?_
      refine zwW_gs IhL1 (kd := 13) (bn := 43) (n := 97) (t := 0) (lo := 0) (hi := 400) (nx := 145) (by decide +kernel) ?_
      intro v2 ev2 lv2 uv2
      refine zwW_p [(1, 0, 2)] (q := 146) (ls' := [(2, 37)]) (st' := [(2, 37), (0, v2)]) (by decide +kernel) rfl ?_
      refine zwW_gs IhL1 (kd := 13) (bn := 41) (n := 97) (t := 0) (lo := 0) (hi := 400) (nx := 149) (by decide +kernel) ?_
      intro v3 ev3 lv3 uv3
      refine zwic_ge (q := 190) (nx := 152) (by decide +kernel) (fun c4 => ?_) (fun c4 => ?_)
      · have TK : mTk t n hL1 p := mTk_d (by omega) (by omega) NL DG (by rw [← iL1_2, pRun_e (fun z => by first | omega | (have w := pDig_t.mp z.2; omega))]; omega)
        refine zwW_retv (nx := 191) (a := 0) (b := 0) (by decide +kernel) ?_
        exact ⟨IhL1, RhL1, by exact TK⟩
      · refine zwW_p [(1, 0, 2)] (q := 153) (ls' := [(2, 37)]) (st' := [(2, 37)]) (by decide +kernel) rfl ?_
        refine zwW_gc IhL1 (kd := 13) (bn := 40) (n := 97) (c := 98) (nx := 156) (by decide +kernel) ?_
        refine zwW_p [(1, 0, 2)] (q := 157) (ls' := [(2, 37)]) (st' := [(2, 37), (2, 98)]) (by decide +kernel) rfl ?_
        refine zwW_gs IhL1 (kd := 13) (bn := 43) (n := 97) (t := 0) (lo := 0) (hi := 400) (nx := 160) (by decide +kernel) ?_
        intro v5 ev5 lv5 uv5
        refine zwW_al IhL1 (a1 := 98) (a2 := 98) (kd := 21) (n := 400) (t := 0) (lo := -128) (hi := 127) (nx := 161) (by decide +kernel) ⟨by decide, by decide⟩ ⟨by omega, by omega⟩ ?_
        intro v6 ev6 lv6 uv6
        have E161 : v6 = t ((fld hL1 37 43).toNat) := by rw [ev6]; refine Eq.trans ?_ (iL1_0.2.2 ((fld hL1 37 43).toNat) (by omega)); first | rfl | (congr 1; omega)
        refine zwW_cs (k' := 245) (n := 1) (nx := 164) (as := [(0, v6)]) (st' := []) (by decide +kernel) rfl (m245 hL1 v6) rfl ?_
        rintro x _ ⟨rfl, ⟨rfl, c7⟩ | ⟨rfl, c7⟩⟩
        · refine zwif_eq (q := 190) (nx := 167) (by decide +kernel) (fun c8 => ?_) (fun c8 => ?_)
          · exfalso; omega
          · refine zwW_p [(1, 0, 2), (12, 0, 0)] (q := 169) (ls' := [(2, 37)]) (st' := [(2, 37), (2, 37)]) (by decide +kernel) rfl ?_
            refine zwW_gs IhL1 (kd := 13) (bn := 43) (n := 97) (t := 0) (lo := 0) (hi := 400) (nx := 172) (by decide +kernel) ?_
            intro v9 ev9 lv9 uv9
            refine zwW_p [(0, 1, 0)] (q := 173) (ls' := [(2, 37)]) (st' := [(0, 1), (0, v9), (2, 37)]) (by decide +kernel) rfl ?_
            refine zwW_add (nx := 174) (by decide +kernel) ⟨by omega, by omega⟩ ?_
            refine zwW_ps IhL1 (kd := 13) (bn := 43) (n := 97) (lo := 0) (hi := 400) (nx := 177) (by decide +kernel) ⟨by omega, by omega⟩ ?_
            intro h10 eh10 Ih10
            have th10_37_41 : fld h10 37 41 = fld hL1 37 41 := by rw [eh10]; exact fld_wr (by decide)
            have th10_37_42 : fld h10 37 42 = fld hL1 37 42 := by rw [eh10]; exact fld_wr (by decide)
            have th10_37_43 : fld h10 37 43 = (v9 + 1) := by rw [eh10]; exact fld_wr_eq (IhL1.s (a1 := 37) (a2 := 37) (k := 13) (n := 97) (by decide +kernel) (by decide) (by decide)) (by decide)
            have Bh10 : vB t n h10 := iL1_0.fr (zMR.one (a1 := 37) (a2 := 37) (j1 := 43) (j2 := 44) ⟨by decide, by decide⟩ ⟨by decide, by decide⟩ eh10) (by decide +kernel)
            have Rh10 : zMR msS2 h h10 := RhL1.w (a1 := 37) (a2 := 37) (j1 := 43) (j2 := 44) (by decide +kernel) ⟨by decide, by decide⟩ ⟨by decide, by decide⟩ eh10
            have PR141 : pRun pDig t n (fld h10 37 43).toNat = pRun pDig t n p := by rw [← iL1_2, show (fld h10 37 43).toNat = (fld hL1 37 43).toNat + 1 by omega]; exact (pRun_s (by omega) (pDig_t.mpr (by omega))).symm
            refine zwW_p [(24, 141, 0)] (q := 141) (ls' := [(2, 37)]) (st' := []) (by decide +kernel) rfl ?_
            exact IHL1 (fld h10 37 41 - fld h10 37 43).toNat (by omega) h10 rfl (Bh10) (by omega) (PR141) Ih10 Rh10
        · refine zwif_eq (q := 190) (nx := 167) (by decide +kernel) (fun c11 => ?_) (fun c11 => ?_)
          · have TK : mTk t n hL1 p := mTk_d (by omega) (by omega) NL DG (by rw [← iL1_2, pRun_e (fun z => by first | omega | (have w := pDig_t.mp z.2; omega))]; omega)
            refine zwW_retv (nx := 191) (a := 0) (b := 0) (by decide +kernel) ?_
            exact ⟨IhL1, RhL1, by exact TK⟩
          · exfalso; omega
  exact L1 _ h rfl (B) (by omega) (by rw [show (fld h 37 43).toNat = p by omega]) I R
-- WheelLandModel.skips()V
theorem m200_ps {sc : List Int} (h : Hp) (I : zI h) (t : pT) (n p : Nat) (B : vB t n h) (pp : fld h 37 42 = (p : Int)) (p3 : fld h 37 43 = (p : Int)) (pl : p < n) (NL : ¬ pLet (t p) = true) (ND : ¬ pDig (t p) = true) : zwW sc 1 200 180 [(2, 37)] [] h (zwRv (fun g => zI g ∧ zMR msS2 h g ∧ mTk t n g p)) := by
  have R : zMR msS2 h h := zMR.rf _ _
  have B1 := B.1
  have B2 := B.2.1
  refine zwW_p [(1, 0, 2), (1, 0, 2)] (q := 182) (ls' := [(2, 37)]) (st' := [(2, 37), (2, 37)]) (by decide +kernel) rfl ?_
  refine zwW_gs I (kd := 13) (bn := 42) (n := 97) (t := 0) (lo := 0) (hi := 400) (nx := 185) (by decide +kernel) ?_
  intro v1 ev1 lv1 uv1
  refine zwW_p [(0, 1, 0)] (q := 186) (ls' := [(2, 37)]) (st' := [(0, 1), (0, v1), (2, 37)]) (by decide +kernel) rfl ?_
  refine zwW_add (nx := 187) (by decide +kernel) ⟨by omega, by omega⟩ ?_
  refine zwW_ps I (kd := 13) (bn := 43) (n := 97) (lo := 0) (hi := 400) (nx := 190) (by decide +kernel) ⟨by omega, by omega⟩ ?_
  intro h2 eh2 Ih2
  have th2_37_41 : fld h2 37 41 = fld h 37 41 := by rw [eh2]; exact fld_wr (by decide)
  have th2_37_42 : fld h2 37 42 = fld h 37 42 := by rw [eh2]; exact fld_wr (by decide)
  have th2_37_43 : fld h2 37 43 = (v1 + 1) := by rw [eh2]; exact fld_wr_eq (I.s (a1 := 37) (a2 := 37) (k := 13) (n := 97) (by decide +kernel) (by decide) (by decide)) (by decide)
  have Bh2 : vB t n h2 := B.fr (zMR.one (a1 := 37) (a2 := 37) (j1 := 43) (j2 := 44) ⟨by decide, by decide⟩ ⟨by decide, by decide⟩ eh2) (by decide +kernel)
  have Rh2 : zMR msS2 h h2 := R.w (a1 := 37) (a2 := 37) (j1 := 43) (j2 := 44) (by decide +kernel) ⟨by decide, by decide⟩ ⟨by decide, by decide⟩ eh2
  have TK : mTk t n h2 p := mTk_s (by omega) (by omega) NL ND (by omega)
  refine zwW_retv (nx := 191) (a := 0) (b := 0) (by decide +kernel) ?_
  exact ⟨Ih2, Rh2, by exact TK⟩
-- WheelLandModel.skips()V
theorem m200_pt {sc : List Int} (h : Hp) (I : zI h) (t : pT) (n p : Nat) (B : vB t n h) (pp : fld h 37 42 = (p : Int)) (pl : p ≤ n) : zwW sc 1 200 52 [(2, 37)] [] h (zwRv (fun g => zI g ∧ zMR msS2 h g ∧ mTk t n g p)) := by
  have R : zMR msS2 h h := zMR.rf _ _
  have B1 := B.1
  have B2 := B.2.1
  refine zwW_p [(1, 0, 2), (1, 0, 2)] (q := 54) (ls' := [(2, 37)]) (st' := [(2, 37), (2, 37)]) (by decide +kernel) rfl ?_
  refine zwW_gs I (kd := 13) (bn := 42) (n := 97) (t := 0) (lo := 0) (hi := 400) (nx := 57) (by decide +kernel) ?_
  intro v1 ev1 lv1 uv1
  refine zwW_ps I (kd := 13) (bn := 43) (n := 97) (lo := 0) (hi := 400) (nx := 60) (by decide +kernel) ⟨by omega, by omega⟩ ?_
  intro h2 eh2 Ih2
  have th2_37_41 : fld h2 37 41 = fld h 37 41 := by rw [eh2]; exact fld_wr (by decide)
  have th2_37_42 : fld h2 37 42 = fld h 37 42 := by rw [eh2]; exact fld_wr (by decide)
  have th2_37_43 : fld h2 37 43 = v1 := by rw [eh2]; exact fld_wr_eq (I.s (a1 := 37) (a2 := 37) (k := 13) (n := 97) (by decide +kernel) (by decide) (by decide)) (by decide)
  have Bh2 : vB t n h2 := B.fr (zMR.one (a1 := 37) (a2 := 37) (j1 := 43) (j2 := 44) ⟨by decide, by decide⟩ ⟨by decide, by decide⟩ eh2) (by decide +kernel)
  have Rh2 : zMR msS2 h h2 := R.w (a1 := 37) (a2 := 37) (j1 := 43) (j2 := 44) (by decide +kernel) ⟨by decide, by decide⟩ ⟨by decide, by decide⟩ eh2
  refine zwW_p [(1, 0, 2)] (q := 61) (ls' := [(2, 37)]) (st' := [(2, 37)]) (by decide +kernel) rfl ?_
  refine zwW_gs Ih2 (kd := 13) (bn := 42) (n := 97) (t := 0) (lo := 0) (hi := 400) (nx := 64) (by decide +kernel) ?_
  intro v3 ev3 lv3 uv3
  refine zwW_p [(1, 0, 2)] (q := 65) (ls' := [(2, 37)]) (st' := [(2, 37), (0, v3)]) (by decide +kernel) rfl ?_
  refine zwW_gs Ih2 (kd := 13) (bn := 41) (n := 97) (t := 0) (lo := 0) (hi := 400) (nx := 68) (by decide +kernel) ?_
  intro v4 ev4 lv4 uv4
  refine zwic_ne (q := 72) (nx := 71) (by decide +kernel) (fun c5 => ?_) (fun c5 => ?_)
  · refine zwW_p [(1, 0, 2)] (q := 73) (ls' := [(2, 37)]) (st' := [(2, 37)]) (by decide +kernel) rfl ?_
    refine zwW_gc Ih2 (kd := 13) (bn := 40) (n := 97) (c := 98) (nx := 76) (by decide +kernel) ?_
    refine zwW_p [(1, 0, 2)] (q := 77) (ls' := [(2, 37)]) (st' := [(2, 37), (2, 98)]) (by decide +kernel) rfl ?_
    refine zwW_gs Ih2 (kd := 13) (bn := 42) (n := 97) (t := 0) (lo := 0) (hi := 400) (nx := 80) (by decide +kernel) ?_
    intro v6 ev6 lv6 uv6
    refine zwW_al Ih2 (a1 := 98) (a2 := 98) (kd := 21) (n := 400) (t := 0) (lo := -128) (hi := 127) (nx := 81) (by decide +kernel) ⟨by decide, by decide⟩ ⟨by omega, by omega⟩ ?_
    intro v7 ev7 lv7 uv7
    have E81 : v7 = t (p) := by rw [ev7]; refine Eq.trans ?_ (Bh2.2.2 (p) (by omega)); first | rfl | (congr 1; omega)
    refine zwW_cs (k' := 244) (n := 1) (nx := 84) (as := [(0, v7)]) (st' := []) (by decide +kernel) rfl (m244 h2 v7) rfl ?_
    rintro x _ ⟨rfl, ⟨rfl, c8⟩ | ⟨rfl, c8⟩⟩
    · refine zwif_eq (q := 126) (nx := 87) (by decide +kernel) (fun c9 => ?_) (fun c9 => ?_)
      · exfalso; omega
      · refine zwW_to (m200_pl h2 Ih2 t n p Bh2 (by omega) (by omega) (by omega) (pLet_t.mpr (by omega))) ?_
        rintro r g ⟨er, Ig, RT, K⟩
        exact ⟨er, Ig, Rh2.tr RT (by decide +kernel), K⟩
    · refine zwif_eq (q := 126) (nx := 87) (by decide +kernel) (fun c10 => ?_) (fun c10 => ?_)
      · refine zwW_p [(1, 0, 2)] (q := 127) (ls' := [(2, 37)]) (st' := [(2, 37)]) (by decide +kernel) rfl ?_
        refine zwW_gc Ih2 (kd := 13) (bn := 40) (n := 97) (c := 98) (nx := 130) (by decide +kernel) ?_
        refine zwW_p [(1, 0, 2)] (q := 131) (ls' := [(2, 37)]) (st' := [(2, 37), (2, 98)]) (by decide +kernel) rfl ?_
        refine zwW_gs Ih2 (kd := 13) (bn := 42) (n := 97) (t := 0) (lo := 0) (hi := 400) (nx := 134) (by decide +kernel) ?_
        intro v11 ev11 lv11 uv11
        refine zwW_al Ih2 (a1 := 98) (a2 := 98) (kd := 21) (n := 400) (t := 0) (lo := -128) (hi := 127) (nx := 135) (by decide +kernel) ⟨by decide, by decide⟩ ⟨by omega, by omega⟩ ?_
        intro v12 ev12 lv12 uv12
        have E135 : v12 = t (p) := by rw [ev12]; refine Eq.trans ?_ (Bh2.2.2 (p) (by omega)); first | rfl | (congr 1; omega)
        refine zwW_cs (k' := 245) (n := 1) (nx := 138) (as := [(0, v12)]) (st' := []) (by decide +kernel) rfl (m245 h2 v12) rfl ?_
        rintro x _ ⟨rfl, ⟨rfl, c13⟩ | ⟨rfl, c13⟩⟩
        · refine zwif_eq (q := 180) (nx := 141) (by decide +kernel) (fun c14 => ?_) (fun c14 => ?_)
          · exfalso; omega
          · refine zwW_to (m200_pd h2 Ih2 t n p Bh2 (by omega) (by omega) (by omega) (fun z => by have w := pLet_t.mp z; omega) (pDig_t.mpr (by omega))) ?_
            rintro r g ⟨er, Ig, RT, K⟩
            exact ⟨er, Ig, Rh2.tr RT (by decide +kernel), K⟩
        · refine zwif_eq (q := 180) (nx := 141) (by decide +kernel) (fun c15 => ?_) (fun c15 => ?_)
          · refine zwW_to (m200_ps h2 Ih2 t n p Bh2 (by omega) (by omega) (by omega) (fun z => by have w := pLet_t.mp z; omega) (fun z => by have w := pDig_t.mp z; omega)) ?_
            rintro r g ⟨er, Ig, RT, K⟩
            exact ⟨er, Ig, Rh2.tr RT (by decide +kernel), K⟩
          · exfalso; omega
      · exfalso; omega
  · have TK : mTk t n h2 p := mTk_e (by omega) (by omega) (by omega)
    refine zwW_retv (nx := 72) (a := 0) (b := 0) (by decide +kernel) ?_
    exact ⟨Ih2, Rh2, by exact TK⟩
-- WheelLandModel.skips()V
theorem m200_p {sc : List Int} (h : Hp) (I : zI h) (t : pT) (n : Nat) (q : Nat) (B : vB t n h) (pq : fld h 37 42 = (q : Int)) (pl : q ≤ n) : zwC sc 2 200 [(2, 37)] h (zwRv (fun g => zI g ∧ zMR msS2 h g ∧ (mTk t n g (pSk t n q)))) := by
  refine zwC_of (D := 1) 1 (by decide +kernel) rfl (ls := [(2, 37)]) rfl ?_
  have R : zMR msS2 h h := zMR.rf _ _
  have B1 := B.1
  have B2 := B.2.1
  have L1 : ∀ (n0 : Nat) (hL1 : Hp), n0 = (fld hL1 37 41 - fld hL1 37 42).toNat → (vB t n hL1) → (q ≤ fld hL1 37 42 ∧ fld hL1 37 42 ≤ n) → (pRun pBla t n (fld hL1 37 42).toNat = pRun pBla t n q) → zI hL1 → zMR msS2 h hL1 → zwW sc (1) 200 0 [(2, 37)] [] hL1 (zwRv (fun g => zI g ∧ zMR msS2 h g ∧ (mTk t n g (pSk t n q)))) := by
    intro n0
    induction n0 using Nat.strongRecOn with
    | ind n0 IHL1 =>
      intro hL1 hnL1 iL1_0 iL1_1 iL1_2 IhL1 RhL1
      have BL := iL1_0.1
      refine zwW_p [(1, 0, 2)] (q := 1) (ls' := [(2, 37)]) (st' := [(2, 37)]) (by decide +kernel) rfl ?_
      refine zwW_gs IhL1 (kd := 13) (bn := 42) (n := 97) (t := 0) (lo := 0) (hi := 400) (nx := 4) (by decide +kernel) ?_
      intro v2 ev2 lv2 uv2
      refine zwW_p [(1, 0, 2)] (q := 5) (ls' := [(2, 37)]) (st' := [(2, 37), (0, v2)]) (by decide +kernel) rfl ?_
      refine zwW_gs IhL1 (kd := 13) (bn := 41) (n := 97) (t := 0) (lo := 0) (hi := 400) (nx := 8) (by decide +kernel) ?_
      intro v3 ev3 lv3 uv3
      refine zwic_ge (q := 52) (nx := 11) (by decide +kernel) (fun c4 => ?_) (fun c4 => ?_)
      · have N52 : pSk t n q = (fld hL1 37 42).toNat := by unfold pSk; rw [← iL1_2]; exact pRun_e (fun z => by first | omega | (have w := pBla_t.mp z.2; omega))
        refine zwW_to (m200_pt hL1 IhL1 t n (pSk t n q) iL1_0 (by omega) (by omega)) ?_
        rintro r g ⟨er, Ig, RT, K⟩
        exact ⟨er, Ig, RhL1.tr RT (by decide +kernel), K⟩
      · refine zwW_p [(1, 0, 2)] (q := 12) (ls' := [(2, 37)]) (st' := [(2, 37)]) (by decide +kernel) rfl ?_
        refine zwW_gc IhL1 (kd := 13) (bn := 40) (n := 97) (c := 98) (nx := 15) (by decide +kernel) ?_
        refine zwW_p [(1, 0, 2)] (q := 16) (ls' := [(2, 37)]) (st' := [(2, 37), (2, 98)]) (by decide +kernel) rfl ?_
        refine zwW_gs IhL1 (kd := 13) (bn := 42) (n := 97) (t := 0) (lo := 0) (hi := 400) (nx := 19) (by decide +kernel) ?_
        intro v5 ev5 lv5 uv5
        refine zwW_al IhL1 (a1 := 98) (a2 := 98) (kd := 21) (n := 400) (t := 0) (lo := -128) (hi := 127) (nx := 20) (by decide +kernel) ⟨by decide, by decide⟩ ⟨by omega, by omega⟩ ?_
        intro v6 ev6 lv6 uv6
        have E20 : v6 = t ((fld hL1 37 42).toNat) := by rw [ev6]; refine Eq.trans ?_ (iL1_0.2.2 ((fld hL1 37 42).toNat) (by omega)); first | rfl | (congr 1; omega)
        refine zwW_p [(0, 32, 0)] (q := 22) (ls' := [(2, 37)]) (st' := [(0, 32), (0, v6)]) (by decide +kernel) rfl ?_
        refine zwic_eq (q := 39) (nx := 25) (by decide +kernel) (fun c7 => ?_) (fun c7 => ?_)
        · refine zwW_p [(1, 0, 2), (12, 0, 0)] (q := 41) (ls' := [(2, 37)]) (st' := [(2, 37), (2, 37)]) (by decide +kernel) rfl ?_
          refine zwW_gs IhL1 (kd := 13) (bn := 42) (n := 97) (t := 0) (lo := 0) (hi := 400) (nx := 44) (by decide +kernel) ?_
          intro v8 ev8 lv8 uv8
          refine zwW_p [(0, 1, 0)] (q := 45) (ls' := [(2, 37)]) (st' := [(0, 1), (0, v8), (2, 37)]) (by decide +kernel) rfl ?_
          refine zwW_add (nx := 46) (by decide +kernel) ⟨by omega, by omega⟩ ?_
          refine zwW_ps IhL1 (kd := 13) (bn := 42) (n := 97) (lo := 0) (hi := 400) (nx := 49) (by decide +kernel) ⟨by omega, by omega⟩ ?_
          intro h9 eh9 Ih9
          have th9_37_41 : fld h9 37 41 = fld hL1 37 41 := by rw [eh9]; exact fld_wr (by decide)
          have th9_37_42 : fld h9 37 42 = (v8 + 1) := by rw [eh9]; exact fld_wr_eq (IhL1.s (a1 := 37) (a2 := 37) (k := 13) (n := 97) (by decide +kernel) (by decide) (by decide)) (by decide)
          have th9_37_43 : fld h9 37 43 = fld hL1 37 43 := by rw [eh9]; exact fld_wr (by decide)
          have Bh9 : vB t n h9 := iL1_0.fr (zMR.one (a1 := 37) (a2 := 37) (j1 := 42) (j2 := 43) ⟨by decide, by decide⟩ ⟨by decide, by decide⟩ eh9) (by decide +kernel)
          have Rh9 : zMR msS2 h h9 := RhL1.w (a1 := 37) (a2 := 37) (j1 := 42) (j2 := 43) (by decide +kernel) ⟨by decide, by decide⟩ ⟨by decide, by decide⟩ eh9
          have PR0 : pRun pBla t n (fld h9 37 42).toNat = pRun pBla t n q := by rw [← iL1_2, show (fld h9 37 42).toNat = (fld hL1 37 42).toNat + 1 by omega]; exact (pRun_s (by omega) (pBla_t.mpr (by omega))).symm
          refine zwW_p [(24, 0, 0)] (q := 0) (ls' := [(2, 37)]) (st' := []) (by decide +kernel) rfl ?_
          exact IHL1 (fld h9 37 41 - fld h9 37 42).toNat (by omega) h9 rfl (Bh9) (by omega) (PR0) Ih9 Rh9
        · refine zwW_p [(1, 0, 2)] (q := 26) (ls' := [(2, 37)]) (st' := [(2, 37)]) (by decide +kernel) rfl ?_
          refine zwW_gc IhL1 (kd := 13) (bn := 40) (n := 97) (c := 98) (nx := 29) (by decide +kernel) ?_
          refine zwW_p [(1, 0, 2)] (q := 30) (ls' := [(2, 37)]) (st' := [(2, 37), (2, 98)]) (by decide +kernel) rfl ?_
          refine zwW_gs IhL1 (kd := 13) (bn := 42) (n := 97) (t := 0) (lo := 0) (hi := 400) (nx := 33) (by decide +kernel) ?_
          intro v10 ev10 lv10 uv10
          refine zwW_al IhL1 (a1 := 98) (a2 := 98) (kd := 21) (n := 400) (t := 0) (lo := -128) (hi := 127) (nx := 34) (by decide +kernel) ⟨by decide, by decide⟩ ⟨by omega, by omega⟩ ?_
          intro v11 ev11 lv11 uv11
          have E34 : v11 = t ((fld hL1 37 42).toNat) := by rw [ev11]; refine Eq.trans ?_ (iL1_0.2.2 ((fld hL1 37 42).toNat) (by omega)); first | rfl | (congr 1; omega)
          refine zwW_p [(0, 10, 0)] (q := 36) (ls' := [(2, 37)]) (st' := [(0, 10), (0, v11)]) (by decide +kernel) rfl ?_
          refine zwic_ne (q := 52) (nx := 39) (by decide +kernel) (fun c12 => ?_) (fun c12 => ?_)
          · have N52 : pSk t n q = (fld hL1 37 42).toNat := by unfold pSk; rw [← iL1_2]; exact pRun_e (fun z => by first | omega | (have w := pBla_t.mp z.2; omega))
            refine zwW_to (m200_pt hL1 IhL1 t n (pSk t n q) iL1_0 (by omega) (by omega)) ?_
            rintro r g ⟨er, Ig, RT, K⟩
            exact ⟨er, Ig, RhL1.tr RT (by decide +kernel), K⟩
          · refine zwW_p [(1, 0, 2), (12, 0, 0)] (q := 41) (ls' := [(2, 37)]) (st' := [(2, 37), (2, 37)]) (by decide +kernel) rfl ?_
            refine zwW_gs IhL1 (kd := 13) (bn := 42) (n := 97) (t := 0) (lo := 0) (hi := 400) (nx := 44) (by decide +kernel) ?_
            intro v13 ev13 lv13 uv13
            refine zwW_p [(0, 1, 0)] (q := 45) (ls' := [(2, 37)]) (st' := [(0, 1), (0, v13), (2, 37)]) (by decide +kernel) rfl ?_
            refine zwW_add (nx := 46) (by decide +kernel) ⟨by omega, by omega⟩ ?_
            refine zwW_ps IhL1 (kd := 13) (bn := 42) (n := 97) (lo := 0) (hi := 400) (nx := 49) (by decide +kernel) ⟨by omega, by omega⟩ ?_
            intro h14 eh14 Ih14
            have th14_37_41 : fld h14 37 41 = fld hL1 37 41 := by rw [eh14]; exact fld_wr (by decide)
            have th14_37_42 : fld h14 37 42 = (v13 + 1) := by rw [eh14]; exact fld_wr_eq (IhL1.s (a1 := 37) (a2 := 37) (k := 13) (n := 97) (by decide +kernel) (by decide) (by decide)) (by decide)
            have th14_37_43 : fld h14 37 43 = fld hL1 37 43 := by rw [eh14]; exact fld_wr (by decide)
            have Bh14 : vB t n h14 := iL1_0.fr (zMR.one (a1 := 37) (a2 := 37) (j1 := 42) (j2 := 43) ⟨by decide, by decide⟩ ⟨by decide, by decide⟩ eh14) (by decide +kernel)
            have Rh14 : zMR msS2 h h14 := RhL1.w (a1 := 37) (a2 := 37) (j1 := 42) (j2 := 43) (by decide +kernel) ⟨by decide, by decide⟩ ⟨by decide, by decide⟩ eh14
            have PR0 : pRun pBla t n (fld h14 37 42).toNat = pRun pBla t n q := by rw [← iL1_2, show (fld h14 37 42).toNat = (fld hL1 37 42).toNat + 1 by omega]; exact (pRun_s (by omega) (pBla_t.mpr (by omega))).symm
            refine zwW_p [(24, 0, 0)] (q := 0) (ls' := [(2, 37)]) (st' := []) (by decide +kernel) rfl ?_
            exact IHL1 (fld h14 37 41 - fld h14 37 42).toNat (by omega) h14 rfl (Bh14) (by omega) (PR0) Ih14 Rh14
  exact L1 _ h rfl (B) (by omega) (by rw [show (fld h 37 42).toNat = q by omega]) I R
def ms268_p : Zms := [(37, 37, 42, 44)]
-- WheelLandModel.goesOn()V
theorem m268_p {sc : List Int} (h : Hp) (I : zI h) (t : pT) (n : Nat) (p : Nat) (B : vB t n h) (K : mTk t n h p) : zwC sc 3 268 [(2, 37)] h (zwRv (fun g => zI g ∧ zMR ms268_p h g ∧ (mTk t n g (pNx t n p)))) := by
  refine zwC_of (D := 2) 1 (by decide +kernel) rfl (ls := [(2, 37)]) rfl ?_
  have R : zMR ms268_p h h := zMR.rf _ _
  have K3 := K.2.2
  have KE := pEn_b (t := t) K.2.1
  refine zwW_p [(1, 0, 2), (1, 0, 2)] (q := 2) (ls' := [(2, 37)]) (st' := [(2, 37), (2, 37)]) (by decide +kernel) rfl ?_
  refine zwW_gs I (kd := 13) (bn := 43) (n := 97) (t := 0) (lo := 0) (hi := 400) (nx := 5) (by decide +kernel) ?_
  intro v1 ev1 lv1 uv1
  refine zwW_ps I (kd := 13) (bn := 42) (n := 97) (lo := 0) (hi := 400) (nx := 8) (by decide +kernel) ⟨by omega, by omega⟩ ?_
  intro h2 eh2 Ih2
  have th2_37_42 : fld h2 37 42 = v1 := by rw [eh2]; exact fld_wr_eq (I.s (a1 := 37) (a2 := 37) (k := 13) (n := 97) (by decide +kernel) (by decide) (by decide)) (by decide)
  have Bh2 : vB t n h2 := B.fr (zMR.one (a1 := 37) (a2 := 37) (j1 := 42) (j2 := 43) ⟨by decide, by decide⟩ ⟨by decide, by decide⟩ eh2) (by decide +kernel)
  have Rh2 : zMR ms268_p h h2 := R.w (a1 := 37) (a2 := 37) (j1 := 42) (j2 := 43) (by decide +kernel) ⟨by decide, by decide⟩ ⟨by decide, by decide⟩ eh2
  refine zwW_p [(1, 0, 2)] (q := 9) (ls' := [(2, 37)]) (st' := [(2, 37)]) (by decide +kernel) rfl ?_
  refine zwW_cmv Ih2 (op := 60) (k' := 200) (n := 0) (kd := 13) (m := 97) (nx := 12) (r := 37) (tl := []) (st' := []) (by decide +kernel) rfl (by decide +kernel) rfl (m200_p h2 Ih2 t n (pEn t n p) Bh2 (by omega) KE.2.1) ?_
  rintro h4 ⟨Ih4, Qh4, f3⟩
  have Rh4 : zMR ms268_p h h4 := Rh2.tr Qh4 (by decide +kernel)
  have Bh4 : vB t n h4 := Bh2.fr Qh4 (by decide +kernel)
  refine zwW_retv (nx := 13) (a := 0) (b := 0) (by decide +kernel) ?_
  exact ⟨Ih4, Rh4, by exact f3⟩
-- WheelLandModel.isSign(I)Z
theorem m250_p {sc : List Int} (h : Hp) (I : zI h) (a : Int) (t : pT) (n : Nat) (p : Nat) (B : vB t n h) (K : mTk t n h p) (hc : pSig a = true) : zwC sc 1 250 [(2, 37), (0, a)] h (zwRt 0 (fun x g => h = g ∧ ((x = 1 ∧ (pK t n p = a)) ∨ (x = 0 ∧ (pK t n p ≠ a))))) := by
  refine zwC_of (D := 0) 2 (by decide +kernel) rfl (ls := [(2, 37), (0, a)]) rfl ?_
  have K1 := K.1
  have B1 := B.1
  have B2 := B.2.1
  refine zwW_p [(1, 0, 2)] (q := 1) (ls' := [(2, 37), (0, a)]) (st' := [(2, 37)]) (by decide +kernel) rfl ?_
  refine zwW_gs I (kd := 13) (bn := 42) (n := 97) (t := 0) (lo := 0) (hi := 400) (nx := 4) (by decide +kernel) ?_
  intro v1 ev1 lv1 uv1
  refine zwW_p [(1, 0, 2)] (q := 5) (ls' := [(2, 37), (0, a)]) (st' := [(2, 37), (0, v1)]) (by decide +kernel) rfl ?_
  refine zwW_gs I (kd := 13) (bn := 41) (n := 97) (t := 0) (lo := 0) (hi := 400) (nx := 8) (by decide +kernel) ?_
  intro v2 ev2 lv2 uv2
  refine zwic_ge (q := 28) (nx := 11) (by decide +kernel) (fun c3 => ?_) (fun c3 => ?_)
  · refine zwW_p [(0, 0, 0)] (q := 29) (ls' := [(2, 37), (0, a)]) (st' := [(0, 0)]) (by decide +kernel) rfl ?_
    refine zwW_ret (nx := 30) (a := 1) (b := 0) (by decide +kernel) rfl (Or.inr (Or.inl ⟨rfl, by omega⟩)) ?_
    exact ⟨rfl, Or.inr ⟨rfl, by intro z; have w := (pK_sg hc).mp z; omega⟩⟩
  · refine zwW_p [(1, 0, 2)] (q := 12) (ls' := [(2, 37), (0, a)]) (st' := [(2, 37)]) (by decide +kernel) rfl ?_
    refine zwW_gc I (kd := 13) (bn := 40) (n := 97) (c := 98) (nx := 15) (by decide +kernel) ?_
    refine zwW_p [(1, 0, 2)] (q := 16) (ls' := [(2, 37), (0, a)]) (st' := [(2, 37), (2, 98)]) (by decide +kernel) rfl ?_
    refine zwW_gs I (kd := 13) (bn := 42) (n := 97) (t := 0) (lo := 0) (hi := 400) (nx := 19) (by decide +kernel) ?_
    intro v4 ev4 lv4 uv4
    refine zwW_al I (a1 := 98) (a2 := 98) (kd := 21) (n := 400) (t := 0) (lo := -128) (hi := 127) (nx := 20) (by decide +kernel) ⟨by decide, by decide⟩ ⟨by omega, by omega⟩ ?_
    intro v5 ev5 lv5 uv5
    have E20 : v5 = t (p) := by rw [ev5]; refine Eq.trans ?_ (B.2.2 (p) (by omega)); first | rfl | (congr 1; omega)
    refine zwW_p [(1, 1, 0)] (q := 21) (ls' := [(2, 37), (0, a)]) (st' := [(0, a), (0, v5)]) (by decide +kernel) rfl ?_
    refine zwic_ne (q := 28) (nx := 24) (by decide +kernel) (fun c6 => ?_) (fun c6 => ?_)
    · refine zwW_p [(0, 0, 0)] (q := 29) (ls' := [(2, 37), (0, a)]) (st' := [(0, 0)]) (by decide +kernel) rfl ?_
      refine zwW_ret (nx := 30) (a := 1) (b := 0) (by decide +kernel) rfl (Or.inr (Or.inl ⟨rfl, by omega⟩)) ?_
      exact ⟨rfl, Or.inr ⟨rfl, by intro z; have w := (pK_sg hc).mp z; omega⟩⟩
    · refine zwW_p [(0, 1, 0), (24, 29, 0)] (q := 29) (ls' := [(2, 37), (0, a)]) (st' := [(0, 1)]) (by decide +kernel) rfl ?_
      refine zwW_ret (nx := 30) (a := 1) (b := 0) (by decide +kernel) rfl (Or.inr (Or.inl ⟨rfl, by omega⟩)) ?_
      exact ⟨rfl, Or.inl ⟨rfl, by exact (pK_sg hc).mpr ⟨by omega, by omega⟩⟩⟩
def ms267_p : Zms := [(37, 37, 44, 45)]
-- WheelLandModel.fails()Z
theorem m267_p {sc : List Int} (h : Hp) (I : zI h) (pf : fld h 37 44 = -1) : zwC sc 1 267 [(2, 37)] h (zwRt 0 (fun x g => zI g ∧ zMR ms267_p h g ∧ x = 0 ∧ (fld g 37 44 = fld h 37 42))) := by
  refine zwC_of (D := 0) 1 (by decide +kernel) rfl (ls := [(2, 37)]) rfl ?_
  have R : zMR ms267_p h h := zMR.rf _ _
  refine zwW_p [(1, 0, 2)] (q := 1) (ls' := [(2, 37)]) (st' := [(2, 37)]) (by decide +kernel) rfl ?_
  refine zwW_gs I (kd := 13) (bn := 44) (n := 97) (t := 0) (lo := -1) (hi := 400) (nx := 4) (by decide +kernel) ?_
  intro v1 ev1 lv1 uv1
  refine zwW_p [(0, -1, 0)] (q := 5) (ls' := [(2, 37)]) (st' := [(0, -1), (0, v1)]) (by decide +kernel) rfl ?_
  refine zwic_ne (q := 16) (nx := 8) (by decide +kernel) (fun c2 => ?_) (fun c2 => ?_)
  · refine zwW_p [(0, 0, 0)] (q := 17) (ls' := [(2, 37)]) (st' := [(0, 0)]) (by decide +kernel) rfl ?_
    refine zwW_ret (nx := 18) (a := 1) (b := 0) (by decide +kernel) rfl (Or.inr (Or.inl ⟨rfl, by omega⟩)) ?_
    exact ⟨I, R, rfl, by omega⟩
  · refine zwW_p [(1, 0, 2), (1, 0, 2)] (q := 10) (ls' := [(2, 37)]) (st' := [(2, 37), (2, 37)]) (by decide +kernel) rfl ?_
    refine zwW_gs I (kd := 13) (bn := 42) (n := 97) (t := 0) (lo := 0) (hi := 400) (nx := 13) (by decide +kernel) ?_
    intro v3 ev3 lv3 uv3
    refine zwW_ps I (kd := 13) (bn := 44) (n := 97) (lo := -1) (hi := 400) (nx := 16) (by decide +kernel) ⟨by omega, by omega⟩ ?_
    intro h4 eh4 Ih4
    have th4_37_42 : fld h4 37 42 = fld h 37 42 := by rw [eh4]; exact fld_wr (by decide)
    have th4_37_44 : fld h4 37 44 = v3 := by rw [eh4]; exact fld_wr_eq (I.s (a1 := 37) (a2 := 37) (k := 13) (n := 97) (by decide +kernel) (by decide) (by decide)) (by decide)
    have Rh4 : zMR ms267_p h h4 := R.w (a1 := 37) (a2 := 37) (j1 := 44) (j2 := 45) (by decide +kernel) ⟨by decide, by decide⟩ ⟨by decide, by decide⟩ eh4
    refine zwW_p [(0, 0, 0)] (q := 17) (ls' := [(2, 37)]) (st' := [(0, 0)]) (by decide +kernel) rfl ?_
    refine zwW_ret (nx := 18) (a := 1) (b := 0) (by decide +kernel) rfl (Or.inr (Or.inl ⟨rfl, by omega⟩)) ?_
    exact ⟨Ih4, Rh4, rfl, by omega⟩
def ms247_p : Zms := [(37, 37, 42, 44), (37, 37, 44, 45)]
-- WheelLandModel.passes(Z)Z
theorem m247_p {sc : List Int} (h : Hp) (I : zI h) (a : Int) (t : pT) (n : Nat) (p : Nat) (B : vB t n h) (K : mTk t n h p) (pf : fld h 37 44 = -1) : zwC sc 4 247 [(2, 37), (0, a)] h (zwRt 0 (fun x g => zI g ∧ zMR ms247_p h g ∧ ((x = 1 ∧ (a ≠ 0) ∧ (mTk t n g (pNx t n p)) ∧ (fld g 37 44 = -1)) ∨ (x = 0 ∧ (a = 0) ∧ (fld g 37 44 = (p : Int)))))) := by
  refine zwC_of (D := 3) 2 (by decide +kernel) rfl (ls := [(2, 37), (0, a)]) rfl ?_
  have R : zMR ms247_p h h := zMR.rf _ _
  have K1 := K.1
  refine zwW_p [(1, 1, 0)] (q := 1) (ls' := [(2, 37), (0, a)]) (st' := [(0, a)]) (by decide +kernel) rfl ?_
  refine zwif_ne (q := 9) (nx := 4) (by decide +kernel) (fun c1 => ?_) (fun c1 => ?_)
  · refine zwW_p [(1, 0, 2)] (q := 10) (ls' := [(2, 37), (0, a)]) (st' := [(2, 37)]) (by decide +kernel) rfl ?_
    refine zwW_cmv I (op := 60) (k' := 268) (n := 0) (kd := 13) (m := 97) (nx := 13) (r := 37) (tl := []) (st' := []) (by decide +kernel) rfl (by decide +kernel) rfl (m268_p h I t n p B K) ?_
    rintro h3 ⟨Ih3, Qh3, f2⟩
    have Rh3 : zMR ms247_p h h3 := R.tr Qh3 (by decide +kernel)
    have th3_37_44 : fld h3 37 44 = fld h 37 44 := Qh3.f (a1 := 37) (a2 := 37) (j1 := 44) (j2 := 45) (by decide +kernel) ⟨by decide, by decide⟩ ⟨by decide, by decide⟩
    refine zwW_p [(0, 1, 0)] (q := 14) (ls' := [(2, 37), (0, a)]) (st' := [(0, 1)]) (by decide +kernel) rfl ?_
    refine zwW_ret (nx := 15) (a := 1) (b := 0) (by decide +kernel) rfl (Or.inr (Or.inl ⟨rfl, by omega⟩)) ?_
    exact ⟨Ih3, Rh3, Or.inl ⟨rfl, by omega, by exact f2, by omega⟩⟩
  · refine zwW_p [(1, 0, 2)] (q := 5) (ls' := [(2, 37), (0, a)]) (st' := [(2, 37)]) (by decide +kernel) rfl ?_
    refine zwW_cm I (op := 60) (k' := 267) (n := 0) (kd := 13) (m := 97) (nx := 8) (r := 37) (tl := []) (st' := []) (by decide +kernel) rfl (by decide +kernel) rfl (m267_p h I pf) ?_
    rintro x h5 ⟨Ih5, Qh5, rfl, f4⟩
    have Rh5 : zMR ms247_p h h5 := R.tr Qh5 (by decide +kernel)
    refine zwW_ret (nx := 9) (a := 1) (b := 0) (by decide +kernel) rfl (Or.inr (Or.inl ⟨rfl, by omega⟩)) ?_
    exact ⟨Ih5, Rh5, Or.inr ⟨rfl, by omega, by omega⟩⟩
-- WheelLandModel.isWord(Ljava/lang/String;)Z
theorem m246_p {sc : List Int} (h : Hp) (I : zI h) (w : Int) (t : pT) (n : Nat) (p : Nat) (hw : -33 < w ∧ w ≤ -12) (B : vB t n h) (K : mTk t n h p) : zwC sc 5 246 [(2, 37), (2, w)] h (zwRt 0 (fun x g => h = g ∧ ((x = 1 ∧ (pK t n p = 1 ∧ pV t n p = ((mWi w : Nat) : Int))) ∨ (x = 0 ∧ (¬ (pK t n p = 1 ∧ pV t n p = ((mWi w : Nat) : Int))))))) := by
  refine zwC_of (D := 4) 3 (by decide +kernel) rfl (ls := [(2, 37), (2, w), (9, 0)]) rfl ?_
  have K1 := K.1
  have K3 := K.2.2
  have B1 := B.1
  have B2 := B.2.1
  have ZW := mWi_at hw
  have KE := pEn_b (t := t) K.2.1
  refine zwW_p [(1, 0, 2)] (q := 1) (ls' := [(2, 37), (2, w), (9, 0)]) (st' := [(2, 37)]) (by decide +kernel) rfl ?_
  refine zwW_gs I (kd := 13) (bn := 43) (n := 97) (t := 0) (lo := 0) (hi := 400) (nx := 4) (by decide +kernel) ?_
  intro v1 ev1 lv1 uv1
  refine zwW_p [(1, 0, 2)] (q := 5) (ls' := [(2, 37), (2, w), (9, 0)]) (st' := [(2, 37), (0, v1)]) (by decide +kernel) rfl ?_
  refine zwW_gs I (kd := 13) (bn := 42) (n := 97) (t := 0) (lo := 0) (hi := 400) (nx := 8) (by decide +kernel) ?_
  intro v2 ev2 lv2 uv2
  refine zwW_sub (nx := 9) (by decide +kernel) ⟨by omega, by omega⟩ ?_
  refine zwW_p [(1, 1, 2)] (q := 10) (ls' := [(2, 37), (2, w), (9, 0)]) (st' := [(2, w), (0, (v1 - v2))]) (by decide +kernel) rfl ?_
  refine zwW_cst (op := 60) (k' := 265) (n := 0) (nx := 13) (w := w) (tl := []) (st' := [(0, (v1 - v2))]) (by decide +kernel) rfl (by decide +kernel) ⟨by omega, by omega⟩ rfl (m265 h w (by omega)) ?_
  rintro v3 _ ⟨rfl, f4, f5, f6⟩
  refine zwic_ne (q := 27) (nx := 16) (by decide +kernel) (fun c7 => ?_) (fun c7 => ?_)
  · refine zwW_p [(0, 0, 0)] (q := 28) (ls' := [(2, 37), (2, w), (9, 0)]) (st' := [(0, 0)]) (by decide +kernel) rfl ?_
    refine zwW_ret (nx := 29) (a := 1) (b := 0) (by decide +kernel) rfl (Or.inr (Or.inl ⟨rfl, by omega⟩)) ?_
    exact ⟨rfl, Or.inr ⟨rfl, by intro z; have q := (pW_iff (t := t) ZW.2.1 K.2.1).mp z; rw [← ZW.1] at q; obtain ⟨q1, q2, q3⟩ := q; first | omega | (have q4 := (pEq_iff t _ p).mp q3 (0).toNat (by omega); omega)⟩⟩
  · refine zwW_p [(1, 0, 2)] (q := 17) (ls' := [(2, 37), (2, w), (9, 0)]) (st' := [(2, 37)]) (by decide +kernel) rfl ?_
    refine zwW_gs I (kd := 13) (bn := 42) (n := 97) (t := 0) (lo := 0) (hi := 400) (nx := 20) (by decide +kernel) ?_
    intro v8 ev8 lv8 uv8
    refine zwW_p [(1, 0, 2)] (q := 21) (ls' := [(2, 37), (2, w), (9, 0)]) (st' := [(2, 37), (0, v8)]) (by decide +kernel) rfl ?_
    refine zwW_gs I (kd := 13) (bn := 41) (n := 97) (t := 0) (lo := 0) (hi := 400) (nx := 24) (by decide +kernel) ?_
    intro v9 ev9 lv9 uv9
    refine zwic_ne (q := 29) (nx := 27) (by decide +kernel) (fun c10 => ?_) (fun c10 => ?_)
    · refine zwW_p [(0, 0, 0), (2, 2, 0)] (q := 31) (ls' := [(2, 37), (2, w), (0, 0)]) (st' := []) (by decide +kernel) rfl ?_
      have L11 : ∀ (n0 : Nat) (kL11 : Int), n0 = ((1000 - kL11)).toNat → (0 ≤ kL11 ∧ kL11 ≤ ((zby w).length : Int)) → (∀ j : Nat, (j : Int) < kL11 → t (p + j) = (zby w).getD j 0) → zwW sc (4) 246 31 [(2, 37), (2, w), (0, kL11)] [] h (zwRt 0 (fun x g => h = g ∧ ((x = 1 ∧ (pK t n p = 1 ∧ pV t n p = ((mWi w : Nat) : Int))) ∨ (x = 0 ∧ (¬ (pK t n p = 1 ∧ pV t n p = ((mWi w : Nat) : Int))))))) := by
        intro n0
        induction n0 using Nat.strongRecOn with
        | ind n0 IHL11 =>
          intro kL11 hnL11 iL11_0 iL11_1
          refine zwW_p [(1, 2, 0), (1, 1, 2)] (q := 33) (ls' := [(2, 37), (2, w), (0, kL11)]) (st' := [(2, w), (0, kL11)]) (by decide +kernel) rfl ?_
          refine zwW_cst (op := 60) (k' := 265) (n := 0) (nx := 36) (w := w) (tl := []) (st' := [(0, kL11)]) (by decide +kernel) rfl (by decide +kernel) ⟨by omega, by omega⟩ rfl (m265 h w (by omega)) ?_
          rintro v12 _ ⟨rfl, f13, f14, f15⟩
          refine zwic_ge (q := 66) (nx := 39) (by decide +kernel) (fun c16 => ?_) (fun c16 => ?_)
          · refine zwW_p [(0, 1, 0)] (q := 67) (ls' := [(2, 37), (2, w), (0, kL11)]) (st' := [(0, 1)]) (by decide +kernel) rfl ?_
            refine zwW_ret (nx := 68) (a := 1) (b := 0) (by decide +kernel) rfl (Or.inr (Or.inl ⟨rfl, by omega⟩)) ?_
            exact ⟨rfl, Or.inl ⟨rfl, by exact (pW_iff (t := t) ZW.2.1 K.2.1).mpr ⟨by rw [← ZW.1]; omega, by omega, by rw [← ZW.1]; exact (pEq_iff t _ p).mpr (fun j hj => iL11_1 j (by omega))⟩⟩⟩
          · refine zwW_p [(1, 0, 2)] (q := 40) (ls' := [(2, 37), (2, w), (0, kL11)]) (st' := [(2, 37)]) (by decide +kernel) rfl ?_
            refine zwW_gc I (kd := 13) (bn := 40) (n := 97) (c := 98) (nx := 43) (by decide +kernel) ?_
            refine zwW_p [(1, 0, 2)] (q := 44) (ls' := [(2, 37), (2, w), (0, kL11)]) (st' := [(2, 37), (2, 98)]) (by decide +kernel) rfl ?_
            refine zwW_gs I (kd := 13) (bn := 42) (n := 97) (t := 0) (lo := 0) (hi := 400) (nx := 47) (by decide +kernel) ?_
            intro v17 ev17 lv17 uv17
            refine zwW_p [(1, 2, 0)] (q := 48) (ls' := [(2, 37), (2, w), (0, kL11)]) (st' := [(0, kL11), (0, v17), (2, 98)]) (by decide +kernel) rfl ?_
            refine zwW_add (nx := 49) (by decide +kernel) ⟨by omega, by omega⟩ ?_
            refine zwW_al I (a1 := 98) (a2 := 98) (kd := 21) (n := 400) (t := 0) (lo := -128) (hi := 127) (nx := 50) (by decide +kernel) ⟨by decide, by decide⟩ ⟨by omega, by omega⟩ ?_
            intro v18 ev18 lv18 uv18
            have E50 : v18 = t (p + (kL11).toNat) := by rw [ev18]; refine Eq.trans ?_ (B.2.2 (p + (kL11).toNat) (by omega)); first | rfl | (congr 1; omega)
            refine zwW_p [(1, 1, 2), (1, 2, 0)] (q := 52) (ls' := [(2, 37), (2, w), (0, kL11)]) (st' := [(0, kL11), (2, w), (0, v18)]) (by decide +kernel) rfl ?_
            refine zwW_cst (op := 60) (k' := 266) (n := 1) (nx := 55) (w := w) (tl := [(0, kL11)]) (st' := [(0, v18)]) (by decide +kernel) rfl (by decide +kernel) ⟨by omega, by omega⟩ rfl (m266 h w kL11 (by omega) (by omega) (by omega) (by omega)) ?_
            rintro v19 _ ⟨rfl, f20, f21, f22⟩
            refine zwic_eq (q := 60) (nx := 58) (by decide +kernel) (fun c23 => ?_) (fun c23 => ?_)
            · refine zwW_inc (i := 2) (c := 1) (x := kL11) (nx := 63) (by decide +kernel) rfl ⟨by omega, by omega⟩ (ls' := [(2, 37), (2, w), (0, (kL11 + 1))]) rfl ?_
              refine zwW_p [(24, 31, 0)] (q := 31) (ls' := [(2, 37), (2, w), (0, (kL11 + 1))]) (st' := []) (by decide +kernel) rfl ?_
              exact IHL11 ((1000 - (kL11 + 1))).toNat (by omega) (kL11 + 1) rfl (by omega) (fun j hj => by by_cases z : (j : Int) < kL11; exact iL11_1 j z; (rw [show j = (kL11).toNat by omega]; omega))
            · refine zwW_p [(0, 0, 0)] (q := 59) (ls' := [(2, 37), (2, w), (0, kL11)]) (st' := [(0, 0)]) (by decide +kernel) rfl ?_
              refine zwW_ret (nx := 60) (a := 1) (b := 0) (by decide +kernel) rfl (Or.inr (Or.inl ⟨rfl, by omega⟩)) ?_
              exact ⟨rfl, Or.inr ⟨rfl, by intro z; have q := (pW_iff (t := t) ZW.2.1 K.2.1).mp z; rw [← ZW.1] at q; obtain ⟨q1, q2, q3⟩ := q; first | omega | (have q4 := (pEq_iff t _ p).mp q3 (kL11).toNat (by omega); omega)⟩⟩
      exact L11 _ 0 rfl (by omega) (fun j hj => by omega)
    · refine zwW_p [(0, 0, 0)] (q := 28) (ls' := [(2, 37), (2, w), (9, 0)]) (st' := [(0, 0)]) (by decide +kernel) rfl ?_
      refine zwW_ret (nx := 29) (a := 1) (b := 0) (by decide +kernel) rfl (Or.inr (Or.inl ⟨rfl, by omega⟩)) ?_
      exact ⟨rfl, Or.inr ⟨rfl, by intro z; have q := (pW_iff (t := t) ZW.2.1 K.2.1).mp z; rw [← ZW.1] at q; obtain ⟨q1, q2, q3⟩ := q; first | omega | (have q4 := (pEq_iff t _ p).mp q3 (0).toNat (by omega); omega)⟩⟩
def ms296_p : Zms := [(37, 37, 46, 47)]
-- WheelLandModel.isNumber()Z
theorem m296_p {sc : List Int} (h : Hp) (I : zI h) (t : pT) (n : Nat) (p : Nat) (B : vB t n h) (K : mTk t n h p) : zwC sc 2 296 [(2, 37)] h (zwRt 0 (fun x g => zI g ∧ zMR ms296_p h g ∧ ((x = 1 ∧ (pK t n p = 2) ∧ (0 ≤ fld g 37 46 ∧ fld g 37 46 ≤ 999999 ∧ ((fld g 37 46 ≤ 9999 ∧ pV t n p = fld g 37 46) ∨ (9999 < fld g 37 46 ∧ pV t n p = 10000)))) ∨ (x = 0 ∧ (pK t n p ≠ 2))))) := by
  refine zwC_of (D := 1) 2 (by decide +kernel) rfl (ls := [(2, 37), (9, 0)]) rfl ?_
  have R : zMR ms296_p h h := zMR.rf _ _
  have K1 := K.1
  have K3 := K.2.2
  have B1 := B.1
  have B2 := B.2.1
  have KE := pEn_b (t := t) K.2.1
  refine zwW_p [(1, 0, 2)] (q := 1) (ls' := [(2, 37), (9, 0)]) (st' := [(2, 37)]) (by decide +kernel) rfl ?_
  refine zwW_gs I (kd := 13) (bn := 42) (n := 97) (t := 0) (lo := 0) (hi := 400) (nx := 4) (by decide +kernel) ?_
  intro v1 ev1 lv1 uv1
  refine zwW_p [(1, 0, 2)] (q := 5) (ls' := [(2, 37), (9, 0)]) (st' := [(2, 37), (0, v1)]) (by decide +kernel) rfl ?_
  refine zwW_gs I (kd := 13) (bn := 41) (n := 97) (t := 0) (lo := 0) (hi := 400) (nx := 8) (by decide +kernel) ?_
  intro v2 ev2 lv2 uv2
  refine zwic_eq (q := 26) (nx := 11) (by decide +kernel) (fun c3 => ?_) (fun c3 => ?_)
  · refine zwW_p [(0, 0, 0)] (q := 27) (ls' := [(2, 37), (9, 0)]) (st' := [(0, 0)]) (by decide +kernel) rfl ?_
    refine zwW_ret (nx := 28) (a := 1) (b := 0) (by decide +kernel) rfl (Or.inr (Or.inl ⟨rfl, by omega⟩)) ?_
    exact ⟨I, R, Or.inr ⟨rfl, by intro z; have w := pK_dg.mp z; have y := pDig_t.mp w.2; omega⟩⟩
  · refine zwW_p [(1, 0, 2)] (q := 12) (ls' := [(2, 37), (9, 0)]) (st' := [(2, 37)]) (by decide +kernel) rfl ?_
    refine zwW_gc I (kd := 13) (bn := 40) (n := 97) (c := 98) (nx := 15) (by decide +kernel) ?_
    refine zwW_p [(1, 0, 2)] (q := 16) (ls' := [(2, 37), (9, 0)]) (st' := [(2, 37), (2, 98)]) (by decide +kernel) rfl ?_
    refine zwW_gs I (kd := 13) (bn := 42) (n := 97) (t := 0) (lo := 0) (hi := 400) (nx := 19) (by decide +kernel) ?_
    intro v4 ev4 lv4 uv4
    refine zwW_al I (a1 := 98) (a2 := 98) (kd := 21) (n := 400) (t := 0) (lo := -128) (hi := 127) (nx := 20) (by decide +kernel) ⟨by decide, by decide⟩ ⟨by omega, by omega⟩ ?_
    intro v5 ev5 lv5 uv5
    have E20 : v5 = t (p) := by rw [ev5]; refine Eq.trans ?_ (B.2.2 (p) (by omega)); first | rfl | (congr 1; omega)
    refine zwW_cs (k' := 245) (n := 1) (nx := 23) (as := [(0, v5)]) (st' := []) (by decide +kernel) rfl (m245 h v5) rfl ?_
    rintro x _ ⟨rfl, ⟨rfl, c6⟩ | ⟨rfl, c6⟩⟩
    · refine zwif_ne (q := 28) (nx := 26) (by decide +kernel) (fun c7 => ?_) (fun c7 => ?_)
      · have KD : pK t n p = 2 := pK_dg.mpr ⟨by omega, pDig_t.mpr (by omega)⟩
        have DG := mDg KD K.2.1
        refine zwW_p [(1, 0, 2), (0, 0, 0)] (q := 30) (ls' := [(2, 37), (9, 0)]) (st' := [(0, 0), (2, 37)]) (by decide +kernel) rfl ?_
        refine zwW_ps I (kd := 13) (bn := 46) (n := 97) (lo := -2147483648) (hi := 2147483647) (nx := 33) (by decide +kernel) ⟨by decide, by decide⟩ ?_
        intro h8 eh8 Ih8
        have th8_37_41 : fld h8 37 41 = fld h 37 41 := by rw [eh8]; exact fld_wr (by decide)
        have th8_37_42 : fld h8 37 42 = fld h 37 42 := by rw [eh8]; exact fld_wr (by decide)
        have th8_37_43 : fld h8 37 43 = fld h 37 43 := by rw [eh8]; exact fld_wr (by decide)
        have th8_37_46 : fld h8 37 46 = 0 := by rw [eh8]; exact fld_wr_eq (I.s (a1 := 37) (a2 := 37) (k := 13) (n := 97) (by decide +kernel) (by decide) (by decide)) (by decide)
        have Bh8 : vB t n h8 := B.fr (zMR.one (a1 := 37) (a2 := 37) (j1 := 46) (j2 := 47) ⟨by decide, by decide⟩ ⟨by decide, by decide⟩ eh8) (by decide +kernel)
        have Rh8 : zMR ms296_p h h8 := R.w (a1 := 37) (a2 := 37) (j1 := 46) (j2 := 47) (by decide +kernel) ⟨by decide, by decide⟩ ⟨by decide, by decide⟩ eh8
        refine zwW_p [(1, 0, 2)] (q := 34) (ls' := [(2, 37), (9, 0)]) (st' := [(2, 37)]) (by decide +kernel) rfl ?_
        refine zwW_gs Ih8 (kd := 13) (bn := 42) (n := 97) (t := 0) (lo := 0) (hi := 400) (nx := 37) (by decide +kernel) ?_
        intro v9 ev9 lv9 uv9
        refine zwW_p [(2, 1, 0)] (q := 38) (ls' := [(2, 37), (0, v9)]) (st' := []) (by decide +kernel) rfl ?_
        have L10 : ∀ (n0 : Nat) (kL10 : Int) (hL10 : Hp), n0 = ((1000 - kL10)).toNat → (vB t n hL10) → (p ≤ kL10 ∧ kL10 ≤ fld hL10 37 43 ∧ fld hL10 37 42 = p ∧ fld hL10 37 43 = fld h 37 43 ∧ 0 ≤ fld hL10 37 46 ∧ fld hL10 37 46 ≤ 999999) → (fld hL10 37 46 = mNu t ((kL10).toNat - p) p 0) → zI hL10 → zMR ms296_p h hL10 → zwW sc (1) 296 38 [(2, 37), (0, kL10)] [] hL10 (zwRt 0 (fun x g => zI g ∧ zMR ms296_p h g ∧ ((x = 1 ∧ (pK t n p = 2) ∧ (0 ≤ fld g 37 46 ∧ fld g 37 46 ≤ 999999 ∧ ((fld g 37 46 ≤ 9999 ∧ pV t n p = fld g 37 46) ∨ (9999 < fld g 37 46 ∧ pV t n p = 10000)))) ∨ (x = 0 ∧ (pK t n p ≠ 2))))) := by
          intro n0
          induction n0 using Nat.strongRecOn with
          | ind n0 IHL10 =>
            intro kL10 hL10 hnL10 iL10_0 iL10_1 iL10_2 IhL10 RhL10
            have BL := iL10_0.1
            refine zwW_p [(1, 1, 0), (1, 0, 2)] (q := 40) (ls' := [(2, 37), (0, kL10)]) (st' := [(2, 37), (0, kL10)]) (by decide +kernel) rfl ?_
            refine zwW_gs IhL10 (kd := 13) (bn := 43) (n := 97) (t := 0) (lo := 0) (hi := 400) (nx := 43) (by decide +kernel) ?_
            intro v11 ev11 lv11 uv11
            refine zwic_ge (q := 89) (nx := 46) (by decide +kernel) (fun c12 => ?_) (fun c12 => ?_)
            · refine zwW_p [(0, 1, 0)] (q := 90) (ls' := [(2, 37), (0, kL10)]) (st' := [(0, 1)]) (by decide +kernel) rfl ?_
              refine zwW_ret (nx := 91) (a := 1) (b := 0) (by decide +kernel) rfl (Or.inr (Or.inl ⟨rfl, by omega⟩)) ?_
              exact ⟨IhL10, RhL10, Or.inl ⟨rfl, by exact KD, by exact mVal KD K.2.1 (by rw [iL10_2, show (kL10).toNat - p = pEn t n p - p by omega])⟩⟩
            · refine zwW_p [(1, 0, 2), (1, 0, 2)] (q := 48) (ls' := [(2, 37), (0, kL10)]) (st' := [(2, 37), (2, 37)]) (by decide +kernel) rfl ?_
              refine zwW_gs IhL10 (kd := 13) (bn := 46) (n := 97) (t := 0) (lo := -2147483648) (hi := 2147483647) (nx := 51) (by decide +kernel) ?_
              intro v13 ev13 lv13 uv13
              refine zwW_p [(0, 99999, 0)] (q := 54) (ls' := [(2, 37), (0, kL10)]) (st' := [(0, 99999), (0, v13), (2, 37)]) (by decide +kernel) rfl ?_
              refine zwic_le (q := 63) (nx := 57) (by decide +kernel) (fun c14 => ?_) (fun c14 => ?_)
              · refine zwW_p [(0, 10, 0), (1, 0, 2)] (q := 66) (ls' := [(2, 37), (0, kL10)]) (st' := [(2, 37), (0, 10), (2, 37)]) (by decide +kernel) rfl ?_
                refine zwW_gs IhL10 (kd := 13) (bn := 46) (n := 97) (t := 0) (lo := -2147483648) (hi := 2147483647) (nx := 69) (by decide +kernel) ?_
                intro v15 ev15 lv15 uv15
                refine zwW_mul (nx := 70) (by decide +kernel) ⟨by omega, by omega⟩ ?_
                refine zwW_p [(1, 0, 2)] (q := 71) (ls' := [(2, 37), (0, kL10)]) (st' := [(2, 37), (0, (10 * v15)), (2, 37)]) (by decide +kernel) rfl ?_
                refine zwW_gc IhL10 (kd := 13) (bn := 40) (n := 97) (c := 98) (nx := 74) (by decide +kernel) ?_
                refine zwW_p [(1, 1, 0)] (q := 75) (ls' := [(2, 37), (0, kL10)]) (st' := [(0, kL10), (2, 98), (0, (10 * v15)), (2, 37)]) (by decide +kernel) rfl ?_
                refine zwW_al IhL10 (a1 := 98) (a2 := 98) (kd := 21) (n := 400) (t := 0) (lo := -128) (hi := 127) (nx := 76) (by decide +kernel) ⟨by decide, by decide⟩ ⟨by omega, by omega⟩ ?_
                intro v16 ev16 lv16 uv16
                have E76 : v16 = t ((kL10).toNat) := by rw [ev16]; refine Eq.trans ?_ (iL10_0.2.2 ((kL10).toNat) (by omega)); first | rfl | (congr 1; omega)
                have D76 := DG (kL10).toNat (by omega) (by omega)
                refine zwW_add (nx := 77) (by decide +kernel) ⟨by omega, by omega⟩ ?_
                refine zwW_p [(0, 48, 0)] (q := 79) (ls' := [(2, 37), (0, kL10)]) (st' := [(0, 48), (0, ((10 * v15) + v16)), (2, 37)]) (by decide +kernel) rfl ?_
                refine zwW_sub (nx := 80) (by decide +kernel) ⟨by omega, by omega⟩ ?_
                refine zwW_ps IhL10 (kd := 13) (bn := 46) (n := 97) (lo := -2147483648) (hi := 2147483647) (nx := 83) (by decide +kernel) ⟨by omega, by omega⟩ ?_
                intro h17 eh17 Ih17
                have th17_37_41 : fld h17 37 41 = fld hL10 37 41 := by rw [eh17]; exact fld_wr (by decide)
                have th17_37_42 : fld h17 37 42 = fld hL10 37 42 := by rw [eh17]; exact fld_wr (by decide)
                have th17_37_43 : fld h17 37 43 = fld hL10 37 43 := by rw [eh17]; exact fld_wr (by decide)
                have th17_37_46 : fld h17 37 46 = (((10 * v15) + v16) - 48) := by rw [eh17]; exact fld_wr_eq (IhL10.s (a1 := 37) (a2 := 37) (k := 13) (n := 97) (by decide +kernel) (by decide) (by decide)) (by decide)
                have Bh17 : vB t n h17 := iL10_0.fr (zMR.one (a1 := 37) (a2 := 37) (j1 := 46) (j2 := 47) ⟨by decide, by decide⟩ ⟨by decide, by decide⟩ eh17) (by decide +kernel)
                have Rh17 : zMR ms296_p h h17 := RhL10.w (a1 := 37) (a2 := 37) (j1 := 46) (j2 := 47) (by decide +kernel) ⟨by decide, by decide⟩ ⟨by decide, by decide⟩ eh17
                have VN : fld h17 37 46 = mNu t ((kL10).toNat + 1 - p) p 0 := by rw [show (kL10).toNat + 1 - p = ((kL10).toNat - p) + 1 by omega, mNu_s, ← iL10_2, show p + ((kL10).toNat - p) = (kL10).toNat by omega]; first | (rw [if_pos (by omega)]; omega) | (rw [if_neg (by omega)]; omega)
                refine zwW_inc (i := 1) (c := 1) (x := kL10) (nx := 86) (by decide +kernel) rfl ⟨by omega, by omega⟩ (ls' := [(2, 37), (0, (kL10 + 1))]) rfl ?_
                refine zwW_p [(24, 38, 0)] (q := 38) (ls' := [(2, 37), (0, (kL10 + 1))]) (st' := []) (by decide +kernel) rfl ?_
                exact IHL10 ((1000 - (kL10 + 1))).toNat (by omega) (kL10 + 1) h17 rfl (Bh17) (by omega) (by rw [show (kL10 + 1).toNat - p = (kL10).toNat + 1 - p by omega]; exact VN) Ih17 Rh17
              · refine zwW_p [(0, 999999, 0), (24, 80, 0)] (q := 80) (ls' := [(2, 37), (0, kL10)]) (st' := [(0, 999999), (2, 37)]) (by decide +kernel) rfl ?_
                refine zwW_ps IhL10 (kd := 13) (bn := 46) (n := 97) (lo := -2147483648) (hi := 2147483647) (nx := 83) (by decide +kernel) ⟨by decide, by decide⟩ ?_
                intro h18 eh18 Ih18
                have th18_37_41 : fld h18 37 41 = fld hL10 37 41 := by rw [eh18]; exact fld_wr (by decide)
                have th18_37_42 : fld h18 37 42 = fld hL10 37 42 := by rw [eh18]; exact fld_wr (by decide)
                have th18_37_43 : fld h18 37 43 = fld hL10 37 43 := by rw [eh18]; exact fld_wr (by decide)
                have th18_37_46 : fld h18 37 46 = 999999 := by rw [eh18]; exact fld_wr_eq (IhL10.s (a1 := 37) (a2 := 37) (k := 13) (n := 97) (by decide +kernel) (by decide) (by decide)) (by decide)
                have Bh18 : vB t n h18 := iL10_0.fr (zMR.one (a1 := 37) (a2 := 37) (j1 := 46) (j2 := 47) ⟨by decide, by decide⟩ ⟨by decide, by decide⟩ eh18) (by decide +kernel)
                have Rh18 : zMR ms296_p h h18 := RhL10.w (a1 := 37) (a2 := 37) (j1 := 46) (j2 := 47) (by decide +kernel) ⟨by decide, by decide⟩ ⟨by decide, by decide⟩ eh18
                have VN : fld h18 37 46 = mNu t ((kL10).toNat + 1 - p) p 0 := by rw [show (kL10).toNat + 1 - p = ((kL10).toNat - p) + 1 by omega, mNu_s, ← iL10_2, show p + ((kL10).toNat - p) = (kL10).toNat by omega]; first | (rw [if_pos (by omega)]; omega) | (rw [if_neg (by omega)]; omega)
                refine zwW_inc (i := 1) (c := 1) (x := kL10) (nx := 86) (by decide +kernel) rfl ⟨by omega, by omega⟩ (ls' := [(2, 37), (0, (kL10 + 1))]) rfl ?_
                refine zwW_p [(24, 38, 0)] (q := 38) (ls' := [(2, 37), (0, (kL10 + 1))]) (st' := []) (by decide +kernel) rfl ?_
                exact IHL10 ((1000 - (kL10 + 1))).toNat (by omega) (kL10 + 1) h18 rfl (Bh18) (by omega) (by rw [show (kL10 + 1).toNat - p = (kL10).toNat + 1 - p by omega]; exact VN) Ih18 Rh18
        exact L10 _ v9 h8 rfl (Bh8) (by omega) (mNu_0 (by omega) (by omega)) Ih8 Rh8
      · exfalso; omega
    · refine zwif_ne (q := 28) (nx := 26) (by decide +kernel) (fun c19 => ?_) (fun c19 => ?_)
      · exfalso; omega
      · refine zwW_p [(0, 0, 0)] (q := 27) (ls' := [(2, 37), (9, 0)]) (st' := [(0, 0)]) (by decide +kernel) rfl ?_
        refine zwW_ret (nx := 28) (a := 1) (b := 0) (by decide +kernel) rfl (Or.inr (Or.inl ⟨rfl, by omega⟩)) ?_
        exact ⟨I, R, Or.inr ⟨rfl, by intro z; have w := pK_dg.mp z; have y := pDig_t.mp w.2; omega⟩⟩
