/-! contracts of methods -/
def ms201 : Zms := [(37, 37, 42, 47), (37, 37, 47, 48), (149, 153, 0, 840), (163, 163, 0, 5)]
-- WheelLandModel.clauses()Z
theorem m201 {sc : List Int} (h : Hp) (I : zI h) (hP : zP0 h) (hR : zRD h) (pa : fld h 37 42 < fld h 37 41) (pf : fld h 37 44 = -1) : zwC sc 231 201 [(2, 37)] h (zwRt 0 (fun x g => zI g ∧ zMR ms201 h g ∧ (zP0 g) ∧ ((x = 1 ∧ (zRD g) ∧ (fld g 37 44 = -1) ∧ (fld h 37 42 < fld g 37 42)) ∨ (x = 0 ∧ (0 ≤ fld g 37 44))))) := by
  refine zwC_of (D := 230) 2 (by decide +kernel) rfl (ls := [(2, 37), (9, 0)]) rfl ?_
  have R : zMR ms201 h h := zMR.rf _ _
  have hP0 := hP
  unfold zP0 at hP0
  refine zwW_p [(1, 0, 2), (0, -1, 0)] (q := 2) (ls' := [(2, 37), (9, 0)]) (st' := [(0, -1), (2, 37)]) (by decide +kernel) rfl ?_
  refine zwW_ps I (kd := 13) (bn := 47) (n := 97) (lo := -1) (hi := 4) (nx := 5) (by decide +kernel) ⟨by decide, by decide⟩ ?_
  intro h1 eh1 Ih1
  have th1_37_41 : fld h1 37 41 = fld h 37 41 := by rw [eh1]; exact fld_wr (by decide)
  have th1_37_42 : fld h1 37 42 = fld h 37 42 := by rw [eh1]; exact fld_wr (by decide)
  have th1_37_43 : fld h1 37 43 = fld h 37 43 := by rw [eh1]; exact fld_wr (by decide)
  have th1_37_44 : fld h1 37 44 = fld h 37 44 := by rw [eh1]; exact fld_wr (by decide)
  have th1_37_45 : fld h1 37 45 = fld h 37 45 := by rw [eh1]; exact fld_wr (by decide)
  have th1_37_47 : fld h1 37 47 = -1 := by rw [eh1]; exact fld_wr_eq (I.s (a1 := 37) (a2 := 37) (k := 13) (n := 97) (by decide +kernel) (by decide) (by decide)) (by decide)
  have Oh1 : zMR [(37, 37, 47, 48)] h h1 := zMR.one ⟨by decide, by decide⟩ ⟨by decide, by decide⟩ eh1
  have Ph1 := hP.mr Oh1 (by decide +kernel)
  have zPh1 := Ph1; unfold zP0 at zPh1
  have RDh1 := hR.mr Oh1 (by decide +kernel)
  have Rh1 : zMR ms201 h h1 := R.w (a1 := 37) (a2 := 37) (j1 := 47) (j2 := 48) (by decide +kernel) ⟨by decide, by decide⟩ ⟨by decide, by decide⟩ eh1
  refine zwW_p [(0, 0, 0), (2, 1, 0)] (q := 7) (ls' := [(2, 37), (0, 0)]) (st' := []) (by decide +kernel) rfl ?_
  have L2 : ∀ (n : Nat) (kL2 : Int) (hL2 : Hp), n = ((1000 - kL2)).toNat → (0 ≤ kL2 ∧ kL2 ≤ 5) → (zP0 hL2) → (zRD hL2) → (fld hL2 37 41 = fld h 37 41 ∧ fld hL2 37 42 = fld h 37 42 ∧ fld hL2 37 43 = fld h 37 43 ∧ fld hL2 37 44 = fld h 37 44) → zI hL2 → zMR ms201 h hL2 → zwW sc (230) 201 7 [(2, 37), (0, kL2)] [] hL2 (zwRt 0 (fun x g => zI g ∧ zMR ms201 h g ∧ (zP0 g) ∧ ((x = 1 ∧ (zRD g) ∧ (fld g 37 44 = -1) ∧ (fld h 37 42 < fld g 37 42)) ∨ (x = 0 ∧ (0 ≤ fld g 37 44))))) := by
    intro n
    induction n using Nat.strongRecOn with
    | ind n IHL2 =>
      intro kL2 hL2 hnL2 iL2_0 iL2_1 iL2_2 iL2_3 IhL2 RhL2
      refine zwW_p [(1, 1, 0), (0, 5, 0)] (q := 9) (ls' := [(2, 37), (0, kL2)]) (st' := [(0, 5), (0, kL2)]) (by decide +kernel) rfl ?_
      refine zwic_ge (q := 36) (nx := 12) (by decide +kernel) (fun c3 => ?_) (fun c3 => ?_)
      · refine zwW_p [(1, 0, 2), (1, 0, 2)] (q := 38) (ls' := [(2, 37), (0, kL2)]) (st' := [(2, 37), (2, 37)]) (by decide +kernel) rfl ?_
        refine zwW_gs IhL2 (kd := 13) (bn := 47) (n := 97) (t := 0) (lo := -1) (hi := 4) (nx := 41) (by decide +kernel) ?_
        intro v4 ev4 lv4 uv4
        refine zwW_p [(0, -1, 0)] (q := 42) (ls' := [(2, 37), (0, kL2)]) (st' := [(0, -1), (0, v4), (2, 37)]) (by decide +kernel) rfl ?_
        refine zwic_eq (q := 64) (nx := 45) (by decide +kernel) (fun c5 => ?_) (fun c5 => ?_)
        · refine zwW_p [(0, 0, 0)] (q := 65) (ls' := [(2, 37), (0, kL2)]) (st' := [(0, 0), (2, 37)]) (by decide +kernel) rfl ?_
          refine zwW_cm IhL2 (op := 60) (k' := 247) (n := 1) (kd := 13) (m := 97) (nx := 68) (r := 37) (tl := [(0, 0)]) (st' := []) (by decide +kernel) rfl (by decide +kernel) rfl (m247 hL2 IhL2 0 iL2_1) ?_
          rintro x h6 ⟨Ih6, Qh6, ⟨rfl, f7, f8, f9, f10⟩ | ⟨rfl, f11, f12, f13⟩⟩
          · exfalso; omega
          · have Rh6 : zMR ms201 h h6 := RhL2.tr Qh6 (by decide +kernel)
            have zf12 := f12; unfold zP0 at zf12
            have RDh6 := iL2_2.mr Qh6 (by decide +kernel)
            have th6_37_41 : fld h6 37 41 = fld hL2 37 41 := Qh6.f (a1 := 37) (a2 := 37) (j1 := 41) (j2 := 42) (by decide +kernel) ⟨by decide, by decide⟩ ⟨by decide, by decide⟩
            have th6_37_45 : fld h6 37 45 = fld hL2 37 45 := Qh6.f (a1 := 37) (a2 := 37) (j1 := 45) (j2 := 46) (by decide +kernel) ⟨by decide, by decide⟩ ⟨by decide, by decide⟩
            have th6_37_47 : fld h6 37 47 = fld hL2 37 47 := Qh6.f (a1 := 37) (a2 := 37) (j1 := 47) (j2 := 48) (by decide +kernel) ⟨by decide, by decide⟩ ⟨by decide, by decide⟩
            refine zwif_ne (q := 73) (nx := 71) (by decide +kernel) (fun c14 => ?_) (fun c14 => ?_)
            · exfalso; omega
            · refine zwW_p [(0, 0, 0)] (q := 72) (ls' := [(2, 37), (0, kL2)]) (st' := [(0, 0)]) (by decide +kernel) rfl ?_
              refine zwW_ret (nx := 73) (a := 1) (b := 0) (by decide +kernel) rfl (Or.inr (Or.inl ⟨rfl, by omega⟩)) ?_
              exact ⟨Ih6, Rh6, by exact f12, Or.inr ⟨rfl, by omega⟩⟩
        · refine zwW_p [(1, 0, 2)] (q := 46) (ls' := [(2, 37), (0, kL2)]) (st' := [(2, 37), (2, 37)]) (by decide +kernel) rfl ?_
          refine zwW_gc IhL2 (kd := 13) (bn := 49) (n := 97) (c := 154) (nx := 49) (by decide +kernel) ?_
          refine zwW_p [(0, 8, 0)] (q := 51) (ls' := [(2, 37), (0, kL2)]) (st' := [(0, 8), (2, 154), (2, 37)]) (by decide +kernel) rfl ?_
          refine zwW_ro IhL2 (a := 154) (n := 9) (kd := 26) (base := 155) (step := 1) (nx := 52) (by decide +kernel) rfl ⟨by decide, by decide⟩ ?_
          rw [show ((155 : Nat) : Int) + ((1 : Nat) : Int) * 8 = 163 from rfl]
          refine zwW_p [(1, 0, 2)] (q := 53) (ls' := [(2, 37), (0, kL2)]) (st' := [(2, 37), (2, 163), (2, 37)]) (by decide +kernel) rfl ?_
          refine zwW_gs IhL2 (kd := 13) (bn := 47) (n := 97) (t := 0) (lo := -1) (hi := 4) (nx := 56) (by decide +kernel) ?_
          intro v15 ev15 lv15 uv15
          refine zwW_al IhL2 (a1 := 155) (a2 := 163) (kd := 20) (n := 5) (t := 0) (lo := 0) (hi := 400) (nx := 57) (by decide +kernel) ⟨by decide, by decide⟩ ⟨by omega, by omega⟩ ?_
          intro v16 ev16 lv16 uv16
          refine zwif_ne (q := 64) (nx := 60) (by decide +kernel) (fun c17 => ?_) (fun c17 => ?_)
          · refine zwW_p [(0, 0, 0)] (q := 65) (ls' := [(2, 37), (0, kL2)]) (st' := [(0, 0), (2, 37)]) (by decide +kernel) rfl ?_
            refine zwW_cm IhL2 (op := 60) (k' := 247) (n := 1) (kd := 13) (m := 97) (nx := 68) (r := 37) (tl := [(0, 0)]) (st' := []) (by decide +kernel) rfl (by decide +kernel) rfl (m247 hL2 IhL2 0 iL2_1) ?_
            rintro x h18 ⟨Ih18, Qh18, ⟨rfl, f19, f20, f21, f22⟩ | ⟨rfl, f23, f24, f25⟩⟩
            · exfalso; omega
            · have Rh18 : zMR ms201 h h18 := RhL2.tr Qh18 (by decide +kernel)
              have zf24 := f24; unfold zP0 at zf24
              have RDh18 := iL2_2.mr Qh18 (by decide +kernel)
              have th18_37_41 : fld h18 37 41 = fld hL2 37 41 := Qh18.f (a1 := 37) (a2 := 37) (j1 := 41) (j2 := 42) (by decide +kernel) ⟨by decide, by decide⟩ ⟨by decide, by decide⟩
              have th18_37_45 : fld h18 37 45 = fld hL2 37 45 := Qh18.f (a1 := 37) (a2 := 37) (j1 := 45) (j2 := 46) (by decide +kernel) ⟨by decide, by decide⟩ ⟨by decide, by decide⟩
              have th18_37_47 : fld h18 37 47 = fld hL2 37 47 := Qh18.f (a1 := 37) (a2 := 37) (j1 := 47) (j2 := 48) (by decide +kernel) ⟨by decide, by decide⟩ ⟨by decide, by decide⟩
              refine zwif_ne (q := 73) (nx := 71) (by decide +kernel) (fun c26 => ?_) (fun c26 => ?_)
              · exfalso; omega
              · refine zwW_p [(0, 0, 0)] (q := 72) (ls' := [(2, 37), (0, kL2)]) (st' := [(0, 0)]) (by decide +kernel) rfl ?_
                refine zwW_ret (nx := 73) (a := 1) (b := 0) (by decide +kernel) rfl (Or.inr (Or.inl ⟨rfl, by omega⟩)) ?_
                exact ⟨Ih18, Rh18, by exact f24, Or.inr ⟨rfl, by omega⟩⟩
          · refine zwW_p [(0, 1, 0), (24, 65, 0)] (q := 65) (ls' := [(2, 37), (0, kL2)]) (st' := [(0, 1), (2, 37)]) (by decide +kernel) rfl ?_
            refine zwW_cm IhL2 (op := 60) (k' := 247) (n := 1) (kd := 13) (m := 97) (nx := 68) (r := 37) (tl := [(0, 1)]) (st' := []) (by decide +kernel) rfl (by decide +kernel) rfl (m247 hL2 IhL2 1 iL2_1) ?_
            rintro x h27 ⟨Ih27, Qh27, ⟨rfl, f28, f29, f30, f31⟩ | ⟨rfl, f32, f33, f34⟩⟩
            · have Rh27 : zMR ms201 h h27 := RhL2.tr Qh27 (by decide +kernel)
              have zf29 := f29; unfold zP0 at zf29
              have RDh27 := iL2_2.mr Qh27 (by decide +kernel)
              have th27_37_41 : fld h27 37 41 = fld hL2 37 41 := Qh27.f (a1 := 37) (a2 := 37) (j1 := 41) (j2 := 42) (by decide +kernel) ⟨by decide, by decide⟩ ⟨by decide, by decide⟩
              have th27_37_45 : fld h27 37 45 = fld hL2 37 45 := Qh27.f (a1 := 37) (a2 := 37) (j1 := 45) (j2 := 46) (by decide +kernel) ⟨by decide, by decide⟩ ⟨by decide, by decide⟩
              have th27_37_47 : fld h27 37 47 = fld hL2 37 47 := Qh27.f (a1 := 37) (a2 := 37) (j1 := 47) (j2 := 48) (by decide +kernel) ⟨by decide, by decide⟩ ⟨by decide, by decide⟩
              refine zwif_ne (q := 73) (nx := 71) (by decide +kernel) (fun c35 => ?_) (fun c35 => ?_)
              · refine zwW_p [(1, 0, 2), (0, 0, 0)] (q := 75) (ls' := [(2, 37), (0, kL2)]) (st' := [(0, 0), (2, 37)]) (by decide +kernel) rfl ?_
                refine zwW_ps Ih27 (kd := 13) (bn := 45) (n := 97) (lo := 0) (hi := 400) (nx := 78) (by decide +kernel) ⟨by decide, by decide⟩ ?_
                intro h36 eh36 Ih36
                have th36_37_41 : fld h36 37 41 = fld h27 37 41 := by rw [eh36]; exact fld_wr (by decide)
                have th36_37_42 : fld h36 37 42 = fld h27 37 42 := by rw [eh36]; exact fld_wr (by decide)
                have th36_37_43 : fld h36 37 43 = fld h27 37 43 := by rw [eh36]; exact fld_wr (by decide)
                have th36_37_44 : fld h36 37 44 = fld h27 37 44 := by rw [eh36]; exact fld_wr (by decide)
                have th36_37_45 : fld h36 37 45 = 0 := by rw [eh36]; exact fld_wr_eq (Ih27.s (a1 := 37) (a2 := 37) (k := 13) (n := 97) (by decide +kernel) (by decide) (by decide)) (by decide)
                have th36_37_47 : fld h36 37 47 = fld h27 37 47 := by rw [eh36]; exact fld_wr (by decide)
                have Oh36 : zMR [(37, 37, 45, 46)] h27 h36 := zMR.one ⟨by decide, by decide⟩ ⟨by decide, by decide⟩ eh36
                have Ph36 := f29.mr Oh36 (by decide +kernel)
                have zPh36 := Ph36; unfold zP0 at zPh36
                have RDh36 := RDh27.mr Oh36 (by decide +kernel)
                have Rh36 : zMR ms201 h h36 := Rh27.w (a1 := 37) (a2 := 37) (j1 := 45) (j2 := 46) (by decide +kernel) ⟨by decide, by decide⟩ ⟨by decide, by decide⟩ eh36
                refine zwW_p [(1, 0, 2)] (q := 79) (ls' := [(2, 37), (0, kL2)]) (st' := [(2, 37)]) (by decide +kernel) rfl ?_
                refine zwW_gs Ih36 (kd := 13) (bn := 47) (n := 97) (t := 0) (lo := -1) (hi := 4) (nx := 82) (by decide +kernel) ?_
                intro v37 ev37 lv37 uv37
                refine zwW_p [(0, 3, 0)] (q := 83) (ls' := [(2, 37), (0, kL2)]) (st' := [(0, 3), (0, v37)]) (by decide +kernel) rfl ?_
                refine zwic_ge (q := 97) (nx := 86) (by decide +kernel) (fun c38 => ?_) (fun c38 => ?_)
                · refine zwW_p [(1, 0, 2), (0, 0, 0)] (q := 99) (ls' := [(2, 37), (0, kL2)]) (st' := [(0, 0), (2, 37)]) (by decide +kernel) rfl ?_
                  have RD4 := RDh36
                  have b42 := Ih36.b (a1 := 37) (a2 := 37) (j1 := 42) (j2 := 43) (lo := 0) (hi := 400) (by decide +kernel) (r := 37) (j := 42) (by decide) (by decide) (by decide) (by decide)
                  refine zwW_cm Ih36 (op := 60) (k' := 249) (n := 1) (kd := 13) (m := 97) (nx := 102) (r := 37) (tl := [(0, 0)]) (st' := []) (by decide +kernel) rfl (by decide +kernel) rfl (zg_either sc h36 Ih36 Ph36 (by omega) (by omega)) ?_
                  rintro x h39 ⟨Ih39, Qh39, f40, ⟨rfl, f41⟩ | ⟨rfl, f42⟩⟩
                  · have Rh39 : zMR ms201 h h39 := Rh36.tr Qh39 (by decide +kernel)
                    have zf40 := f40; unfold zP0 at zf40
                    have th39_37_41 : fld h39 37 41 = fld h36 37 41 := Qh39.f (a1 := 37) (a2 := 37) (j1 := 41) (j2 := 42) (by decide +kernel) ⟨by decide, by decide⟩ ⟨by decide, by decide⟩
                    have th39_37_47 : fld h39 37 47 = fld h36 37 47 := Qh39.f (a1 := 37) (a2 := 37) (j1 := 47) (j2 := 48) (by decide +kernel) ⟨by decide, by decide⟩ ⟨by decide, by decide⟩
                    have S88 := f41
                    have K88 := f41.k Qh39
                    have F88 : fld h39 163 = fld h36 163 := Qh39.fa (a := 163) (by decide +kernel) rfl
                    refine zwif_ne (q := 107) (nx := 105) (by decide +kernel) (fun c43 => ?_) (fun c43 => ?_)
                    · refine zwW_p [(1, 0, 2)] (q := 108) (ls' := [(2, 37), (0, kL2)]) (st' := [(2, 37)]) (by decide +kernel) rfl ?_
                      refine zwW_gc Ih39 (kd := 13) (bn := 49) (n := 97) (c := 154) (nx := 111) (by decide +kernel) ?_
                      refine zwW_p [(0, 8, 0)] (q := 113) (ls' := [(2, 37), (0, kL2)]) (st' := [(0, 8), (2, 154)]) (by decide +kernel) rfl ?_
                      refine zwW_ro Ih39 (a := 154) (n := 9) (kd := 26) (base := 155) (step := 1) (nx := 114) (by decide +kernel) rfl ⟨by decide, by decide⟩ ?_
                      rw [show ((155 : Nat) : Int) + ((1 : Nat) : Int) * 8 = 163 from rfl]
                      refine zwW_p [(1, 0, 2)] (q := 115) (ls' := [(2, 37), (0, kL2)]) (st' := [(2, 37), (2, 163)]) (by decide +kernel) rfl ?_
                      refine zwW_gs Ih39 (kd := 13) (bn := 47) (n := 97) (t := 0) (lo := -1) (hi := 4) (nx := 118) (by decide +kernel) ?_
                      intro v44 ev44 lv44 uv44
                      refine zwW_p [(1, 0, 2)] (q := 119) (ls' := [(2, 37), (0, kL2)]) (st' := [(2, 37), (0, v44), (2, 163)]) (by decide +kernel) rfl ?_
                      refine zwW_gs Ih39 (kd := 13) (bn := 45) (n := 97) (t := 0) (lo := 0) (hi := 400) (nx := 122) (by decide +kernel) ?_
                      intro v45 ev45 lv45 uv45
                      refine zwW_as Ih39 (a1 := 155) (a2 := 163) (n := 5) (lo := 0) (hi := 400) (nx := 123) (by decide +kernel) ⟨by decide, by decide⟩ ⟨by omega, by omega⟩ ⟨by omega, by omega⟩ ?_
                      intro h46 eh46 Ih46
                      have th46_37_41 : fld h46 37 41 = fld h39 37 41 := by rw [eh46]; exact fld_wr (by omega)
                      have th46_37_42 : fld h46 37 42 = fld h39 37 42 := by rw [eh46]; exact fld_wr (by omega)
                      have th46_37_43 : fld h46 37 43 = fld h39 37 43 := by rw [eh46]; exact fld_wr (by omega)
                      have th46_37_44 : fld h46 37 44 = fld h39 37 44 := by rw [eh46]; exact fld_wr (by omega)
                      have th46_37_45 : fld h46 37 45 = fld h39 37 45 := by rw [eh46]; exact fld_wr (by omega)
                      have th46_37_47 : fld h46 37 47 = fld h39 37 47 := by rw [eh46]; exact fld_wr (by omega)
                      have Oh46 : zMR [(163, 163, 0, 5)] h39 h46 := zMR.one ⟨by decide, by decide⟩ ⟨by omega, by omega⟩ eh46
                      have Ph46 := f40.mr Oh46 (by decide +kernel)
                      have zPh46 := Ph46; unfold zP0 at zPh46
                      have RDh46 : zRD h46 := RD4.put (c := v44) (k := v45) (by omega) (by omega) (by omega) (fun _ _ _ => rfl) F88 S88 (by omega) eh46 (Ih39.s (a1 := 155) (a2 := 163) (by decide +kernel) (by decide) (by decide))
                      have Rh46 : zMR ms201 h h46 := Rh39.w (a1 := 163) (a2 := 163) (j1 := 0) (j2 := 5) (by decide +kernel) ⟨by decide, by decide⟩ ⟨by omega, by omega⟩ eh46
                      refine zwW_p [(1, 0, 2), (1, 0, 2), (0, 59, 0)] (q := 127) (ls' := [(2, 37), (0, kL2)]) (st' := [(0, 59), (2, 37), (2, 37)]) (by decide +kernel) rfl ?_
                      refine zwW_cm Ih46 (op := 60) (k' := 250) (n := 1) (kd := 13) (m := 97) (nx := 130) (r := 37) (tl := [(0, 59)]) (st' := [(2, 37)]) (by decide +kernel) rfl (by decide +kernel) rfl (m250 h46 Ih46 59) ?_
                      rintro x _ ⟨rfl, ⟨rfl, c47⟩ | ⟨rfl, c47⟩⟩
                      · refine zwW_cm Ih46 (op := 60) (k' := 247) (n := 1) (kd := 13) (m := 97) (nx := 133) (r := 37) (tl := [(0, 1)]) (st' := []) (by decide +kernel) rfl (by decide +kernel) rfl (m247 h46 Ih46 1 Ph46) ?_
                        rintro x h48 ⟨Ih48, Qh48, ⟨rfl, f49, f50, f51, f52⟩ | ⟨rfl, f53, f54, f55⟩⟩
                        · have Rh48 : zMR ms201 h h48 := Rh46.tr Qh48 (by decide +kernel)
                          have zf50 := f50; unfold zP0 at zf50
                          have RDh48 := RDh46.mr Qh48 (by decide +kernel)
                          have th48_37_41 : fld h48 37 41 = fld h46 37 41 := Qh48.f (a1 := 37) (a2 := 37) (j1 := 41) (j2 := 42) (by decide +kernel) ⟨by decide, by decide⟩ ⟨by decide, by decide⟩
                          have th48_37_45 : fld h48 37 45 = fld h46 37 45 := Qh48.f (a1 := 37) (a2 := 37) (j1 := 45) (j2 := 46) (by decide +kernel) ⟨by decide, by decide⟩ ⟨by decide, by decide⟩
                          have th48_37_47 : fld h48 37 47 = fld h46 37 47 := Qh48.f (a1 := 37) (a2 := 37) (j1 := 47) (j2 := 48) (by decide +kernel) ⟨by decide, by decide⟩ ⟨by decide, by decide⟩
                          refine zwW_ret (nx := 134) (a := 1) (b := 0) (by decide +kernel) rfl (Or.inr (Or.inl ⟨rfl, by omega⟩)) ?_
                          exact ⟨Ih48, Rh48, by exact f50, Or.inl ⟨rfl, by exact RDh48, by omega, by omega⟩⟩
                        · exfalso; omega
                      · refine zwW_cm Ih46 (op := 60) (k' := 247) (n := 1) (kd := 13) (m := 97) (nx := 133) (r := 37) (tl := [(0, 0)]) (st' := []) (by decide +kernel) rfl (by decide +kernel) rfl (m247 h46 Ih46 0 Ph46) ?_
                        rintro x h56 ⟨Ih56, Qh56, ⟨rfl, f57, f58, f59, f60⟩ | ⟨rfl, f61, f62, f63⟩⟩
                        · exfalso; omega
                        · have Rh56 : zMR ms201 h h56 := Rh46.tr Qh56 (by decide +kernel)
                          have zf62 := f62; unfold zP0 at zf62
                          have RDh56 := RDh46.mr Qh56 (by decide +kernel)
                          have th56_37_41 : fld h56 37 41 = fld h46 37 41 := Qh56.f (a1 := 37) (a2 := 37) (j1 := 41) (j2 := 42) (by decide +kernel) ⟨by decide, by decide⟩ ⟨by decide, by decide⟩
                          have th56_37_45 : fld h56 37 45 = fld h46 37 45 := Qh56.f (a1 := 37) (a2 := 37) (j1 := 45) (j2 := 46) (by decide +kernel) ⟨by decide, by decide⟩ ⟨by decide, by decide⟩
                          have th56_37_47 : fld h56 37 47 = fld h46 37 47 := Qh56.f (a1 := 37) (a2 := 37) (j1 := 47) (j2 := 48) (by decide +kernel) ⟨by decide, by decide⟩ ⟨by decide, by decide⟩
                          refine zwW_ret (nx := 134) (a := 1) (b := 0) (by decide +kernel) rfl (Or.inr (Or.inl ⟨rfl, by omega⟩)) ?_
                          exact ⟨Ih56, Rh56, by exact f62, Or.inr ⟨rfl, by omega⟩⟩
                    · exfalso; omega
                  · have Rh39 : zMR ms201 h h39 := Rh36.tr Qh39 (by decide +kernel)
                    have zf40 := f40; unfold zP0 at zf40
                    have th39_37_41 : fld h39 37 41 = fld h36 37 41 := Qh39.f (a1 := 37) (a2 := 37) (j1 := 41) (j2 := 42) (by decide +kernel) ⟨by decide, by decide⟩ ⟨by decide, by decide⟩
                    have th39_37_47 : fld h39 37 47 = fld h36 37 47 := Qh39.f (a1 := 37) (a2 := 37) (j1 := 47) (j2 := 48) (by decide +kernel) ⟨by decide, by decide⟩ ⟨by decide, by decide⟩
                    refine zwif_ne (q := 107) (nx := 105) (by decide +kernel) (fun c64 => ?_) (fun c64 => ?_)
                    · exfalso; omega
                    · refine zwW_p [(0, 0, 0)] (q := 106) (ls' := [(2, 37), (0, kL2)]) (st' := [(0, 0)]) (by decide +kernel) rfl ?_
                      refine zwW_ret (nx := 107) (a := 1) (b := 0) (by decide +kernel) rfl (Or.inr (Or.inl ⟨rfl, by omega⟩)) ?_
                      exact ⟨Ih39, Rh39, by exact f40, Or.inr ⟨rfl, by omega⟩⟩
                · refine zwW_p [(1, 0, 2), (0, 0, 0)] (q := 88) (ls' := [(2, 37), (0, kL2)]) (st' := [(0, 0), (2, 37)]) (by decide +kernel) rfl ?_
                  have RD4 := RDh36
                  have b42 := Ih36.b (a1 := 37) (a2 := 37) (j1 := 42) (j2 := 43) (lo := 0) (hi := 400) (by decide +kernel) (r := 37) (j := 42) (by decide) (by decide) (by decide) (by decide)
                  refine zwW_cm Ih36 (op := 60) (k' := 248) (n := 1) (kd := 13) (m := 97) (nx := 91) (r := 37) (tl := [(0, 0)]) (st' := []) (by decide +kernel) rfl (by decide +kernel) rfl (zg_sum sc h36 Ih36 Ph36 (by omega) (by omega)) ?_
                  rintro x h65 ⟨Ih65, Qh65, f66, ⟨rfl, f67⟩ | ⟨rfl, f68⟩⟩
                  · have Rh65 : zMR ms201 h h65 := Rh36.tr Qh65 (by decide +kernel)
                    have zf66 := f66; unfold zP0 at zf66
                    have th65_37_41 : fld h65 37 41 = fld h36 37 41 := Qh65.f (a1 := 37) (a2 := 37) (j1 := 41) (j2 := 42) (by decide +kernel) ⟨by decide, by decide⟩ ⟨by decide, by decide⟩
                    have th65_37_47 : fld h65 37 47 = fld h36 37 47 := Qh65.f (a1 := 37) (a2 := 37) (j1 := 47) (j2 := 48) (by decide +kernel) ⟨by decide, by decide⟩ ⟨by decide, by decide⟩
                    have S88 := f67
                    have K88 := f67.k Qh65
                    have F88 : fld h65 163 = fld h36 163 := Qh65.fa (a := 163) (by decide +kernel) rfl
                    refine zwif_ne (q := 107) (nx := 94) (by decide +kernel) (fun c69 => ?_) (fun c69 => ?_)
                    · refine zwW_p [(1, 0, 2)] (q := 108) (ls' := [(2, 37), (0, kL2)]) (st' := [(2, 37)]) (by decide +kernel) rfl ?_
                      refine zwW_gc Ih65 (kd := 13) (bn := 49) (n := 97) (c := 154) (nx := 111) (by decide +kernel) ?_
                      refine zwW_p [(0, 8, 0)] (q := 113) (ls' := [(2, 37), (0, kL2)]) (st' := [(0, 8), (2, 154)]) (by decide +kernel) rfl ?_
                      refine zwW_ro Ih65 (a := 154) (n := 9) (kd := 26) (base := 155) (step := 1) (nx := 114) (by decide +kernel) rfl ⟨by decide, by decide⟩ ?_
                      rw [show ((155 : Nat) : Int) + ((1 : Nat) : Int) * 8 = 163 from rfl]
                      refine zwW_p [(1, 0, 2)] (q := 115) (ls' := [(2, 37), (0, kL2)]) (st' := [(2, 37), (2, 163)]) (by decide +kernel) rfl ?_
                      refine zwW_gs Ih65 (kd := 13) (bn := 47) (n := 97) (t := 0) (lo := -1) (hi := 4) (nx := 118) (by decide +kernel) ?_
                      intro v70 ev70 lv70 uv70
                      refine zwW_p [(1, 0, 2)] (q := 119) (ls' := [(2, 37), (0, kL2)]) (st' := [(2, 37), (0, v70), (2, 163)]) (by decide +kernel) rfl ?_
                      refine zwW_gs Ih65 (kd := 13) (bn := 45) (n := 97) (t := 0) (lo := 0) (hi := 400) (nx := 122) (by decide +kernel) ?_
                      intro v71 ev71 lv71 uv71
                      refine zwW_as Ih65 (a1 := 155) (a2 := 163) (n := 5) (lo := 0) (hi := 400) (nx := 123) (by decide +kernel) ⟨by decide, by decide⟩ ⟨by omega, by omega⟩ ⟨by omega, by omega⟩ ?_
                      intro h72 eh72 Ih72
                      have th72_37_41 : fld h72 37 41 = fld h65 37 41 := by rw [eh72]; exact fld_wr (by omega)
                      have th72_37_42 : fld h72 37 42 = fld h65 37 42 := by rw [eh72]; exact fld_wr (by omega)
                      have th72_37_43 : fld h72 37 43 = fld h65 37 43 := by rw [eh72]; exact fld_wr (by omega)
                      have th72_37_44 : fld h72 37 44 = fld h65 37 44 := by rw [eh72]; exact fld_wr (by omega)
                      have th72_37_45 : fld h72 37 45 = fld h65 37 45 := by rw [eh72]; exact fld_wr (by omega)
                      have th72_37_47 : fld h72 37 47 = fld h65 37 47 := by rw [eh72]; exact fld_wr (by omega)
                      have Oh72 : zMR [(163, 163, 0, 5)] h65 h72 := zMR.one ⟨by decide, by decide⟩ ⟨by omega, by omega⟩ eh72
                      have Ph72 := f66.mr Oh72 (by decide +kernel)
                      have zPh72 := Ph72; unfold zP0 at zPh72
                      have RDh72 : zRD h72 := RD4.put (c := v70) (k := v71) (by omega) (by omega) (by omega) (fun _ _ _ => rfl) F88 S88 (by omega) eh72 (Ih65.s (a1 := 155) (a2 := 163) (by decide +kernel) (by decide) (by decide))
                      have Rh72 : zMR ms201 h h72 := Rh65.w (a1 := 163) (a2 := 163) (j1 := 0) (j2 := 5) (by decide +kernel) ⟨by decide, by decide⟩ ⟨by omega, by omega⟩ eh72
                      refine zwW_p [(1, 0, 2), (1, 0, 2), (0, 59, 0)] (q := 127) (ls' := [(2, 37), (0, kL2)]) (st' := [(0, 59), (2, 37), (2, 37)]) (by decide +kernel) rfl ?_
                      refine zwW_cm Ih72 (op := 60) (k' := 250) (n := 1) (kd := 13) (m := 97) (nx := 130) (r := 37) (tl := [(0, 59)]) (st' := [(2, 37)]) (by decide +kernel) rfl (by decide +kernel) rfl (m250 h72 Ih72 59) ?_
                      rintro x _ ⟨rfl, ⟨rfl, c73⟩ | ⟨rfl, c73⟩⟩
                      · refine zwW_cm Ih72 (op := 60) (k' := 247) (n := 1) (kd := 13) (m := 97) (nx := 133) (r := 37) (tl := [(0, 1)]) (st' := []) (by decide +kernel) rfl (by decide +kernel) rfl (m247 h72 Ih72 1 Ph72) ?_
                        rintro x h74 ⟨Ih74, Qh74, ⟨rfl, f75, f76, f77, f78⟩ | ⟨rfl, f79, f80, f81⟩⟩
                        · have Rh74 : zMR ms201 h h74 := Rh72.tr Qh74 (by decide +kernel)
                          have zf76 := f76; unfold zP0 at zf76
                          have RDh74 := RDh72.mr Qh74 (by decide +kernel)
                          have th74_37_41 : fld h74 37 41 = fld h72 37 41 := Qh74.f (a1 := 37) (a2 := 37) (j1 := 41) (j2 := 42) (by decide +kernel) ⟨by decide, by decide⟩ ⟨by decide, by decide⟩
                          have th74_37_45 : fld h74 37 45 = fld h72 37 45 := Qh74.f (a1 := 37) (a2 := 37) (j1 := 45) (j2 := 46) (by decide +kernel) ⟨by decide, by decide⟩ ⟨by decide, by decide⟩
                          have th74_37_47 : fld h74 37 47 = fld h72 37 47 := Qh74.f (a1 := 37) (a2 := 37) (j1 := 47) (j2 := 48) (by decide +kernel) ⟨by decide, by decide⟩ ⟨by decide, by decide⟩
                          refine zwW_ret (nx := 134) (a := 1) (b := 0) (by decide +kernel) rfl (Or.inr (Or.inl ⟨rfl, by omega⟩)) ?_
                          exact ⟨Ih74, Rh74, by exact f76, Or.inl ⟨rfl, by exact RDh74, by omega, by omega⟩⟩
                        · exfalso; omega
                      · refine zwW_cm Ih72 (op := 60) (k' := 247) (n := 1) (kd := 13) (m := 97) (nx := 133) (r := 37) (tl := [(0, 0)]) (st' := []) (by decide +kernel) rfl (by decide +kernel) rfl (m247 h72 Ih72 0 Ph72) ?_
                        rintro x h82 ⟨Ih82, Qh82, ⟨rfl, f83, f84, f85, f86⟩ | ⟨rfl, f87, f88, f89⟩⟩
                        · exfalso; omega
                        · have Rh82 : zMR ms201 h h82 := Rh72.tr Qh82 (by decide +kernel)
                          have zf88 := f88; unfold zP0 at zf88
                          have RDh82 := RDh72.mr Qh82 (by decide +kernel)
                          have th82_37_41 : fld h82 37 41 = fld h72 37 41 := Qh82.f (a1 := 37) (a2 := 37) (j1 := 41) (j2 := 42) (by decide +kernel) ⟨by decide, by decide⟩ ⟨by decide, by decide⟩
                          have th82_37_45 : fld h82 37 45 = fld h72 37 45 := Qh82.f (a1 := 37) (a2 := 37) (j1 := 45) (j2 := 46) (by decide +kernel) ⟨by decide, by decide⟩ ⟨by decide, by decide⟩
                          have th82_37_47 : fld h82 37 47 = fld h72 37 47 := Qh82.f (a1 := 37) (a2 := 37) (j1 := 47) (j2 := 48) (by decide +kernel) ⟨by decide, by decide⟩ ⟨by decide, by decide⟩
                          refine zwW_ret (nx := 134) (a := 1) (b := 0) (by decide +kernel) rfl (Or.inr (Or.inl ⟨rfl, by omega⟩)) ?_
                          exact ⟨Ih82, Rh82, by exact f88, Or.inr ⟨rfl, by omega⟩⟩
                    · exfalso; omega
                  · have Rh65 : zMR ms201 h h65 := Rh36.tr Qh65 (by decide +kernel)
                    have zf66 := f66; unfold zP0 at zf66
                    have th65_37_41 : fld h65 37 41 = fld h36 37 41 := Qh65.f (a1 := 37) (a2 := 37) (j1 := 41) (j2 := 42) (by decide +kernel) ⟨by decide, by decide⟩ ⟨by decide, by decide⟩
                    have th65_37_47 : fld h65 37 47 = fld h36 37 47 := Qh65.f (a1 := 37) (a2 := 37) (j1 := 47) (j2 := 48) (by decide +kernel) ⟨by decide, by decide⟩ ⟨by decide, by decide⟩
                    refine zwif_ne (q := 107) (nx := 94) (by decide +kernel) (fun c90 => ?_) (fun c90 => ?_)
                    · exfalso; omega
                    · refine zwW_p [(24, 105, 0), (0, 0, 0)] (q := 106) (ls' := [(2, 37), (0, kL2)]) (st' := [(0, 0)]) (by decide +kernel) rfl ?_
                      refine zwW_ret (nx := 107) (a := 1) (b := 0) (by decide +kernel) rfl (Or.inr (Or.inl ⟨rfl, by omega⟩)) ?_
                      exact ⟨Ih65, Rh65, by exact f66, Or.inr ⟨rfl, by omega⟩⟩
              · exfalso; omega
            · exfalso; omega
      · refine zwW_p [(1, 0, 2), (1, 0, 2)] (q := 14) (ls' := [(2, 37), (0, kL2)]) (st' := [(2, 37), (2, 37)]) (by decide +kernel) rfl ?_
        refine zwW_gc IhL2 (kd := 13) (bn := 54) (n := 97) (c := 166) (nx := 17) (by decide +kernel) ?_
        refine zwW_p [(1, 1, 0)] (q := 18) (ls' := [(2, 37), (0, kL2)]) (st' := [(0, kL2), (2, 166), (2, 37)]) (by decide +kernel) rfl ?_
        refine zwW_wd5 IhL2 (nx := 19) (by decide +kernel) ⟨by omega, by omega⟩ ?_
        refine zwW_cm IhL2 (op := 60) (k' := 246) (n := 1) (kd := 13) (m := 97) (nx := 22) (r := 37) (tl := [(2, (-12 - kL2))]) (st' := []) (by decide +kernel) rfl (by decide +kernel) rfl (m246 hL2 IhL2 (-12 - kL2) (by omega) iL2_1) ?_
        rintro x _ ⟨rfl, ⟨rfl, c91⟩ | ⟨rfl, c91⟩⟩
        · refine zwif_eq (q := 30) (nx := 25) (by decide +kernel) (fun c92 => ?_) (fun c92 => ?_)
          · exfalso; omega
          · refine zwW_p [(1, 0, 2), (1, 1, 0)] (q := 27) (ls' := [(2, 37), (0, kL2)]) (st' := [(0, kL2), (2, 37)]) (by decide +kernel) rfl ?_
            refine zwW_ps IhL2 (kd := 13) (bn := 47) (n := 97) (lo := -1) (hi := 4) (nx := 30) (by decide +kernel) ⟨by omega, by omega⟩ ?_
            intro h93 eh93 Ih93
            have th93_37_41 : fld h93 37 41 = fld hL2 37 41 := by rw [eh93]; exact fld_wr (by decide)
            have th93_37_42 : fld h93 37 42 = fld hL2 37 42 := by rw [eh93]; exact fld_wr (by decide)
            have th93_37_43 : fld h93 37 43 = fld hL2 37 43 := by rw [eh93]; exact fld_wr (by decide)
            have th93_37_44 : fld h93 37 44 = fld hL2 37 44 := by rw [eh93]; exact fld_wr (by decide)
            have th93_37_45 : fld h93 37 45 = fld hL2 37 45 := by rw [eh93]; exact fld_wr (by decide)
            have th93_37_47 : fld h93 37 47 = kL2 := by rw [eh93]; exact fld_wr_eq (IhL2.s (a1 := 37) (a2 := 37) (k := 13) (n := 97) (by decide +kernel) (by decide) (by decide)) (by decide)
            have Oh93 : zMR [(37, 37, 47, 48)] hL2 h93 := zMR.one ⟨by decide, by decide⟩ ⟨by decide, by decide⟩ eh93
            have Ph93 := iL2_1.mr Oh93 (by decide +kernel)
            have zPh93 := Ph93; unfold zP0 at zPh93
            have RDh93 := iL2_2.mr Oh93 (by decide +kernel)
            have Rh93 : zMR ms201 h h93 := RhL2.w (a1 := 37) (a2 := 37) (j1 := 47) (j2 := 48) (by decide +kernel) ⟨by decide, by decide⟩ ⟨by decide, by decide⟩ eh93
            refine zwW_inc (i := 1) (c := 1) (x := kL2) (nx := 33) (by decide +kernel) rfl ⟨by omega, by omega⟩ (ls' := [(2, 37), (0, (kL2 + 1))]) rfl ?_
            refine zwW_p [(24, 7, 0)] (q := 7) (ls' := [(2, 37), (0, (kL2 + 1))]) (st' := []) (by decide +kernel) rfl ?_
            exact IHL2 ((1000 - (kL2 + 1))).toNat (by omega) (kL2 + 1) h93 rfl (by omega) (Ph93) (RDh93) (by omega) Ih93 Rh93
        · refine zwif_eq (q := 30) (nx := 25) (by decide +kernel) (fun c94 => ?_) (fun c94 => ?_)
          · refine zwW_inc (i := 1) (c := 1) (x := kL2) (nx := 33) (by decide +kernel) rfl ⟨by omega, by omega⟩ (ls' := [(2, 37), (0, (kL2 + 1))]) rfl ?_
            refine zwW_p [(24, 7, 0)] (q := 7) (ls' := [(2, 37), (0, (kL2 + 1))]) (st' := []) (by decide +kernel) rfl ?_
            exact IHL2 ((1000 - (kL2 + 1))).toNat (by omega) (kL2 + 1) hL2 rfl (by omega) (iL2_1) (iL2_2) (by omega) IhL2 RhL2
          · exfalso; omega
  exact L2 _ 0 h1 rfl (by omega) (Ph1) (RDh1) (by omega) Ih1 Rh1
def ms121 : Zms := [(37, 37, 42, 47), (37, 37, 47, 48), (149, 153, 0, 840), (163, 163, 0, 5)]
-- WheelLandModel.reads()V
theorem m121 {sc : List Int} (h : Hp) (I : zI h) : zwC sc 232 121 [(2, 37)] h (zwRv (fun g => zI g ∧ zMR ms121 h g ∧ (zP0 g) ∧ (fld g 37 44 = -1 → zRD g))) := by
  refine zwC_of (D := 231) 2 (by decide +kernel) rfl (ls := [(2, 37), (9, 0)]) rfl ?_
  have R : zMR ms121 h h := zMR.rf _ _
  refine zwW_p [(1, 0, 2), (0, -1, 0)] (q := 2) (ls' := [(2, 37), (9, 0)]) (st' := [(0, -1), (2, 37)]) (by decide +kernel) rfl ?_
  refine zwW_ps I (kd := 13) (bn := 44) (n := 97) (lo := -1) (hi := 400) (nx := 5) (by decide +kernel) ⟨by decide, by decide⟩ ?_
  intro h1 eh1 Ih1
  have th1_37_41 : fld h1 37 41 = fld h 37 41 := by rw [eh1]; exact fld_wr (by decide)
  have th1_37_42 : fld h1 37 42 = fld h 37 42 := by rw [eh1]; exact fld_wr (by decide)
  have th1_37_44 : fld h1 37 44 = -1 := by rw [eh1]; exact fld_wr_eq (I.s (a1 := 37) (a2 := 37) (k := 13) (n := 97) (by decide +kernel) (by decide) (by decide)) (by decide)
  have Oh1 : zMR [(37, 37, 44, 45)] h h1 := zMR.one ⟨by decide, by decide⟩ ⟨by decide, by decide⟩ eh1
  have Rh1 : zMR ms121 h h1 := R.w (a1 := 37) (a2 := 37) (j1 := 44) (j2 := 45) (by decide +kernel) ⟨by decide, by decide⟩ ⟨by decide, by decide⟩ eh1
  refine zwW_p [(0, 0, 0), (2, 1, 0)] (q := 7) (ls' := [(2, 37), (0, 0)]) (st' := []) (by decide +kernel) rfl ?_
  have L2 : ∀ (n : Nat) (kL2 : Int) (hL2 : Hp), n = ((1000 - kL2)).toNat → (0 ≤ kL2 ∧ kL2 ≤ 5) → (∀ c : Nat, (c : Int) < kL2 → fld hL2 163 c = 0) → (fld hL2 37 44 = -1 ∧ fld hL2 37 41 = fld h 37 41) → zI hL2 → zMR ms121 h hL2 → zwW sc (231) 121 7 [(2, 37), (0, kL2)] [] hL2 (zwRv (fun g => zI g ∧ zMR ms121 h g ∧ (zP0 g) ∧ (fld g 37 44 = -1 → zRD g))) := by
    intro n
    induction n using Nat.strongRecOn with
    | ind n IHL2 =>
      intro kL2 hL2 hnL2 iL2_0 iL2_1 iL2_2 IhL2 RhL2
      refine zwW_p [(1, 1, 0), (0, 5, 0)] (q := 9) (ls' := [(2, 37), (0, kL2)]) (st' := [(0, 5), (0, kL2)]) (by decide +kernel) rfl ?_
      refine zwic_ge (q := 28) (nx := 12) (by decide +kernel) (fun c3 => ?_) (fun c3 => ?_)
      · have RD28 : zRD hL2 := fun c hc hp => absurd (iL2_1 c (by omega)) (by omega)
        refine zwW_p [(1, 0, 2), (0, 0, 0)] (q := 30) (ls' := [(2, 37), (0, kL2)]) (st' := [(0, 0), (2, 37)]) (by decide +kernel) rfl ?_
        refine zwW_ps IhL2 (kd := 13) (bn := 42) (n := 97) (lo := 0) (hi := 400) (nx := 33) (by decide +kernel) ⟨by decide, by decide⟩ ?_
        intro h4 eh4 Ih4
        have th4_37_41 : fld h4 37 41 = fld hL2 37 41 := by rw [eh4]; exact fld_wr (by decide)
        have th4_37_42 : fld h4 37 42 = 0 := by rw [eh4]; exact fld_wr_eq (IhL2.s (a1 := 37) (a2 := 37) (k := 13) (n := 97) (by decide +kernel) (by decide) (by decide)) (by decide)
        have th4_37_44 : fld h4 37 44 = fld hL2 37 44 := by rw [eh4]; exact fld_wr (by decide)
        have Oh4 : zMR [(37, 37, 42, 43)] hL2 h4 := zMR.one ⟨by decide, by decide⟩ ⟨by decide, by decide⟩ eh4
        have RDh4 := RD28.mr Oh4 (by decide +kernel)
        have Rh4 : zMR ms121 h h4 := RhL2.w (a1 := 37) (a2 := 37) (j1 := 42) (j2 := 43) (by decide +kernel) ⟨by decide, by decide⟩ ⟨by decide, by decide⟩ eh4
        refine zwW_p [(1, 0, 2)] (q := 34) (ls' := [(2, 37), (0, kL2)]) (st' := [(2, 37)]) (by decide +kernel) rfl ?_
        have b41 := Ih4.b (a1 := 37) (a2 := 37) (j1 := 41) (j2 := 42) (lo := 0) (hi := 400) (by decide +kernel) (r := 37) (j := 41) (by decide) (by decide) (by decide) (by decide)
        refine zwW_cmv Ih4 (op := 60) (k' := 200) (n := 0) (kd := 13) (m := 97) (nx := 37) (r := 37) (tl := []) (st' := []) (by decide +kernel) rfl (by decide +kernel) rfl (m200 h4 Ih4 (by omega)) ?_
        rintro h7 ⟨Ih7, Qh7, f5, f6⟩
        have Rh7 : zMR ms121 h h7 := Rh4.tr Qh7 (by decide +kernel)
        have zf6 := f6; unfold zP0 at zf6
        have RDh7 := RDh4.mr Qh7 (by decide +kernel)
        have th7_37_41 : fld h7 37 41 = fld h4 37 41 := Qh7.f (a1 := 37) (a2 := 37) (j1 := 41) (j2 := 42) (by decide +kernel) ⟨by decide, by decide⟩ ⟨by decide, by decide⟩
        have th7_37_44 : fld h7 37 44 = fld h4 37 44 := Qh7.f (a1 := 37) (a2 := 37) (j1 := 44) (j2 := 45) (by decide +kernel) ⟨by decide, by decide⟩ ⟨by decide, by decide⟩
        refine zwW_p [(0, 1, 0), (2, 1, 0)] (q := 39) (ls' := [(2, 37), (0, 1)]) (st' := []) (by decide +kernel) rfl ?_
        have L8 : ∀ (n : Nat) (hL8 : Hp), n = (fld hL8 37 41 - fld hL8 37 42).toNat → (zP0 hL8) → (zRD hL8) → (fld hL8 37 44 = -1) → (fld hL8 37 41 = fld h 37 41) → zI hL8 → zMR ms121 h hL8 → zwW sc (231) 121 39 [(2, 37), (0, 1)] [] hL8 (zwRv (fun g => zI g ∧ zMR ms121 h g ∧ (zP0 g) ∧ (fld g 37 44 = -1 → zRD g))) := by
          intro n
          induction n using Nat.strongRecOn with
          | ind n IHL8 =>
            intro hL8 hnL8 iL8_0 iL8_1 iL8_2 iL8_3 IhL8 RhL8
            refine zwW_p [(1, 1, 0)] (q := 40) (ls' := [(2, 37), (0, 1)]) (st' := [(0, 1)]) (by decide +kernel) rfl ?_
            refine zwif_eq (q := 62) (nx := 43) (by decide +kernel) (fun c9 => ?_) (fun c9 => ?_)
            · exfalso; omega
            · refine zwW_p [(1, 0, 2)] (q := 44) (ls' := [(2, 37), (0, 1)]) (st' := [(2, 37)]) (by decide +kernel) rfl ?_
              refine zwW_gs IhL8 (kd := 13) (bn := 42) (n := 97) (t := 0) (lo := 0) (hi := 400) (nx := 47) (by decide +kernel) ?_
              intro v10 ev10 lv10 uv10
              refine zwW_p [(1, 0, 2)] (q := 48) (ls' := [(2, 37), (0, 1)]) (st' := [(2, 37), (0, v10)]) (by decide +kernel) rfl ?_
              refine zwW_gs IhL8 (kd := 13) (bn := 41) (n := 97) (t := 0) (lo := 0) (hi := 400) (nx := 51) (by decide +kernel) ?_
              intro v11 ev11 lv11 uv11
              refine zwic_ge (q := 62) (nx := 54) (by decide +kernel) (fun c12 => ?_) (fun c12 => ?_)
              · refine zwW_retv (nx := 63) (a := 0) (b := 0) (by decide +kernel) ?_
                exact ⟨IhL8, RhL8, by exact iL8_0, by first | exact fun _ => iL8_1 | exact fun hq => (by omega)⟩
              · refine zwW_p [(1, 0, 2)] (q := 55) (ls' := [(2, 37), (0, 1)]) (st' := [(2, 37)]) (by decide +kernel) rfl ?_
                refine zwW_cm IhL8 (op := 60) (k' := 201) (n := 0) (kd := 13) (m := 97) (nx := 58) (r := 37) (tl := []) (st' := []) (by decide +kernel) rfl (by decide +kernel) rfl (m201 hL8 IhL8 iL8_0 iL8_1 (by omega) (by omega)) ?_
                rintro x h13 ⟨Ih13, Qh13, f14, ⟨rfl, f15, f16, f17⟩ | ⟨rfl, f18⟩⟩
                · have Rh13 : zMR ms121 h h13 := RhL8.tr Qh13 (by decide +kernel)
                  have zf14 := f14; unfold zP0 at zf14
                  have th13_37_41 : fld h13 37 41 = fld hL8 37 41 := Qh13.f (a1 := 37) (a2 := 37) (j1 := 41) (j2 := 42) (by decide +kernel) ⟨by decide, by decide⟩ ⟨by decide, by decide⟩
                  refine zwW_p [(2, 1, 0), (24, 39, 0)] (q := 39) (ls' := [(2, 37), (0, 1)]) (st' := []) (by decide +kernel) rfl ?_
                  exact IHL8 (fld h13 37 41 - fld h13 37 42).toNat (by omega) h13 rfl (f14) (f15) (by omega) (by omega) Ih13 Rh13
                · have Rh13 : zMR ms121 h h13 := RhL8.tr Qh13 (by decide +kernel)
                  have zf14 := f14; unfold zP0 at zf14
                  have th13_37_41 : fld h13 37 41 = fld hL8 37 41 := Qh13.f (a1 := 37) (a2 := 37) (j1 := 41) (j2 := 42) (by decide +kernel) ⟨by decide, by decide⟩ ⟨by decide, by decide⟩
                  refine zwW_p [(2, 1, 0), (24, 39, 0)] (q := 39) (ls' := [(2, 37), (0, 0)]) (st' := []) (by decide +kernel) rfl ?_
                  refine zwW_p [(1, 1, 0)] (q := 40) (ls' := [(2, 37), (0, 0)]) (st' := [(0, 0)]) (by decide +kernel) rfl ?_
                  refine zwif_eq (q := 62) (nx := 43) (by decide +kernel) (fun c19 => ?_) (fun c19 => ?_)
                  · refine zwW_retv (nx := 63) (a := 0) (b := 0) (by decide +kernel) ?_
                    exact ⟨Ih13, Rh13, by exact f14, by first | exact fun _ => iL8_1 | exact fun hq => (by omega)⟩
                  · exfalso; omega
        exact L8 _ h7 rfl (f6) (RDh7) (by omega) (by omega) Ih7 Rh7
      · refine zwW_p [(1, 0, 2)] (q := 13) (ls' := [(2, 37), (0, kL2)]) (st' := [(2, 37)]) (by decide +kernel) rfl ?_
        refine zwW_gc IhL2 (kd := 13) (bn := 49) (n := 97) (c := 154) (nx := 16) (by decide +kernel) ?_
        refine zwW_p [(0, 8, 0)] (q := 18) (ls' := [(2, 37), (0, kL2)]) (st' := [(0, 8), (2, 154)]) (by decide +kernel) rfl ?_
        refine zwW_ro IhL2 (a := 154) (n := 9) (kd := 26) (base := 155) (step := 1) (nx := 19) (by decide +kernel) rfl ⟨by decide, by decide⟩ ?_
        rw [show ((155 : Nat) : Int) + ((1 : Nat) : Int) * 8 = 163 from rfl]
        refine zwW_p [(1, 1, 0), (0, 0, 0)] (q := 21) (ls' := [(2, 37), (0, kL2)]) (st' := [(0, 0), (0, kL2), (2, 163)]) (by decide +kernel) rfl ?_
        refine zwW_as IhL2 (a1 := 155) (a2 := 163) (n := 5) (lo := 0) (hi := 400) (nx := 22) (by decide +kernel) ⟨by decide, by decide⟩ ⟨by omega, by omega⟩ ⟨by decide, by decide⟩ ?_
        intro h20 eh20 Ih20
        have th20_37_41 : fld h20 37 41 = fld hL2 37 41 := by rw [eh20]; exact fld_wr (by omega)
        have th20_37_42 : fld h20 37 42 = fld hL2 37 42 := by rw [eh20]; exact fld_wr (by omega)
        have th20_37_44 : fld h20 37 44 = fld hL2 37 44 := by rw [eh20]; exact fld_wr (by omega)
        have Oh20 : zMR [(163, 163, 0, 5)] hL2 h20 := zMR.one ⟨by decide, by decide⟩ ⟨by omega, by omega⟩ eh20
        have W21 : ∀ c : Nat, (c : Int) < kL2 + 1 → fld h20 163 c = 0 := by
          intro c hc
          by_cases hq : c = (kL2).toNat
          · rw [hq, eh20]; exact fld_wr_eq (IhL2.s (a1 := 155) (a2 := 163) (k := 20) (n := 5) (by decide +kernel) (by decide) (by decide)) (by omega)
          · rw [eh20, fld_wr (Or.inr hq)]; exact iL2_1 c (by omega)
        have Rh20 : zMR ms121 h h20 := RhL2.w (a1 := 163) (a2 := 163) (j1 := 0) (j2 := 5) (by decide +kernel) ⟨by decide, by decide⟩ ⟨by omega, by omega⟩ eh20
        refine zwW_inc (i := 1) (c := 1) (x := kL2) (nx := 25) (by decide +kernel) rfl ⟨by omega, by omega⟩ (ls' := [(2, 37), (0, (kL2 + 1))]) rfl ?_
        refine zwW_p [(24, 7, 0)] (q := 7) (ls' := [(2, 37), (0, (kL2 + 1))]) (st' := []) (by decide +kernel) rfl ?_
        exact IHL2 ((1000 - (kL2 + 1))).toNat (by omega) (kL2 + 1) h20 rfl (by omega) (W21) (by omega) Ih20 Rh20
  exact L2 _ 0 h1 rfl (by omega) (fun c hc => by omega) (by omega) Ih1 Rh1
def ms28 : Zms := [(37, 37, 42, 47), (37, 37, 47, 48), (149, 153, 0, 840), (163, 163, 0, 5)]
-- WheelLandModel.fault()I
theorem m28 {sc : List Int} (h : Hp) (I : zI h) : zwC sc 233 28 [(2, 37)] h (zwRt 0 (fun x g => zI g ∧ zMR ms28 h g ∧ (-2147483648 ≤ x ∧ x ≤ 2147483647))) := by
  refine zwC_of (D := 232) 1 (by decide +kernel) rfl (ls := [(2, 37)]) rfl ?_
  have R : zMR ms28 h h := zMR.rf _ _
  refine zwW_p [(1, 0, 2)] (q := 1) (ls' := [(2, 37)]) (st' := [(2, 37)]) (by decide +kernel) rfl ?_
  refine zwW_cmv I (op := 60) (k' := 121) (n := 0) (kd := 13) (m := 97) (nx := 4) (r := 37) (tl := []) (st' := []) (by decide +kernel) rfl (by decide +kernel) rfl (m121 h I) ?_
  rintro h3 ⟨Ih3, Qh3, f1, f2⟩
  have Rh3 : zMR ms28 h h3 := R.tr Qh3 (by decide +kernel)
  refine zwW_p [(1, 0, 2)] (q := 5) (ls' := [(2, 37)]) (st' := [(2, 37)]) (by decide +kernel) rfl ?_
  refine zwW_gs Ih3 (kd := 13) (bn := 44) (n := 97) (t := 0) (lo := -1) (hi := 400) (nx := 8) (by decide +kernel) ?_
  intro v4 ev4 lv4 uv4
  refine zwW_ret (nx := 9) (a := 0) (b := 0) (by decide +kernel) rfl (Or.inl rfl) ?_
  exact ⟨Ih3, Rh3, by omega⟩
def ms30 : Zms := [(37, 37, 41, 42), (37, 37, 42, 47), (37, 37, 47, 48), (37, 37, 52, 53), (101, 153, 0, 840), (155, 163, 0, 5)]
-- WheelLandModel.sheet()I
theorem m30 {sc : List Int} (h : Hp) (I : zI h) (hW : zCW h) : zwC sc 233 30 [(2, 37)] h (zwRt 0 (fun x g => zI g ∧ zMR ms30 h g ∧ (-2147483648 ≤ x ∧ x ≤ 2147483647) ∧ (zCW g))) := by
  refine zwC_of (D := 232) 3 (by decide +kernel) rfl (ls := [(2, 37), (9, 0), (9, 0)]) rfl ?_
  have R : zMR ms30 h h := zMR.rf _ _
  refine zwW_p [(1, 0, 2)] (q := 1) (ls' := [(2, 37), (9, 0), (9, 0)]) (st' := [(2, 37)]) (by decide +kernel) rfl ?_
  refine zwW_gs I (kd := 13) (bn := 52) (n := 97) (t := 0) (lo := 0) (hi := 8) (nx := 4) (by decide +kernel) ?_
  intro v1 ev1 lv1 uv1
  refine zwW_p [(0, 8, 0)] (q := 6) (ls' := [(2, 37), (9, 0), (9, 0)]) (st' := [(0, 8), (0, v1)]) (by decide +kernel) rfl ?_
  refine zwic_ne (q := 11) (nx := 9) (by decide +kernel) (fun c2 => ?_) (fun c2 => ?_)
  · refine zwW_p [(1, 0, 2)] (q := 12) (ls' := [(2, 37), (9, 0), (9, 0)]) (st' := [(2, 37)]) (by decide +kernel) rfl ?_
    refine zwW_cmv I (op := 60) (k' := 121) (n := 0) (kd := 13) (m := 97) (nx := 15) (r := 37) (tl := []) (st' := []) (by decide +kernel) rfl (by decide +kernel) rfl (m121 h I) ?_
    rintro h5 ⟨Ih5, Qh5, f3, f4⟩
    have Rh5 : zMR ms30 h h5 := R.tr Qh5 (by decide +kernel)
    have th5_37_52 : fld h5 37 52 = fld h 37 52 := Qh5.f (a1 := 37) (a2 := 37) (j1 := 52) (j2 := 53) (by decide +kernel) ⟨by decide, by decide⟩ ⟨by decide, by decide⟩
    have th5_37_53 : fld h5 37 53 = fld h 37 53 := Qh5.f (a1 := 37) (a2 := 37) (j1 := 53) (j2 := 54) (by decide +kernel) ⟨by decide, by decide⟩ ⟨by decide, by decide⟩
    refine zwW_p [(1, 0, 2)] (q := 16) (ls' := [(2, 37), (9, 0), (9, 0)]) (st' := [(2, 37)]) (by decide +kernel) rfl ?_
    refine zwW_gs Ih5 (kd := 13) (bn := 44) (n := 97) (t := 0) (lo := -1) (hi := 400) (nx := 19) (by decide +kernel) ?_
    intro v6 ev6 lv6 uv6
    refine zwW_p [(0, -1, 0)] (q := 20) (ls' := [(2, 37), (9, 0), (9, 0)]) (st' := [(0, -1), (0, v6)]) (by decide +kernel) rfl ?_
    refine zwic_eq (q := 25) (nx := 23) (by decide +kernel) (fun c7 => ?_) (fun c7 => ?_)
    · have W25 : zCW h5 := hW.mr I Qh5 (by decide +kernel)
      have I25 := Ih5
      have RD25 : zRD h5 := f4 (by omega)
      refine zwW_p [(1, 0, 2), (0, 0, 0)] (q := 27) (ls' := [(2, 37), (9, 0), (9, 0)]) (st' := [(0, 0), (2, 37)]) (by decide +kernel) rfl ?_
      refine zwW_ps Ih5 (kd := 13) (bn := 41) (n := 97) (lo := 0) (hi := 400) (nx := 30) (by decide +kernel) ⟨by decide, by decide⟩ ?_
      intro h8 eh8 Ih8
      have th8_37_52 : fld h8 37 52 = fld h5 37 52 := by rw [eh8]; exact fld_wr (by decide)
      have th8_37_53 : fld h8 37 53 = fld h5 37 53 := by rw [eh8]; exact fld_wr (by decide)
      have Kh8_164 : fld h8 164 = fld h5 164 := (funext fun j => fld_oth eh8 (Or.inl (by omega))).trans rfl
      have Rh8 : zMR ms30 h h8 := Rh5.w (a1 := 37) (a2 := 37) (j1 := 41) (j2 := 42) (by decide +kernel) ⟨by decide, by decide⟩ ⟨by decide, by decide⟩ eh8
      refine zwW_p [(0, 0, 0), (2, 1, 0)] (q := 32) (ls' := [(2, 37), (0, 0), (9, 0)]) (st' := []) (by decide +kernel) rfl ?_
      have L9 : ∀ (n : Nat) (cL9 : Int) (w2L9 : Vl) (hL9 : Hp), n = ((100 - cL9)).toNat → (0 ≤ cL9 ∧ cL9 ≤ 5) → (fld hL9 37 52 = fld h 37 52) → (fld hL9 37 53 = fld h5 37 53) → (zSH h5 hL9 (fld h 37 52)) → (zSA h5 hL9 (fld h 37 52) cL9) → (fld hL9 164 = fld h5 164) → zI hL9 → zMR ms30 h hL9 → zwW sc (232) 30 32 [(2, 37), (0, cL9), w2L9] [] hL9 (zwRt 0 (fun x g => zI g ∧ zMR ms30 h g ∧ (-2147483648 ≤ x ∧ x ≤ 2147483647) ∧ (zCW g))) := by
        intro n
        induction n using Nat.strongRecOn with
        | ind n IHL9 =>
          intro cL9 w2L9 hL9 hnL9 iL9_0 iL9_1 iL9_2 iL9_3 iL9_4 iL9_5 IhL9 RhL9
          refine zwW_p [(1, 1, 0), (0, 5, 0)] (q := 34) (ls' := [(2, 37), (0, cL9), w2L9]) (st' := [(0, 5), (0, cL9)]) (by decide +kernel) rfl ?_
          refine zwic_ge (q := 110) (nx := 37) (by decide +kernel) (fun c10 => ?_) (fun c10 => ?_)
          · have K110 := iL9_5
            refine zwW_p [(1, 0, 2), (12, 0, 0)] (q := 112) (ls' := [(2, 37), (0, cL9), w2L9]) (st' := [(2, 37), (2, 37)]) (by decide +kernel) rfl ?_
            refine zwW_gs IhL9 (kd := 13) (bn := 52) (n := 97) (t := 0) (lo := 0) (hi := 8) (nx := 115) (by decide +kernel) ?_
            intro v11 ev11 lv11 uv11
            refine zwW_p [(0, 1, 0)] (q := 116) (ls' := [(2, 37), (0, cL9), w2L9]) (st' := [(0, 1), (0, v11), (2, 37)]) (by decide +kernel) rfl ?_
            refine zwW_add (nx := 117) (by decide +kernel) ⟨by omega, by omega⟩ ?_
            refine zwW_ps IhL9 (kd := 13) (bn := 52) (n := 97) (lo := 0) (hi := 8) (nx := 120) (by decide +kernel) ⟨by omega, by omega⟩ ?_
            intro h12 eh12 Ih12
            have th12_37_52 : fld h12 37 52 = (v11 + 1) := by rw [eh12]; exact fld_wr_eq (IhL9.s (a1 := 37) (a2 := 37) (k := 13) (n := 97) (by decide +kernel) (by decide) (by decide)) (by decide)
            have th12_37_53 : fld h12 37 53 = fld hL9 37 53 := by rw [eh12]; exact fld_wr (by decide)
            have Kh12_164 : fld h12 164 = fld h5 164 := (funext fun j => fld_oth eh12 (Or.inl (by omega))).trans iL9_5
            have E117 : h12 = wr hL9 37 52 (fld h 37 52 + 1) := by rw [eh12, show (v11 + 1) = fld h 37 52 + 1 by omega]
            have I117 := IhL9
            have Rh12 : zMR ms30 h h12 := RhL9.w (a1 := 37) (a2 := 37) (j1 := 52) (j2 := 53) (by decide +kernel) ⟨by decide, by decide⟩ ⟨by decide, by decide⟩ eh12
            refine zwW_p [(1, 0, 2)] (q := 121) (ls' := [(2, 37), (0, cL9), w2L9]) (st' := [(2, 37)]) (by decide +kernel) rfl ?_
            refine zwW_gs Ih12 (kd := 13) (bn := 52) (n := 97) (t := 0) (lo := 0) (hi := 8) (nx := 124) (by decide +kernel) ?_
            intro v13 ev13 lv13 uv13
            refine zwW_p [(0, 1, 0)] (q := 125) (ls' := [(2, 37), (0, cL9), w2L9]) (st' := [(0, 1), (0, v13)]) (by decide +kernel) rfl ?_
            refine zwW_sub (nx := 126) (by decide +kernel) ⟨by omega, by omega⟩ ?_
            refine zwW_ret (nx := 127) (a := 0) (b := 0) (by decide +kernel) rfl (Or.inl rfl) ?_
            have A5 : zSA h5 hL9 (fld h 37 52) 5 := by have := iL9_4; rw [show cL9 = 5 by omega] at this; exact this
            exact ⟨Ih12, Rh12, by omega, zCW.sh W25 RD25 I25 iL9_3 A5 (by omega) (by omega) (by omega) (by omega) K110 E117 (I117.s (a1 := 37) (a2 := 37) (by decide +kernel) (by decide) (by decide))⟩
          · refine zwW_p [(1, 0, 2)] (q := 38) (ls' := [(2, 37), (0, cL9), w2L9]) (st' := [(2, 37)]) (by decide +kernel) rfl ?_
            refine zwW_gc IhL9 (kd := 13) (bn := 49) (n := 97) (c := 154) (nx := 41) (by decide +kernel) ?_
            refine zwW_p [(1, 0, 2)] (q := 42) (ls' := [(2, 37), (0, cL9), w2L9]) (st' := [(2, 37), (2, 154)]) (by decide +kernel) rfl ?_
            refine zwW_gs IhL9 (kd := 13) (bn := 52) (n := 97) (t := 0) (lo := 0) (hi := 8) (nx := 45) (by decide +kernel) ?_
            intro v14 ev14 lv14 uv14
            refine zwW_ro IhL9 (a := 154) (n := 9) (kd := 26) (base := 155) (step := 1) (nx := 46) (by decide +kernel) rfl ⟨by omega, by omega⟩ ?_
            rw [show ((155 : Nat) : Int) + ((1 : Nat) : Int) * v14 = (155 + v14) by omega]
            refine zwW_p [(1, 1, 0), (1, 0, 2)] (q := 48) (ls' := [(2, 37), (0, cL9), w2L9]) (st' := [(2, 37), (0, cL9), (2, (155 + v14))]) (by decide +kernel) rfl ?_
            refine zwW_gc IhL9 (kd := 13) (bn := 49) (n := 97) (c := 154) (nx := 51) (by decide +kernel) ?_
            refine zwW_p [(0, 8, 0)] (q := 53) (ls' := [(2, 37), (0, cL9), w2L9]) (st' := [(0, 8), (2, 154), (0, cL9), (2, (155 + v14))]) (by decide +kernel) rfl ?_
            refine zwW_ro IhL9 (a := 154) (n := 9) (kd := 26) (base := 155) (step := 1) (nx := 54) (by decide +kernel) rfl ⟨by decide, by decide⟩ ?_
            rw [show ((155 : Nat) : Int) + ((1 : Nat) : Int) * 8 = 163 from rfl]
            refine zwW_p [(1, 1, 0)] (q := 55) (ls' := [(2, 37), (0, cL9), w2L9]) (st' := [(0, cL9), (2, 163), (0, cL9), (2, (155 + v14))]) (by decide +kernel) rfl ?_
            refine zwW_al IhL9 (a1 := 155) (a2 := 163) (kd := 20) (n := 5) (t := 0) (lo := 0) (hi := 400) (nx := 56) (by decide +kernel) ⟨by decide, by decide⟩ ⟨by omega, by omega⟩ ?_
            intro v15 ev15 lv15 uv15
            refine zwW_as IhL9 (a1 := 155) (a2 := 163) (n := 5) (lo := 0) (hi := 400) (nx := 57) (by decide +kernel) ⟨by omega, by omega⟩ ⟨by omega, by omega⟩ ⟨by omega, by omega⟩ ?_
            intro h16 eh16 Ih16
            have th16_37_52 : fld h16 37 52 = fld hL9 37 52 := by rw [eh16]; exact fld_wr (by omega)
            have th16_37_53 : fld h16 37 53 = fld hL9 37 53 := by rw [eh16]; exact fld_wr (by omega)
            have Kh16_164 : fld h16 164 = fld h5 164 := (funext fun j => fld_oth eh16 (Or.inl (by omega))).trans iL9_5
            have E56 : h16 = wr hL9 (155 + fld h 37 52) (cL9).toNat v15 := by rw [eh16, show (155 + v14) = 155 + fld h 37 52 by omega]
            have H56 := (iL9_3).w E56 (Or.inl rfl)
            have A56 := (iL9_4).w E56 (Or.inl ⟨rfl, by omega⟩) (by omega) (by omega)
            have L56 : fld h16 (155 + fld h 37 52) (cL9).toNat = fld h5 163 (cL9).toNat := by rw [E56, fld_wr_eq (IhL9.s (a1 := 155) (a2 := 163) (k := 20) (n := 5) (by decide +kernel) (by omega) (by omega)) (by omega), ev15, iL9_3 163 (by omega) (by omega) (by omega) (by omega)]
            have Rh16 : zMR ms30 h h16 := RhL9.w (a1 := 155) (a2 := 163) (j1 := 0) (j2 := 5) (by decide +kernel) ⟨by omega, by omega⟩ ⟨by omega, by omega⟩ eh16
            have b57 := I25.b (a1 := 155) (a2 := 163) (j1 := 0) (j2 := 5) (lo := 0) (hi := 400) (by decide +kernel) (r := 163) (j := (cL9).toNat) (by decide) (by decide) (by omega) (by omega)
            refine zwW_p [(0, 0, 0), (2, 2, 0)] (q := 59) (ls' := [(2, 37), (0, cL9), (0, 0)]) (st' := []) (by decide +kernel) rfl ?_
            have L17 : ∀ (n : Nat) (iL17 : Int) (hL17 : Hp), n = ((1000 - iL17)).toNat → (0 ≤ iL17 ∧ iL17 ≤ 2 * fld h5 163 (cL9).toNat) → (fld hL17 37 52 = fld h 37 52) → (fld hL17 37 53 = fld h5 37 53) → (zSH h5 hL17 (fld h 37 52)) → (zSA h5 hL17 (fld h 37 52) cL9) → (fld hL17 164 = fld h5 164) → (fld hL17 (155 + fld h 37 52) (cL9).toNat = fld h5 163 (cL9).toNat) → (zSC h5 hL17 (fld h 37 52) cL9 iL17) → zI hL17 → zMR ms30 h hL17 → zwW sc (232) 30 59 [(2, 37), (0, cL9), (0, iL17)] [] hL17 (zwRt 0 (fun x g => zI g ∧ zMR ms30 h g ∧ (-2147483648 ≤ x ∧ x ≤ 2147483647) ∧ (zCW g))) := by
              intro n
              induction n using Nat.strongRecOn with
              | ind n IHL17 =>
                intro iL17 hL17 hnL17 iL17_0 iL17_1 iL17_2 iL17_3 iL17_4 iL17_5 iL17_6 iL17_7 IhL17 RhL17
                refine zwW_p [(1, 2, 0), (0, 2, 0), (1, 0, 2)] (q := 62) (ls' := [(2, 37), (0, cL9), (0, iL17)]) (st' := [(2, 37), (0, 2), (0, iL17)]) (by decide +kernel) rfl ?_
                refine zwW_gc IhL17 (kd := 13) (bn := 49) (n := 97) (c := 154) (nx := 65) (by decide +kernel) ?_
                refine zwW_p [(0, 8, 0)] (q := 67) (ls' := [(2, 37), (0, cL9), (0, iL17)]) (st' := [(0, 8), (2, 154), (0, 2), (0, iL17)]) (by decide +kernel) rfl ?_
                refine zwW_ro IhL17 (a := 154) (n := 9) (kd := 26) (base := 155) (step := 1) (nx := 68) (by decide +kernel) rfl ⟨by decide, by decide⟩ ?_
                rw [show ((155 : Nat) : Int) + ((1 : Nat) : Int) * 8 = 163 from rfl]
                refine zwW_p [(1, 1, 0)] (q := 69) (ls' := [(2, 37), (0, cL9), (0, iL17)]) (st' := [(0, cL9), (2, 163), (0, 2), (0, iL17)]) (by decide +kernel) rfl ?_
                refine zwW_al IhL17 (a1 := 155) (a2 := 163) (kd := 20) (n := 5) (t := 0) (lo := 0) (hi := 400) (nx := 70) (by decide +kernel) ⟨by decide, by decide⟩ ⟨by omega, by omega⟩ ?_
                intro v18 ev18 lv18 uv18
                refine zwW_mul (nx := 71) (by decide +kernel) ⟨by omega, by omega⟩ ?_
                refine zwic_ge (q := 104) (nx := 74) (by decide +kernel) (fun c19 => ?_) (fun c19 => ?_)
                · have J104 := congrFun (iL17_3 163 (by omega) (by omega) (by omega) (by omega)) (cL9).toNat
                  have Y104 : zSC h5 hL17 (fld h 37 52) cL9 (2 * fld h5 163 (cL9).toNat) := by have := iL17_7; rw [show iL17 = 2 * fld h5 163 (cL9).toNat by omega] at this; exact this
                  have Z104 := (iL17_4).s (by omega) iL17_6 Y104
                  refine zwW_inc (i := 1) (c := 1) (x := cL9) (nx := 107) (by decide +kernel) rfl ⟨by omega, by omega⟩ (ls' := [(2, 37), (0, (cL9 + 1)), (0, iL17)]) rfl ?_
                  refine zwW_p [(24, 32, 0)] (q := 32) (ls' := [(2, 37), (0, (cL9 + 1)), (0, iL17)]) (st' := []) (by decide +kernel) rfl ?_
                  exact IHL9 ((100 - (cL9 + 1))).toNat (by omega) (cL9 + 1) (0, iL17) hL17 rfl (by omega) (by omega) (by omega) (iL17_3) (Z104) (iL17_5) IhL17 RhL17
                · have J74 := congrFun (iL17_3 163 (by omega) (by omega) (by omega) (by omega)) (cL9).toNat
                  refine zwW_p [(1, 0, 2)] (q := 75) (ls' := [(2, 37), (0, cL9), (0, iL17)]) (st' := [(2, 37)]) (by decide +kernel) rfl ?_
                  refine zwW_gc IhL17 (kd := 13) (bn := 48) (n := 97) (c := 99) (nx := 78) (by decide +kernel) ?_
                  refine zwW_p [(1, 0, 2)] (q := 79) (ls' := [(2, 37), (0, cL9), (0, iL17)]) (st' := [(2, 37), (2, 99)]) (by decide +kernel) rfl ?_
                  refine zwW_gs IhL17 (kd := 13) (bn := 52) (n := 97) (t := 0) (lo := 0) (hi := 8) (nx := 82) (by decide +kernel) ?_
                  intro v20 ev20 lv20 uv20
                  refine zwW_ro IhL17 (a := 99) (n := 9) (kd := 27) (base := 100) (step := 6) (nx := 83) (by decide +kernel) rfl ⟨by omega, by omega⟩ ?_
                  rw [show ((100 : Nat) : Int) + ((6 : Nat) : Int) * v20 = (100 + 6 * v20) by omega]
                  refine zwW_p [(1, 1, 0)] (q := 84) (ls' := [(2, 37), (0, cL9), (0, iL17)]) (st' := [(0, cL9), (2, (100 + 6 * v20))]) (by decide +kernel) rfl ?_
                  refine zwW_ro2 IhL17 (s := v20) (nx := 85) (by decide +kernel) (by omega) ⟨by omega, by omega⟩ ⟨by omega, by omega⟩ ?_
                  refine zwW_p [(1, 2, 0), (1, 0, 2)] (q := 87) (ls' := [(2, 37), (0, cL9), (0, iL17)]) (st' := [(2, 37), (0, iL17), (2, (101 + 6 * v20 + cL9))]) (by decide +kernel) rfl ?_
                  refine zwW_gc IhL17 (kd := 13) (bn := 48) (n := 97) (c := 99) (nx := 90) (by decide +kernel) ?_
                  refine zwW_p [(0, 8, 0)] (q := 92) (ls' := [(2, 37), (0, cL9), (0, iL17)]) (st' := [(0, 8), (2, 99), (0, iL17), (2, (101 + 6 * v20 + cL9))]) (by decide +kernel) rfl ?_
                  refine zwW_ro IhL17 (a := 99) (n := 9) (kd := 27) (base := 100) (step := 6) (nx := 93) (by decide +kernel) rfl ⟨by decide, by decide⟩ ?_
                  rw [show ((100 : Nat) : Int) + ((6 : Nat) : Int) * 8 = 148 from rfl]
                  refine zwW_p [(1, 1, 0)] (q := 94) (ls' := [(2, 37), (0, cL9), (0, iL17)]) (st' := [(0, cL9), (2, 148), (0, iL17), (2, (101 + 6 * v20 + cL9))]) (by decide +kernel) rfl ?_
                  refine zwW_ro IhL17 (a := 148) (n := 5) (kd := 26) (base := 149) (step := 1) (nx := 95) (by decide +kernel) rfl ⟨by omega, by omega⟩ ?_
                  rw [show ((149 : Nat) : Int) + ((1 : Nat) : Int) * cL9 = (149 + cL9) by omega]
                  refine zwW_p [(1, 2, 0)] (q := 96) (ls' := [(2, 37), (0, cL9), (0, iL17)]) (st' := [(0, iL17), (2, (149 + cL9)), (0, iL17), (2, (101 + 6 * v20 + cL9))]) (by decide +kernel) rfl ?_
                  refine zwW_al IhL17 (a1 := 149) (a2 := 153) (kd := 20) (n := 840) (t := 0) (lo := -2147483648) (hi := 2147483647) (nx := 97) (by decide +kernel) ⟨by omega, by omega⟩ ⟨by omega, by omega⟩ ?_
                  intro v21 ev21 lv21 uv21
                  refine zwW_as3 IhL17 (s := v20) (c := cL9) (nx := 98) (by decide +kernel) rfl ⟨by omega, by omega⟩ ⟨by omega, by omega⟩ ⟨by omega, by omega⟩ ⟨by omega, by omega⟩ ?_
                  intro h22 eh22 Ih22
                  have th22_37_52 : fld h22 37 52 = fld hL17 37 52 := by rw [eh22]; exact fld_wr (by omega)
                  have th22_37_53 : fld h22 37 53 = fld hL17 37 53 := by rw [eh22]; exact fld_wr (by omega)
                  have Kh22_164 : fld h22 164 = fld h5 164 := (funext fun j => fld_oth eh22 (Or.inl (by omega))).trans iL17_5
                  have E97 : h22 = wr hL17 (101 + 6 * fld h 37 52 + cL9) (iL17).toNat v21 := by rw [eh22, show (101 + 6 * v20 + cL9) = 101 + 6 * fld h 37 52 + cL9 by omega]
                  have H97 := (iL17_3).w E97 (Or.inr (Or.inl ⟨by omega, by omega⟩))
                  have A97 := (iL17_4).w E97 (Or.inr (Or.inl rfl)) (by omega) (by omega)
                  have L97 : fld h22 (155 + fld h 37 52) (cL9).toNat = fld h5 163 (cL9).toNat := by rw [E97, fld_wr (Or.inl (by omega))]; exact iL17_6
                  have C97 := (iL17_7).s E97 (by omega) (by rw [ev21, iL17_3 _ (by omega) (by omega) (by omega) (by omega)]) (IhL17.c2 (s := fld h 37 52) (c := cL9) ⟨by omega, by omega⟩ ⟨by omega, by omega⟩).2.2 (by omega)
                  have Rh22 : zMR ms30 h h22 := RhL17.w (a1 := 101) (a2 := 153) (j1 := 0) (j2 := 840) (by decide +kernel) ⟨by omega, by omega⟩ ⟨by omega, by omega⟩ eh22
                  refine zwW_inc (i := 2) (c := 1) (x := iL17) (nx := 101) (by decide +kernel) rfl ⟨by omega, by omega⟩ (ls' := [(2, 37), (0, cL9), (0, (iL17 + 1))]) rfl ?_
                  refine zwW_p [(24, 59, 0)] (q := 59) (ls' := [(2, 37), (0, cL9), (0, (iL17 + 1))]) (st' := []) (by decide +kernel) rfl ?_
                  exact IHL17 ((1000 - (iL17 + 1))).toNat (by omega) (iL17 + 1) h22 rfl (by omega) (by omega) (by omega) (H97) (A97) (Kh22_164) (L97) (C97) Ih22 Rh22
            exact L17 _ 0 h16 rfl (by omega) (by omega) (by omega) (H56) (A56) (Kh16_164) (L56) (fun j hj => by omega) Ih16 Rh16
      exact L9 _ 0 (9, 0) h8 rfl (by omega) (by omega) (by omega) (fun r k1 k2 k3 k4 => funext (fun j => fld_oth eh8 (Or.inl (by omega)))) (fun q hq => by omega) (Kh8_164) Ih8 Rh8
    · refine zwW_p [(0, -1, 0)] (q := 24) (ls' := [(2, 37), (9, 0), (9, 0)]) (st' := [(0, -1)]) (by decide +kernel) rfl ?_
      refine zwW_ret (nx := 25) (a := 0) (b := 0) (by decide +kernel) rfl (Or.inl rfl) ?_
      exact ⟨Ih5, Rh5, by omega, hW.mr I Qh5 (by decide +kernel)⟩
  · refine zwW_p [(0, -1, 0)] (q := 10) (ls' := [(2, 37), (9, 0), (9, 0)]) (st' := [(0, -1)]) (by decide +kernel) rfl ?_
    refine zwW_ret (nx := 11) (a := 0) (b := 0) (by decide +kernel) rfl (Or.inl rfl) ?_
    exact ⟨I, R, by omega, hW⟩
