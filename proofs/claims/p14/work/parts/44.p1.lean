/-! contracts of methods -/
def ms200 : Zms := [(37, 37, 42, 43), (37, 37, 43, 44)]
-- WheelLandModel.skips()V
theorem m200 {sc : List Int} (h : Hp) (I : zI h) (p1 : fld h 37 42 ≤ fld h 37 41) : zwC sc 2 200 [(2, 37)] h (zwRv (fun g => zI g ∧ zMR ms200 h g ∧ (fld h 37 42 ≤ fld g 37 42) ∧ (zP0 g))) := by
  refine zwC_of (D := 1) 1 (by decide +kernel) rfl (ls := [(2, 37)]) rfl ?_
  have R : zMR ms200 h h := zMR.rf _ _
  have L1 : ∀ (n : Nat) (hL1 : Hp), n = (fld hL1 37 41 - fld hL1 37 42).toNat → (fld hL1 37 42 ≤ fld hL1 37 41) → (fld hL1 37 41 = fld h 37 41) → (fld h 37 42 ≤ fld hL1 37 42) → zI hL1 → zMR ms200 h hL1 → zwW sc (1) 200 0 [(2, 37)] [] hL1 (zwRv (fun g => zI g ∧ zMR ms200 h g ∧ (fld h 37 42 ≤ fld g 37 42) ∧ (zP0 g))) := by
    intro n
    induction n using Nat.strongRecOn with
    | ind n IHL1 =>
      intro hL1 hnL1 iL1_0 iL1_1 iL1_2 IhL1 RhL1
      refine zwW_p [(1, 0, 2)] (q := 1) (ls' := [(2, 37)]) (st' := [(2, 37)]) (by decide +kernel) rfl ?_
      refine zwW_gs IhL1 (kd := 13) (bn := 42) (n := 97) (t := 0) (lo := 0) (hi := 400) (nx := 4) (by decide +kernel) ?_
      intro v2 ev2 lv2 uv2
      refine zwW_p [(1, 0, 2)] (q := 5) (ls' := [(2, 37)]) (st' := [(2, 37), (0, v2)]) (by decide +kernel) rfl ?_
      refine zwW_gs IhL1 (kd := 13) (bn := 41) (n := 97) (t := 0) (lo := 0) (hi := 400) (nx := 8) (by decide +kernel) ?_
      intro v3 ev3 lv3 uv3
      refine zwic_ge (q := 52) (nx := 11) (by decide +kernel) (fun c4 => ?_) (fun c4 => ?_)
      · refine zwW_p [(1, 0, 2), (1, 0, 2)] (q := 54) (ls' := [(2, 37)]) (st' := [(2, 37), (2, 37)]) (by decide +kernel) rfl ?_
        refine zwW_gs IhL1 (kd := 13) (bn := 42) (n := 97) (t := 0) (lo := 0) (hi := 400) (nx := 57) (by decide +kernel) ?_
        intro v5 ev5 lv5 uv5
        refine zwW_ps IhL1 (kd := 13) (bn := 43) (n := 97) (lo := 0) (hi := 400) (nx := 60) (by decide +kernel) ⟨by omega, by omega⟩ ?_
        intro h6 eh6 Ih6
        have th6_37_41 : fld h6 37 41 = fld hL1 37 41 := by rw [eh6]; exact fld_wr (by decide)
        have th6_37_42 : fld h6 37 42 = fld hL1 37 42 := by rw [eh6]; exact fld_wr (by decide)
        have th6_37_43 : fld h6 37 43 = v5 := by rw [eh6]; exact fld_wr_eq (IhL1.s (a1 := 37) (a2 := 37) (k := 13) (n := 97) (by decide +kernel) (by decide) (by decide)) (by decide)
        have Rh6 : zMR ms200 h h6 := RhL1.w (a1 := 37) (a2 := 37) (j1 := 43) (j2 := 44) (by decide +kernel) ⟨by decide, by decide⟩ ⟨by decide, by decide⟩ eh6
        refine zwW_p [(1, 0, 2)] (q := 61) (ls' := [(2, 37)]) (st' := [(2, 37)]) (by decide +kernel) rfl ?_
        refine zwW_gs Ih6 (kd := 13) (bn := 42) (n := 97) (t := 0) (lo := 0) (hi := 400) (nx := 64) (by decide +kernel) ?_
        intro v7 ev7 lv7 uv7
        refine zwW_p [(1, 0, 2)] (q := 65) (ls' := [(2, 37)]) (st' := [(2, 37), (0, v7)]) (by decide +kernel) rfl ?_
        refine zwW_gs Ih6 (kd := 13) (bn := 41) (n := 97) (t := 0) (lo := 0) (hi := 400) (nx := 68) (by decide +kernel) ?_
        intro v8 ev8 lv8 uv8
        refine zwic_ne (q := 72) (nx := 71) (by decide +kernel) (fun c9 => ?_) (fun c9 => ?_)
        · refine zwW_p [(1, 0, 2)] (q := 73) (ls' := [(2, 37)]) (st' := [(2, 37)]) (by decide +kernel) rfl ?_
          refine zwW_gc Ih6 (kd := 13) (bn := 40) (n := 97) (c := 98) (nx := 76) (by decide +kernel) ?_
          refine zwW_p [(1, 0, 2)] (q := 77) (ls' := [(2, 37)]) (st' := [(2, 37), (2, 98)]) (by decide +kernel) rfl ?_
          refine zwW_gs Ih6 (kd := 13) (bn := 42) (n := 97) (t := 0) (lo := 0) (hi := 400) (nx := 80) (by decide +kernel) ?_
          intro v10 ev10 lv10 uv10
          have X80 : v10 = fld h6 37 42 := by omega
          refine zwW_al Ih6 (a1 := 98) (a2 := 98) (kd := 21) (n := 400) (t := 0) (lo := -128) (hi := 127) (nx := 81) (by decide +kernel) ⟨by decide, by decide⟩ ⟨by omega, by omega⟩ ?_
          intro v11 ev11 lv11 uv11
          have G81 : v11 = fld h6 98 (fld h6 37 42).toNat := by rw [ev11, X80]
          refine zwW_cs (k' := 244) (n := 1) (nx := 84) (as := [(0, v11)]) (st' := []) (by decide +kernel) rfl (m244 h6 v11) rfl ?_
          rintro x _ ⟨rfl, ⟨rfl, c12⟩ | ⟨rfl, c12⟩⟩
          · refine zwif_eq (q := 126) (nx := 87) (by decide +kernel) (fun c13 => ?_) (fun c13 => ?_)
            · exfalso; omega
            · have L14 : ∀ (n : Nat) (hL14 : Hp), n = (fld hL14 37 41 - fld hL14 37 43).toNat → (fld hL14 37 42 < fld hL14 37 41) → (fld h 37 42 ≤ fld hL14 37 42) → (fld hL14 37 42 ≤ fld hL14 37 43 ∧ fld hL14 37 43 ≤ fld hL14 37 41) → (fld hL14 37 43 = fld hL14 37 42 → 97 ≤ fld hL14 98 (fld hL14 37 42).toNat ∧ fld hL14 98 (fld hL14 37 42).toNat ≤ 122) → zI hL14 → zMR ms200 h hL14 → zwW sc (1) 200 87 [(2, 37)] [] hL14 (zwRv (fun g => zI g ∧ zMR ms200 h g ∧ (fld h 37 42 ≤ fld g 37 42) ∧ (zP0 g))) := by
                intro n
                induction n using Nat.strongRecOn with
                | ind n IHL14 =>
                  intro hL14 hnL14 iL14_0 iL14_1 iL14_2 iL14_3 IhL14 RhL14
                  refine zwW_p [(1, 0, 2)] (q := 88) (ls' := [(2, 37)]) (st' := [(2, 37)]) (by decide +kernel) rfl ?_
                  refine zwW_gs IhL14 (kd := 13) (bn := 43) (n := 97) (t := 0) (lo := 0) (hi := 400) (nx := 91) (by decide +kernel) ?_
                  intro v15 ev15 lv15 uv15
                  refine zwW_p [(1, 0, 2)] (q := 92) (ls' := [(2, 37)]) (st' := [(2, 37), (0, v15)]) (by decide +kernel) rfl ?_
                  refine zwW_gs IhL14 (kd := 13) (bn := 41) (n := 97) (t := 0) (lo := 0) (hi := 400) (nx := 95) (by decide +kernel) ?_
                  intro v16 ev16 lv16 uv16
                  refine zwic_ge (q := 190) (nx := 98) (by decide +kernel) (fun c17 => ?_) (fun c17 => ?_)
                  · refine zwW_retv (nx := 191) (a := 0) (b := 0) (by decide +kernel) ?_
                    exact ⟨IhL14, RhL14, by omega, by (unfold zP0; omega)⟩
                  · refine zwW_p [(1, 0, 2)] (q := 99) (ls' := [(2, 37)]) (st' := [(2, 37)]) (by decide +kernel) rfl ?_
                    refine zwW_gc IhL14 (kd := 13) (bn := 40) (n := 97) (c := 98) (nx := 102) (by decide +kernel) ?_
                    refine zwW_p [(1, 0, 2)] (q := 103) (ls' := [(2, 37)]) (st' := [(2, 37), (2, 98)]) (by decide +kernel) rfl ?_
                    refine zwW_gs IhL14 (kd := 13) (bn := 43) (n := 97) (t := 0) (lo := 0) (hi := 400) (nx := 106) (by decide +kernel) ?_
                    intro v18 ev18 lv18 uv18
                    have X106 : fld hL14 37 43 = fld hL14 37 42 → v18 = fld hL14 37 42 := fun hq => by omega
                    refine zwW_al IhL14 (a1 := 98) (a2 := 98) (kd := 21) (n := 400) (t := 0) (lo := -128) (hi := 127) (nx := 107) (by decide +kernel) ⟨by decide, by decide⟩ ⟨by omega, by omega⟩ ?_
                    intro v19 ev19 lv19 uv19
                    have G107 : fld hL14 37 43 = fld hL14 37 42 → v19 = fld hL14 98 (fld hL14 37 42).toNat := fun hq => by rw [ev19, X106 hq]
                    refine zwW_cs (k' := 244) (n := 1) (nx := 110) (as := [(0, v19)]) (st' := []) (by decide +kernel) rfl (m244 hL14 v19) rfl ?_
                    rintro x _ ⟨rfl, ⟨rfl, c20⟩ | ⟨rfl, c20⟩⟩
                    · refine zwif_eq (q := 190) (nx := 113) (by decide +kernel) (fun c21 => ?_) (fun c21 => ?_)
                      · exfalso; omega
                      · refine zwW_p [(1, 0, 2), (12, 0, 0)] (q := 115) (ls' := [(2, 37)]) (st' := [(2, 37), (2, 37)]) (by decide +kernel) rfl ?_
                        refine zwW_gs IhL14 (kd := 13) (bn := 43) (n := 97) (t := 0) (lo := 0) (hi := 400) (nx := 118) (by decide +kernel) ?_
                        intro v22 ev22 lv22 uv22
                        refine zwW_p [(0, 1, 0)] (q := 119) (ls' := [(2, 37)]) (st' := [(0, 1), (0, v22), (2, 37)]) (by decide +kernel) rfl ?_
                        refine zwW_add (nx := 120) (by decide +kernel) ⟨by omega, by omega⟩ ?_
                        refine zwW_ps IhL14 (kd := 13) (bn := 43) (n := 97) (lo := 0) (hi := 400) (nx := 123) (by decide +kernel) ⟨by omega, by omega⟩ ?_
                        intro h23 eh23 Ih23
                        have th23_37_41 : fld h23 37 41 = fld hL14 37 41 := by rw [eh23]; exact fld_wr (by decide)
                        have th23_37_42 : fld h23 37 42 = fld hL14 37 42 := by rw [eh23]; exact fld_wr (by decide)
                        have th23_37_43 : fld h23 37 43 = (v22 + 1) := by rw [eh23]; exact fld_wr_eq (IhL14.s (a1 := 37) (a2 := 37) (k := 13) (n := 97) (by decide +kernel) (by decide) (by decide)) (by decide)
                        have Rh23 : zMR ms200 h h23 := RhL14.w (a1 := 37) (a2 := 37) (j1 := 43) (j2 := 44) (by decide +kernel) ⟨by decide, by decide⟩ ⟨by decide, by decide⟩ eh23
                        refine zwW_p [(24, 87, 0)] (q := 87) (ls' := [(2, 37)]) (st' := []) (by decide +kernel) rfl ?_
                        exact IHL14 (fld h23 37 41 - fld h23 37 43).toNat (by omega) h23 rfl (by omega) (by omega) (by omega) (by omega) Ih23 Rh23
                    · refine zwif_eq (q := 190) (nx := 113) (by decide +kernel) (fun c24 => ?_) (fun c24 => ?_)
                      · refine zwW_retv (nx := 191) (a := 0) (b := 0) (by decide +kernel) ?_
                        exact ⟨IhL14, RhL14, by omega, by (unfold zP0; omega)⟩
                      · exfalso; omega
              exact L14 _ h6 rfl (by omega) (by omega) (by omega) (by omega) Ih6 Rh6
          · refine zwif_eq (q := 126) (nx := 87) (by decide +kernel) (fun c25 => ?_) (fun c25 => ?_)
            · refine zwW_p [(1, 0, 2)] (q := 127) (ls' := [(2, 37)]) (st' := [(2, 37)]) (by decide +kernel) rfl ?_
              refine zwW_gc Ih6 (kd := 13) (bn := 40) (n := 97) (c := 98) (nx := 130) (by decide +kernel) ?_
              refine zwW_p [(1, 0, 2)] (q := 131) (ls' := [(2, 37)]) (st' := [(2, 37), (2, 98)]) (by decide +kernel) rfl ?_
              refine zwW_gs Ih6 (kd := 13) (bn := 42) (n := 97) (t := 0) (lo := 0) (hi := 400) (nx := 134) (by decide +kernel) ?_
              intro v26 ev26 lv26 uv26
              have X134 : v26 = fld h6 37 42 := by omega
              refine zwW_al Ih6 (a1 := 98) (a2 := 98) (kd := 21) (n := 400) (t := 0) (lo := -128) (hi := 127) (nx := 135) (by decide +kernel) ⟨by decide, by decide⟩ ⟨by omega, by omega⟩ ?_
              intro v27 ev27 lv27 uv27
              have G135 : v27 = fld h6 98 (fld h6 37 42).toNat := by rw [ev27, X134]
              refine zwW_cs (k' := 245) (n := 1) (nx := 138) (as := [(0, v27)]) (st' := []) (by decide +kernel) rfl (m245 h6 v27) rfl ?_
              rintro x _ ⟨rfl, ⟨rfl, c28⟩ | ⟨rfl, c28⟩⟩
              · refine zwif_eq (q := 180) (nx := 141) (by decide +kernel) (fun c29 => ?_) (fun c29 => ?_)
                · exfalso; omega
                · have L30 : ∀ (n : Nat) (hL30 : Hp), n = (fld hL30 37 41 - fld hL30 37 43).toNat → (fld hL30 37 42 < fld hL30 37 41) → (fld h 37 42 ≤ fld hL30 37 42) → (fld hL30 37 42 ≤ fld hL30 37 43 ∧ fld hL30 37 43 ≤ fld hL30 37 41) → (fld hL30 37 43 = fld hL30 37 42 → 48 ≤ fld hL30 98 (fld hL30 37 42).toNat ∧ fld hL30 98 (fld hL30 37 42).toNat ≤ 57) → zI hL30 → zMR ms200 h hL30 → zwW sc (1) 200 141 [(2, 37)] [] hL30 (zwRv (fun g => zI g ∧ zMR ms200 h g ∧ (fld h 37 42 ≤ fld g 37 42) ∧ (zP0 g))) := by
                    intro n
                    induction n using Nat.strongRecOn with
                    | ind n IHL30 =>
                      intro hL30 hnL30 iL30_0 iL30_1 iL30_2 iL30_3 IhL30 RhL30
                      refine zwW_p [(1, 0, 2)] (q := 142) (ls' := [(2, 37)]) (st' := [(2, 37)]) (by decide +kernel) rfl ?_
                      refine zwW_gs IhL30 (kd := 13) (bn := 43) (n := 97) (t := 0) (lo := 0) (hi := 400) (nx := 145) (by decide +kernel) ?_
                      intro v31 ev31 lv31 uv31
                      refine zwW_p [(1, 0, 2)] (q := 146) (ls' := [(2, 37)]) (st' := [(2, 37), (0, v31)]) (by decide +kernel) rfl ?_
                      refine zwW_gs IhL30 (kd := 13) (bn := 41) (n := 97) (t := 0) (lo := 0) (hi := 400) (nx := 149) (by decide +kernel) ?_
                      intro v32 ev32 lv32 uv32
                      refine zwic_ge (q := 190) (nx := 152) (by decide +kernel) (fun c33 => ?_) (fun c33 => ?_)
                      · refine zwW_retv (nx := 191) (a := 0) (b := 0) (by decide +kernel) ?_
                        exact ⟨IhL30, RhL30, by omega, by (unfold zP0; omega)⟩
                      · refine zwW_p [(1, 0, 2)] (q := 153) (ls' := [(2, 37)]) (st' := [(2, 37)]) (by decide +kernel) rfl ?_
                        refine zwW_gc IhL30 (kd := 13) (bn := 40) (n := 97) (c := 98) (nx := 156) (by decide +kernel) ?_
                        refine zwW_p [(1, 0, 2)] (q := 157) (ls' := [(2, 37)]) (st' := [(2, 37), (2, 98)]) (by decide +kernel) rfl ?_
                        refine zwW_gs IhL30 (kd := 13) (bn := 43) (n := 97) (t := 0) (lo := 0) (hi := 400) (nx := 160) (by decide +kernel) ?_
                        intro v34 ev34 lv34 uv34
                        have X160 : fld hL30 37 43 = fld hL30 37 42 → v34 = fld hL30 37 42 := fun hq => by omega
                        refine zwW_al IhL30 (a1 := 98) (a2 := 98) (kd := 21) (n := 400) (t := 0) (lo := -128) (hi := 127) (nx := 161) (by decide +kernel) ⟨by decide, by decide⟩ ⟨by omega, by omega⟩ ?_
                        intro v35 ev35 lv35 uv35
                        have G161 : fld hL30 37 43 = fld hL30 37 42 → v35 = fld hL30 98 (fld hL30 37 42).toNat := fun hq => by rw [ev35, X160 hq]
                        refine zwW_cs (k' := 245) (n := 1) (nx := 164) (as := [(0, v35)]) (st' := []) (by decide +kernel) rfl (m245 hL30 v35) rfl ?_
                        rintro x _ ⟨rfl, ⟨rfl, c36⟩ | ⟨rfl, c36⟩⟩
                        · refine zwif_eq (q := 190) (nx := 167) (by decide +kernel) (fun c37 => ?_) (fun c37 => ?_)
                          · exfalso; omega
                          · refine zwW_p [(1, 0, 2), (12, 0, 0)] (q := 169) (ls' := [(2, 37)]) (st' := [(2, 37), (2, 37)]) (by decide +kernel) rfl ?_
                            refine zwW_gs IhL30 (kd := 13) (bn := 43) (n := 97) (t := 0) (lo := 0) (hi := 400) (nx := 172) (by decide +kernel) ?_
                            intro v38 ev38 lv38 uv38
                            refine zwW_p [(0, 1, 0)] (q := 173) (ls' := [(2, 37)]) (st' := [(0, 1), (0, v38), (2, 37)]) (by decide +kernel) rfl ?_
                            refine zwW_add (nx := 174) (by decide +kernel) ⟨by omega, by omega⟩ ?_
                            refine zwW_ps IhL30 (kd := 13) (bn := 43) (n := 97) (lo := 0) (hi := 400) (nx := 177) (by decide +kernel) ⟨by omega, by omega⟩ ?_
                            intro h39 eh39 Ih39
                            have th39_37_41 : fld h39 37 41 = fld hL30 37 41 := by rw [eh39]; exact fld_wr (by decide)
                            have th39_37_42 : fld h39 37 42 = fld hL30 37 42 := by rw [eh39]; exact fld_wr (by decide)
                            have th39_37_43 : fld h39 37 43 = (v38 + 1) := by rw [eh39]; exact fld_wr_eq (IhL30.s (a1 := 37) (a2 := 37) (k := 13) (n := 97) (by decide +kernel) (by decide) (by decide)) (by decide)
                            have Rh39 : zMR ms200 h h39 := RhL30.w (a1 := 37) (a2 := 37) (j1 := 43) (j2 := 44) (by decide +kernel) ⟨by decide, by decide⟩ ⟨by decide, by decide⟩ eh39
                            refine zwW_p [(24, 141, 0)] (q := 141) (ls' := [(2, 37)]) (st' := []) (by decide +kernel) rfl ?_
                            exact IHL30 (fld h39 37 41 - fld h39 37 43).toNat (by omega) h39 rfl (by omega) (by omega) (by omega) (by omega) Ih39 Rh39
                        · refine zwif_eq (q := 190) (nx := 167) (by decide +kernel) (fun c40 => ?_) (fun c40 => ?_)
                          · refine zwW_retv (nx := 191) (a := 0) (b := 0) (by decide +kernel) ?_
                            exact ⟨IhL30, RhL30, by omega, by (unfold zP0; omega)⟩
                          · exfalso; omega
                  exact L30 _ h6 rfl (by omega) (by omega) (by omega) (by omega) Ih6 Rh6
              · refine zwif_eq (q := 180) (nx := 141) (by decide +kernel) (fun c41 => ?_) (fun c41 => ?_)
                · refine zwW_p [(1, 0, 2), (1, 0, 2)] (q := 182) (ls' := [(2, 37)]) (st' := [(2, 37), (2, 37)]) (by decide +kernel) rfl ?_
                  refine zwW_gs Ih6 (kd := 13) (bn := 42) (n := 97) (t := 0) (lo := 0) (hi := 400) (nx := 185) (by decide +kernel) ?_
                  intro v42 ev42 lv42 uv42
                  refine zwW_p [(0, 1, 0)] (q := 186) (ls' := [(2, 37)]) (st' := [(0, 1), (0, v42), (2, 37)]) (by decide +kernel) rfl ?_
                  refine zwW_add (nx := 187) (by decide +kernel) ⟨by omega, by omega⟩ ?_
                  refine zwW_ps Ih6 (kd := 13) (bn := 43) (n := 97) (lo := 0) (hi := 400) (nx := 190) (by decide +kernel) ⟨by omega, by omega⟩ ?_
                  intro h43 eh43 Ih43
                  have th43_37_41 : fld h43 37 41 = fld h6 37 41 := by rw [eh43]; exact fld_wr (by decide)
                  have th43_37_42 : fld h43 37 42 = fld h6 37 42 := by rw [eh43]; exact fld_wr (by decide)
                  have th43_37_43 : fld h43 37 43 = (v42 + 1) := by rw [eh43]; exact fld_wr_eq (Ih6.s (a1 := 37) (a2 := 37) (k := 13) (n := 97) (by decide +kernel) (by decide) (by decide)) (by decide)
                  have Rh43 : zMR ms200 h h43 := Rh6.w (a1 := 37) (a2 := 37) (j1 := 43) (j2 := 44) (by decide +kernel) ⟨by decide, by decide⟩ ⟨by decide, by decide⟩ eh43
                  refine zwW_retv (nx := 191) (a := 0) (b := 0) (by decide +kernel) ?_
                  exact ⟨Ih43, Rh43, by omega, by (unfold zP0; omega)⟩
                · exfalso; omega
            · exfalso; omega
        · refine zwW_retv (nx := 72) (a := 0) (b := 0) (by decide +kernel) ?_
          exact ⟨Ih6, Rh6, by omega, by (unfold zP0; omega)⟩
      · refine zwW_p [(1, 0, 2)] (q := 12) (ls' := [(2, 37)]) (st' := [(2, 37)]) (by decide +kernel) rfl ?_
        refine zwW_gc IhL1 (kd := 13) (bn := 40) (n := 97) (c := 98) (nx := 15) (by decide +kernel) ?_
        refine zwW_p [(1, 0, 2)] (q := 16) (ls' := [(2, 37)]) (st' := [(2, 37), (2, 98)]) (by decide +kernel) rfl ?_
        refine zwW_gs IhL1 (kd := 13) (bn := 42) (n := 97) (t := 0) (lo := 0) (hi := 400) (nx := 19) (by decide +kernel) ?_
        intro v44 ev44 lv44 uv44
        refine zwW_al IhL1 (a1 := 98) (a2 := 98) (kd := 21) (n := 400) (t := 0) (lo := -128) (hi := 127) (nx := 20) (by decide +kernel) ⟨by decide, by decide⟩ ⟨by omega, by omega⟩ ?_
        intro v45 ev45 lv45 uv45
        refine zwW_p [(0, 32, 0)] (q := 22) (ls' := [(2, 37)]) (st' := [(0, 32), (0, v45)]) (by decide +kernel) rfl ?_
        refine zwic_eq (q := 39) (nx := 25) (by decide +kernel) (fun c46 => ?_) (fun c46 => ?_)
        · refine zwW_p [(1, 0, 2), (12, 0, 0)] (q := 41) (ls' := [(2, 37)]) (st' := [(2, 37), (2, 37)]) (by decide +kernel) rfl ?_
          refine zwW_gs IhL1 (kd := 13) (bn := 42) (n := 97) (t := 0) (lo := 0) (hi := 400) (nx := 44) (by decide +kernel) ?_
          intro v47 ev47 lv47 uv47
          refine zwW_p [(0, 1, 0)] (q := 45) (ls' := [(2, 37)]) (st' := [(0, 1), (0, v47), (2, 37)]) (by decide +kernel) rfl ?_
          refine zwW_add (nx := 46) (by decide +kernel) ⟨by omega, by omega⟩ ?_
          refine zwW_ps IhL1 (kd := 13) (bn := 42) (n := 97) (lo := 0) (hi := 400) (nx := 49) (by decide +kernel) ⟨by omega, by omega⟩ ?_
          intro h48 eh48 Ih48
          have th48_37_41 : fld h48 37 41 = fld hL1 37 41 := by rw [eh48]; exact fld_wr (by decide)
          have th48_37_42 : fld h48 37 42 = (v47 + 1) := by rw [eh48]; exact fld_wr_eq (IhL1.s (a1 := 37) (a2 := 37) (k := 13) (n := 97) (by decide +kernel) (by decide) (by decide)) (by decide)
          have th48_37_43 : fld h48 37 43 = fld hL1 37 43 := by rw [eh48]; exact fld_wr (by decide)
          have Rh48 : zMR ms200 h h48 := RhL1.w (a1 := 37) (a2 := 37) (j1 := 42) (j2 := 43) (by decide +kernel) ⟨by decide, by decide⟩ ⟨by decide, by decide⟩ eh48
          refine zwW_p [(24, 0, 0)] (q := 0) (ls' := [(2, 37)]) (st' := []) (by decide +kernel) rfl ?_
          exact IHL1 (fld h48 37 41 - fld h48 37 42).toNat (by omega) h48 rfl (by omega) (by omega) (by omega) Ih48 Rh48
        · refine zwW_p [(1, 0, 2)] (q := 26) (ls' := [(2, 37)]) (st' := [(2, 37)]) (by decide +kernel) rfl ?_
          refine zwW_gc IhL1 (kd := 13) (bn := 40) (n := 97) (c := 98) (nx := 29) (by decide +kernel) ?_
          refine zwW_p [(1, 0, 2)] (q := 30) (ls' := [(2, 37)]) (st' := [(2, 37), (2, 98)]) (by decide +kernel) rfl ?_
          refine zwW_gs IhL1 (kd := 13) (bn := 42) (n := 97) (t := 0) (lo := 0) (hi := 400) (nx := 33) (by decide +kernel) ?_
          intro v49 ev49 lv49 uv49
          refine zwW_al IhL1 (a1 := 98) (a2 := 98) (kd := 21) (n := 400) (t := 0) (lo := -128) (hi := 127) (nx := 34) (by decide +kernel) ⟨by decide, by decide⟩ ⟨by omega, by omega⟩ ?_
          intro v50 ev50 lv50 uv50
          refine zwW_p [(0, 10, 0)] (q := 36) (ls' := [(2, 37)]) (st' := [(0, 10), (0, v50)]) (by decide +kernel) rfl ?_
          refine zwic_ne (q := 52) (nx := 39) (by decide +kernel) (fun c51 => ?_) (fun c51 => ?_)
          · refine zwW_p [(1, 0, 2), (1, 0, 2)] (q := 54) (ls' := [(2, 37)]) (st' := [(2, 37), (2, 37)]) (by decide +kernel) rfl ?_
            refine zwW_gs IhL1 (kd := 13) (bn := 42) (n := 97) (t := 0) (lo := 0) (hi := 400) (nx := 57) (by decide +kernel) ?_
            intro v52 ev52 lv52 uv52
            refine zwW_ps IhL1 (kd := 13) (bn := 43) (n := 97) (lo := 0) (hi := 400) (nx := 60) (by decide +kernel) ⟨by omega, by omega⟩ ?_
            intro h53 eh53 Ih53
            have th53_37_41 : fld h53 37 41 = fld hL1 37 41 := by rw [eh53]; exact fld_wr (by decide)
            have th53_37_42 : fld h53 37 42 = fld hL1 37 42 := by rw [eh53]; exact fld_wr (by decide)
            have th53_37_43 : fld h53 37 43 = v52 := by rw [eh53]; exact fld_wr_eq (IhL1.s (a1 := 37) (a2 := 37) (k := 13) (n := 97) (by decide +kernel) (by decide) (by decide)) (by decide)
            have Rh53 : zMR ms200 h h53 := RhL1.w (a1 := 37) (a2 := 37) (j1 := 43) (j2 := 44) (by decide +kernel) ⟨by decide, by decide⟩ ⟨by decide, by decide⟩ eh53
            refine zwW_p [(1, 0, 2)] (q := 61) (ls' := [(2, 37)]) (st' := [(2, 37)]) (by decide +kernel) rfl ?_
            refine zwW_gs Ih53 (kd := 13) (bn := 42) (n := 97) (t := 0) (lo := 0) (hi := 400) (nx := 64) (by decide +kernel) ?_
            intro v54 ev54 lv54 uv54
            refine zwW_p [(1, 0, 2)] (q := 65) (ls' := [(2, 37)]) (st' := [(2, 37), (0, v54)]) (by decide +kernel) rfl ?_
            refine zwW_gs Ih53 (kd := 13) (bn := 41) (n := 97) (t := 0) (lo := 0) (hi := 400) (nx := 68) (by decide +kernel) ?_
            intro v55 ev55 lv55 uv55
            refine zwic_ne (q := 72) (nx := 71) (by decide +kernel) (fun c56 => ?_) (fun c56 => ?_)
            · refine zwW_p [(1, 0, 2)] (q := 73) (ls' := [(2, 37)]) (st' := [(2, 37)]) (by decide +kernel) rfl ?_
              refine zwW_gc Ih53 (kd := 13) (bn := 40) (n := 97) (c := 98) (nx := 76) (by decide +kernel) ?_
              refine zwW_p [(1, 0, 2)] (q := 77) (ls' := [(2, 37)]) (st' := [(2, 37), (2, 98)]) (by decide +kernel) rfl ?_
              refine zwW_gs Ih53 (kd := 13) (bn := 42) (n := 97) (t := 0) (lo := 0) (hi := 400) (nx := 80) (by decide +kernel) ?_
              intro v57 ev57 lv57 uv57
              have X80 : v57 = fld h53 37 42 := by omega
              refine zwW_al Ih53 (a1 := 98) (a2 := 98) (kd := 21) (n := 400) (t := 0) (lo := -128) (hi := 127) (nx := 81) (by decide +kernel) ⟨by decide, by decide⟩ ⟨by omega, by omega⟩ ?_
              intro v58 ev58 lv58 uv58
              have G81 : v58 = fld h53 98 (fld h53 37 42).toNat := by rw [ev58, X80]
              refine zwW_cs (k' := 244) (n := 1) (nx := 84) (as := [(0, v58)]) (st' := []) (by decide +kernel) rfl (m244 h53 v58) rfl ?_
              rintro x _ ⟨rfl, ⟨rfl, c59⟩ | ⟨rfl, c59⟩⟩
              · refine zwif_eq (q := 126) (nx := 87) (by decide +kernel) (fun c60 => ?_) (fun c60 => ?_)
                · exfalso; omega
                · have L61 : ∀ (n : Nat) (hL61 : Hp), n = (fld hL61 37 41 - fld hL61 37 43).toNat → (fld hL61 37 42 < fld hL61 37 41) → (fld h 37 42 ≤ fld hL61 37 42) → (fld hL61 37 42 ≤ fld hL61 37 43 ∧ fld hL61 37 43 ≤ fld hL61 37 41) → (fld hL61 37 43 = fld hL61 37 42 → 97 ≤ fld hL61 98 (fld hL61 37 42).toNat ∧ fld hL61 98 (fld hL61 37 42).toNat ≤ 122) → zI hL61 → zMR ms200 h hL61 → zwW sc (1) 200 87 [(2, 37)] [] hL61 (zwRv (fun g => zI g ∧ zMR ms200 h g ∧ (fld h 37 42 ≤ fld g 37 42) ∧ (zP0 g))) := by
                    intro n
                    induction n using Nat.strongRecOn with
                    | ind n IHL61 =>
                      intro hL61 hnL61 iL61_0 iL61_1 iL61_2 iL61_3 IhL61 RhL61
                      refine zwW_p [(1, 0, 2)] (q := 88) (ls' := [(2, 37)]) (st' := [(2, 37)]) (by decide +kernel) rfl ?_
                      refine zwW_gs IhL61 (kd := 13) (bn := 43) (n := 97) (t := 0) (lo := 0) (hi := 400) (nx := 91) (by decide +kernel) ?_
                      intro v62 ev62 lv62 uv62
                      refine zwW_p [(1, 0, 2)] (q := 92) (ls' := [(2, 37)]) (st' := [(2, 37), (0, v62)]) (by decide +kernel) rfl ?_
                      refine zwW_gs IhL61 (kd := 13) (bn := 41) (n := 97) (t := 0) (lo := 0) (hi := 400) (nx := 95) (by decide +kernel) ?_
                      intro v63 ev63 lv63 uv63
                      refine zwic_ge (q := 190) (nx := 98) (by decide +kernel) (fun c64 => ?_) (fun c64 => ?_)
                      · refine zwW_retv (nx := 191) (a := 0) (b := 0) (by decide +kernel) ?_
                        exact ⟨IhL61, RhL61, by omega, by (unfold zP0; omega)⟩
                      · refine zwW_p [(1, 0, 2)] (q := 99) (ls' := [(2, 37)]) (st' := [(2, 37)]) (by decide +kernel) rfl ?_
                        refine zwW_gc IhL61 (kd := 13) (bn := 40) (n := 97) (c := 98) (nx := 102) (by decide +kernel) ?_
                        refine zwW_p [(1, 0, 2)] (q := 103) (ls' := [(2, 37)]) (st' := [(2, 37), (2, 98)]) (by decide +kernel) rfl ?_
                        refine zwW_gs IhL61 (kd := 13) (bn := 43) (n := 97) (t := 0) (lo := 0) (hi := 400) (nx := 106) (by decide +kernel) ?_
                        intro v65 ev65 lv65 uv65
                        have X106 : fld hL61 37 43 = fld hL61 37 42 → v65 = fld hL61 37 42 := fun hq => by omega
                        refine zwW_al IhL61 (a1 := 98) (a2 := 98) (kd := 21) (n := 400) (t := 0) (lo := -128) (hi := 127) (nx := 107) (by decide +kernel) ⟨by decide, by decide⟩ ⟨by omega, by omega⟩ ?_
                        intro v66 ev66 lv66 uv66
                        have G107 : fld hL61 37 43 = fld hL61 37 42 → v66 = fld hL61 98 (fld hL61 37 42).toNat := fun hq => by rw [ev66, X106 hq]
                        refine zwW_cs (k' := 244) (n := 1) (nx := 110) (as := [(0, v66)]) (st' := []) (by decide +kernel) rfl (m244 hL61 v66) rfl ?_
                        rintro x _ ⟨rfl, ⟨rfl, c67⟩ | ⟨rfl, c67⟩⟩
                        · refine zwif_eq (q := 190) (nx := 113) (by decide +kernel) (fun c68 => ?_) (fun c68 => ?_)
                          · exfalso; omega
                          · refine zwW_p [(1, 0, 2), (12, 0, 0)] (q := 115) (ls' := [(2, 37)]) (st' := [(2, 37), (2, 37)]) (by decide +kernel) rfl ?_
                            refine zwW_gs IhL61 (kd := 13) (bn := 43) (n := 97) (t := 0) (lo := 0) (hi := 400) (nx := 118) (by decide +kernel) ?_
                            intro v69 ev69 lv69 uv69
                            refine zwW_p [(0, 1, 0)] (q := 119) (ls' := [(2, 37)]) (st' := [(0, 1), (0, v69), (2, 37)]) (by decide +kernel) rfl ?_
                            refine zwW_add (nx := 120) (by decide +kernel) ⟨by omega, by omega⟩ ?_
                            refine zwW_ps IhL61 (kd := 13) (bn := 43) (n := 97) (lo := 0) (hi := 400) (nx := 123) (by decide +kernel) ⟨by omega, by omega⟩ ?_
                            intro h70 eh70 Ih70
                            have th70_37_41 : fld h70 37 41 = fld hL61 37 41 := by rw [eh70]; exact fld_wr (by decide)
                            have th70_37_42 : fld h70 37 42 = fld hL61 37 42 := by rw [eh70]; exact fld_wr (by decide)
                            have th70_37_43 : fld h70 37 43 = (v69 + 1) := by rw [eh70]; exact fld_wr_eq (IhL61.s (a1 := 37) (a2 := 37) (k := 13) (n := 97) (by decide +kernel) (by decide) (by decide)) (by decide)
                            have Rh70 : zMR ms200 h h70 := RhL61.w (a1 := 37) (a2 := 37) (j1 := 43) (j2 := 44) (by decide +kernel) ⟨by decide, by decide⟩ ⟨by decide, by decide⟩ eh70
                            refine zwW_p [(24, 87, 0)] (q := 87) (ls' := [(2, 37)]) (st' := []) (by decide +kernel) rfl ?_
                            exact IHL61 (fld h70 37 41 - fld h70 37 43).toNat (by omega) h70 rfl (by omega) (by omega) (by omega) (by omega) Ih70 Rh70
                        · refine zwif_eq (q := 190) (nx := 113) (by decide +kernel) (fun c71 => ?_) (fun c71 => ?_)
                          · refine zwW_retv (nx := 191) (a := 0) (b := 0) (by decide +kernel) ?_
                            exact ⟨IhL61, RhL61, by omega, by (unfold zP0; omega)⟩
                          · exfalso; omega
                  exact L61 _ h53 rfl (by omega) (by omega) (by omega) (by omega) Ih53 Rh53
              · refine zwif_eq (q := 126) (nx := 87) (by decide +kernel) (fun c72 => ?_) (fun c72 => ?_)
                · refine zwW_p [(1, 0, 2)] (q := 127) (ls' := [(2, 37)]) (st' := [(2, 37)]) (by decide +kernel) rfl ?_
                  refine zwW_gc Ih53 (kd := 13) (bn := 40) (n := 97) (c := 98) (nx := 130) (by decide +kernel) ?_
                  refine zwW_p [(1, 0, 2)] (q := 131) (ls' := [(2, 37)]) (st' := [(2, 37), (2, 98)]) (by decide +kernel) rfl ?_
                  refine zwW_gs Ih53 (kd := 13) (bn := 42) (n := 97) (t := 0) (lo := 0) (hi := 400) (nx := 134) (by decide +kernel) ?_
                  intro v73 ev73 lv73 uv73
                  have X134 : v73 = fld h53 37 42 := by omega
                  refine zwW_al Ih53 (a1 := 98) (a2 := 98) (kd := 21) (n := 400) (t := 0) (lo := -128) (hi := 127) (nx := 135) (by decide +kernel) ⟨by decide, by decide⟩ ⟨by omega, by omega⟩ ?_
                  intro v74 ev74 lv74 uv74
                  have G135 : v74 = fld h53 98 (fld h53 37 42).toNat := by rw [ev74, X134]
                  refine zwW_cs (k' := 245) (n := 1) (nx := 138) (as := [(0, v74)]) (st' := []) (by decide +kernel) rfl (m245 h53 v74) rfl ?_
                  rintro x _ ⟨rfl, ⟨rfl, c75⟩ | ⟨rfl, c75⟩⟩
                  · refine zwif_eq (q := 180) (nx := 141) (by decide +kernel) (fun c76 => ?_) (fun c76 => ?_)
                    · exfalso; omega
                    · have L77 : ∀ (n : Nat) (hL77 : Hp), n = (fld hL77 37 41 - fld hL77 37 43).toNat → (fld hL77 37 42 < fld hL77 37 41) → (fld h 37 42 ≤ fld hL77 37 42) → (fld hL77 37 42 ≤ fld hL77 37 43 ∧ fld hL77 37 43 ≤ fld hL77 37 41) → (fld hL77 37 43 = fld hL77 37 42 → 48 ≤ fld hL77 98 (fld hL77 37 42).toNat ∧ fld hL77 98 (fld hL77 37 42).toNat ≤ 57) → zI hL77 → zMR ms200 h hL77 → zwW sc (1) 200 141 [(2, 37)] [] hL77 (zwRv (fun g => zI g ∧ zMR ms200 h g ∧ (fld h 37 42 ≤ fld g 37 42) ∧ (zP0 g))) := by
                        intro n
                        induction n using Nat.strongRecOn with
                        | ind n IHL77 =>
                          intro hL77 hnL77 iL77_0 iL77_1 iL77_2 iL77_3 IhL77 RhL77
                          refine zwW_p [(1, 0, 2)] (q := 142) (ls' := [(2, 37)]) (st' := [(2, 37)]) (by decide +kernel) rfl ?_
                          refine zwW_gs IhL77 (kd := 13) (bn := 43) (n := 97) (t := 0) (lo := 0) (hi := 400) (nx := 145) (by decide +kernel) ?_
                          intro v78 ev78 lv78 uv78
                          refine zwW_p [(1, 0, 2)] (q := 146) (ls' := [(2, 37)]) (st' := [(2, 37), (0, v78)]) (by decide +kernel) rfl ?_
                          refine zwW_gs IhL77 (kd := 13) (bn := 41) (n := 97) (t := 0) (lo := 0) (hi := 400) (nx := 149) (by decide +kernel) ?_
                          intro v79 ev79 lv79 uv79
                          refine zwic_ge (q := 190) (nx := 152) (by decide +kernel) (fun c80 => ?_) (fun c80 => ?_)
                          · refine zwW_retv (nx := 191) (a := 0) (b := 0) (by decide +kernel) ?_
                            exact ⟨IhL77, RhL77, by omega, by (unfold zP0; omega)⟩
                          · refine zwW_p [(1, 0, 2)] (q := 153) (ls' := [(2, 37)]) (st' := [(2, 37)]) (by decide +kernel) rfl ?_
                            refine zwW_gc IhL77 (kd := 13) (bn := 40) (n := 97) (c := 98) (nx := 156) (by decide +kernel) ?_
                            refine zwW_p [(1, 0, 2)] (q := 157) (ls' := [(2, 37)]) (st' := [(2, 37), (2, 98)]) (by decide +kernel) rfl ?_
                            refine zwW_gs IhL77 (kd := 13) (bn := 43) (n := 97) (t := 0) (lo := 0) (hi := 400) (nx := 160) (by decide +kernel) ?_
                            intro v81 ev81 lv81 uv81
                            have X160 : fld hL77 37 43 = fld hL77 37 42 → v81 = fld hL77 37 42 := fun hq => by omega
                            refine zwW_al IhL77 (a1 := 98) (a2 := 98) (kd := 21) (n := 400) (t := 0) (lo := -128) (hi := 127) (nx := 161) (by decide +kernel) ⟨by decide, by decide⟩ ⟨by omega, by omega⟩ ?_
                            intro v82 ev82 lv82 uv82
                            have G161 : fld hL77 37 43 = fld hL77 37 42 → v82 = fld hL77 98 (fld hL77 37 42).toNat := fun hq => by rw [ev82, X160 hq]
                            refine zwW_cs (k' := 245) (n := 1) (nx := 164) (as := [(0, v82)]) (st' := []) (by decide +kernel) rfl (m245 hL77 v82) rfl ?_
                            rintro x _ ⟨rfl, ⟨rfl, c83⟩ | ⟨rfl, c83⟩⟩
                            · refine zwif_eq (q := 190) (nx := 167) (by decide +kernel) (fun c84 => ?_) (fun c84 => ?_)
                              · exfalso; omega
                              · refine zwW_p [(1, 0, 2), (12, 0, 0)] (q := 169) (ls' := [(2, 37)]) (st' := [(2, 37), (2, 37)]) (by decide +kernel) rfl ?_
                                refine zwW_gs IhL77 (kd := 13) (bn := 43) (n := 97) (t := 0) (lo := 0) (hi := 400) (nx := 172) (by decide +kernel) ?_
                                intro v85 ev85 lv85 uv85
                                refine zwW_p [(0, 1, 0)] (q := 173) (ls' := [(2, 37)]) (st' := [(0, 1), (0, v85), (2, 37)]) (by decide +kernel) rfl ?_
                                refine zwW_add (nx := 174) (by decide +kernel) ⟨by omega, by omega⟩ ?_
                                refine zwW_ps IhL77 (kd := 13) (bn := 43) (n := 97) (lo := 0) (hi := 400) (nx := 177) (by decide +kernel) ⟨by omega, by omega⟩ ?_
                                intro h86 eh86 Ih86
                                have th86_37_41 : fld h86 37 41 = fld hL77 37 41 := by rw [eh86]; exact fld_wr (by decide)
                                have th86_37_42 : fld h86 37 42 = fld hL77 37 42 := by rw [eh86]; exact fld_wr (by decide)
                                have th86_37_43 : fld h86 37 43 = (v85 + 1) := by rw [eh86]; exact fld_wr_eq (IhL77.s (a1 := 37) (a2 := 37) (k := 13) (n := 97) (by decide +kernel) (by decide) (by decide)) (by decide)
                                have Rh86 : zMR ms200 h h86 := RhL77.w (a1 := 37) (a2 := 37) (j1 := 43) (j2 := 44) (by decide +kernel) ⟨by decide, by decide⟩ ⟨by decide, by decide⟩ eh86
                                refine zwW_p [(24, 141, 0)] (q := 141) (ls' := [(2, 37)]) (st' := []) (by decide +kernel) rfl ?_
                                exact IHL77 (fld h86 37 41 - fld h86 37 43).toNat (by omega) h86 rfl (by omega) (by omega) (by omega) (by omega) Ih86 Rh86
                            · refine zwif_eq (q := 190) (nx := 167) (by decide +kernel) (fun c87 => ?_) (fun c87 => ?_)
                              · refine zwW_retv (nx := 191) (a := 0) (b := 0) (by decide +kernel) ?_
                                exact ⟨IhL77, RhL77, by omega, by (unfold zP0; omega)⟩
                              · exfalso; omega
                      exact L77 _ h53 rfl (by omega) (by omega) (by omega) (by omega) Ih53 Rh53
                  · refine zwif_eq (q := 180) (nx := 141) (by decide +kernel) (fun c88 => ?_) (fun c88 => ?_)
                    · refine zwW_p [(1, 0, 2), (1, 0, 2)] (q := 182) (ls' := [(2, 37)]) (st' := [(2, 37), (2, 37)]) (by decide +kernel) rfl ?_
                      refine zwW_gs Ih53 (kd := 13) (bn := 42) (n := 97) (t := 0) (lo := 0) (hi := 400) (nx := 185) (by decide +kernel) ?_
                      intro v89 ev89 lv89 uv89
                      refine zwW_p [(0, 1, 0)] (q := 186) (ls' := [(2, 37)]) (st' := [(0, 1), (0, v89), (2, 37)]) (by decide +kernel) rfl ?_
                      refine zwW_add (nx := 187) (by decide +kernel) ⟨by omega, by omega⟩ ?_
                      refine zwW_ps Ih53 (kd := 13) (bn := 43) (n := 97) (lo := 0) (hi := 400) (nx := 190) (by decide +kernel) ⟨by omega, by omega⟩ ?_
                      intro h90 eh90 Ih90
                      have th90_37_41 : fld h90 37 41 = fld h53 37 41 := by rw [eh90]; exact fld_wr (by decide)
                      have th90_37_42 : fld h90 37 42 = fld h53 37 42 := by rw [eh90]; exact fld_wr (by decide)
                      have th90_37_43 : fld h90 37 43 = (v89 + 1) := by rw [eh90]; exact fld_wr_eq (Ih53.s (a1 := 37) (a2 := 37) (k := 13) (n := 97) (by decide +kernel) (by decide) (by decide)) (by decide)
                      have Rh90 : zMR ms200 h h90 := Rh53.w (a1 := 37) (a2 := 37) (j1 := 43) (j2 := 44) (by decide +kernel) ⟨by decide, by decide⟩ ⟨by decide, by decide⟩ eh90
                      refine zwW_retv (nx := 191) (a := 0) (b := 0) (by decide +kernel) ?_
                      exact ⟨Ih90, Rh90, by omega, by (unfold zP0; omega)⟩
                    · exfalso; omega
                · exfalso; omega
            · refine zwW_retv (nx := 72) (a := 0) (b := 0) (by decide +kernel) ?_
              exact ⟨Ih53, Rh53, by omega, by (unfold zP0; omega)⟩
          · refine zwW_p [(1, 0, 2), (12, 0, 0)] (q := 41) (ls' := [(2, 37)]) (st' := [(2, 37), (2, 37)]) (by decide +kernel) rfl ?_
            refine zwW_gs IhL1 (kd := 13) (bn := 42) (n := 97) (t := 0) (lo := 0) (hi := 400) (nx := 44) (by decide +kernel) ?_
            intro v91 ev91 lv91 uv91
            refine zwW_p [(0, 1, 0)] (q := 45) (ls' := [(2, 37)]) (st' := [(0, 1), (0, v91), (2, 37)]) (by decide +kernel) rfl ?_
            refine zwW_add (nx := 46) (by decide +kernel) ⟨by omega, by omega⟩ ?_
            refine zwW_ps IhL1 (kd := 13) (bn := 42) (n := 97) (lo := 0) (hi := 400) (nx := 49) (by decide +kernel) ⟨by omega, by omega⟩ ?_
            intro h92 eh92 Ih92
            have th92_37_41 : fld h92 37 41 = fld hL1 37 41 := by rw [eh92]; exact fld_wr (by decide)
            have th92_37_42 : fld h92 37 42 = (v91 + 1) := by rw [eh92]; exact fld_wr_eq (IhL1.s (a1 := 37) (a2 := 37) (k := 13) (n := 97) (by decide +kernel) (by decide) (by decide)) (by decide)
            have th92_37_43 : fld h92 37 43 = fld hL1 37 43 := by rw [eh92]; exact fld_wr (by decide)
            have Rh92 : zMR ms200 h h92 := RhL1.w (a1 := 37) (a2 := 37) (j1 := 42) (j2 := 43) (by decide +kernel) ⟨by decide, by decide⟩ ⟨by decide, by decide⟩ eh92
            refine zwW_p [(24, 0, 0)] (q := 0) (ls' := [(2, 37)]) (st' := []) (by decide +kernel) rfl ?_
            exact IHL1 (fld h92 37 41 - fld h92 37 42).toNat (by omega) h92 rfl (by omega) (by omega) (by omega) Ih92 Rh92
  exact L1 _ h rfl (by omega) (by omega) (by omega) I R
def ms268 : Zms := [(37, 37, 42, 43), (37, 37, 43, 44)]
-- WheelLandModel.goesOn()V
theorem m268 {sc : List Int} (h : Hp) (I : zI h) (hP : zP0 h) : zwC sc 3 268 [(2, 37)] h (zwRv (fun g => zI g ∧ zMR ms268 h g ∧ (fld h 37 43 ≤ fld g 37 42) ∧ (zP0 g))) := by
  refine zwC_of (D := 2) 1 (by decide +kernel) rfl (ls := [(2, 37)]) rfl ?_
  have R : zMR ms268 h h := zMR.rf _ _
  have hP0 := hP
  unfold zP0 at hP0
  refine zwW_p [(1, 0, 2), (1, 0, 2)] (q := 2) (ls' := [(2, 37)]) (st' := [(2, 37), (2, 37)]) (by decide +kernel) rfl ?_
  refine zwW_gs I (kd := 13) (bn := 43) (n := 97) (t := 0) (lo := 0) (hi := 400) (nx := 5) (by decide +kernel) ?_
  intro v1 ev1 lv1 uv1
  refine zwW_ps I (kd := 13) (bn := 42) (n := 97) (lo := 0) (hi := 400) (nx := 8) (by decide +kernel) ⟨by omega, by omega⟩ ?_
  intro h2 eh2 Ih2
  have th2_37_41 : fld h2 37 41 = fld h 37 41 := by rw [eh2]; exact fld_wr (by decide)
  have th2_37_42 : fld h2 37 42 = v1 := by rw [eh2]; exact fld_wr_eq (I.s (a1 := 37) (a2 := 37) (k := 13) (n := 97) (by decide +kernel) (by decide) (by decide)) (by decide)
  have th2_37_43 : fld h2 37 43 = fld h 37 43 := by rw [eh2]; exact fld_wr (by decide)
  have Rh2 : zMR ms268 h h2 := R.w (a1 := 37) (a2 := 37) (j1 := 42) (j2 := 43) (by decide +kernel) ⟨by decide, by decide⟩ ⟨by decide, by decide⟩ eh2
  refine zwW_p [(1, 0, 2)] (q := 9) (ls' := [(2, 37)]) (st' := [(2, 37)]) (by decide +kernel) rfl ?_
  refine zwW_cmv Ih2 (op := 60) (k' := 200) (n := 0) (kd := 13) (m := 97) (nx := 12) (r := 37) (tl := []) (st' := []) (by decide +kernel) rfl (by decide +kernel) rfl (m200 h2 Ih2 (by omega)) ?_
  rintro h5 ⟨Ih5, Qh5, f3, f4⟩
  have Rh5 : zMR ms268 h h5 := Rh2.tr Qh5 (by decide +kernel)
  have th5_37_41 : fld h5 37 41 = fld h2 37 41 := Qh5.f (a1 := 37) (a2 := 37) (j1 := 41) (j2 := 42) (by decide +kernel) ⟨by decide, by decide⟩ ⟨by decide, by decide⟩
  refine zwW_retv (nx := 13) (a := 0) (b := 0) (by decide +kernel) ?_
  exact ⟨Ih5, Rh5, by omega, by exact f4⟩
-- WheelLandModel.isSign(I)Z
theorem m250 {sc : List Int} (h : Hp) (I : zI h) (a : Int) : zwC sc 1 250 [(2, 37), (0, a)] h (zwRt 0 (fun x g => h = g ∧ ((x = 1 ∧ (fld h 37 42 < fld h 37 41 ∧ fld h 98 (fld h 37 42).toNat = a)) ∨ (x = 0 ∧ (True))))) := by
  refine zwC_of (D := 0) 2 (by decide +kernel) rfl (ls := [(2, 37), (0, a)]) rfl ?_
  refine zwW_p [(1, 0, 2)] (q := 1) (ls' := [(2, 37), (0, a)]) (st' := [(2, 37)]) (by decide +kernel) rfl ?_
  refine zwW_gs I (kd := 13) (bn := 42) (n := 97) (t := 0) (lo := 0) (hi := 400) (nx := 4) (by decide +kernel) ?_
  intro v1 ev1 lv1 uv1
  refine zwW_p [(1, 0, 2)] (q := 5) (ls' := [(2, 37), (0, a)]) (st' := [(2, 37), (0, v1)]) (by decide +kernel) rfl ?_
  refine zwW_gs I (kd := 13) (bn := 41) (n := 97) (t := 0) (lo := 0) (hi := 400) (nx := 8) (by decide +kernel) ?_
  intro v2 ev2 lv2 uv2
  refine zwic_ge (q := 28) (nx := 11) (by decide +kernel) (fun c3 => ?_) (fun c3 => ?_)
  · refine zwW_p [(0, 0, 0)] (q := 29) (ls' := [(2, 37), (0, a)]) (st' := [(0, 0)]) (by decide +kernel) rfl ?_
    refine zwW_ret (nx := 30) (a := 1) (b := 0) (by decide +kernel) rfl (Or.inr (Or.inl ⟨rfl, by omega⟩)) ?_
    exact ⟨rfl, Or.inr ⟨rfl, by trivial⟩⟩
  · refine zwW_p [(1, 0, 2)] (q := 12) (ls' := [(2, 37), (0, a)]) (st' := [(2, 37)]) (by decide +kernel) rfl ?_
    refine zwW_gc I (kd := 13) (bn := 40) (n := 97) (c := 98) (nx := 15) (by decide +kernel) ?_
    refine zwW_p [(1, 0, 2)] (q := 16) (ls' := [(2, 37), (0, a)]) (st' := [(2, 37), (2, 98)]) (by decide +kernel) rfl ?_
    refine zwW_gs I (kd := 13) (bn := 42) (n := 97) (t := 0) (lo := 0) (hi := 400) (nx := 19) (by decide +kernel) ?_
    intro v4 ev4 lv4 uv4
    have X19 : v4 = fld h 37 42 := by omega
    refine zwW_al I (a1 := 98) (a2 := 98) (kd := 21) (n := 400) (t := 0) (lo := -128) (hi := 127) (nx := 20) (by decide +kernel) ⟨by decide, by decide⟩ ⟨by omega, by omega⟩ ?_
    intro v5 ev5 lv5 uv5
    have G20 : v5 = fld h 98 (fld h 37 42).toNat := by rw [ev5, X19]
    refine zwW_p [(1, 1, 0)] (q := 21) (ls' := [(2, 37), (0, a)]) (st' := [(0, a), (0, v5)]) (by decide +kernel) rfl ?_
    refine zwic_ne (q := 28) (nx := 24) (by decide +kernel) (fun c6 => ?_) (fun c6 => ?_)
    · refine zwW_p [(0, 0, 0)] (q := 29) (ls' := [(2, 37), (0, a)]) (st' := [(0, 0)]) (by decide +kernel) rfl ?_
      refine zwW_ret (nx := 30) (a := 1) (b := 0) (by decide +kernel) rfl (Or.inr (Or.inl ⟨rfl, by omega⟩)) ?_
      exact ⟨rfl, Or.inr ⟨rfl, by trivial⟩⟩
    · refine zwW_p [(0, 1, 0), (24, 29, 0)] (q := 29) (ls' := [(2, 37), (0, a)]) (st' := [(0, 1)]) (by decide +kernel) rfl ?_
      refine zwW_ret (nx := 30) (a := 1) (b := 0) (by decide +kernel) rfl (Or.inr (Or.inl ⟨rfl, by omega⟩)) ?_
      exact ⟨rfl, Or.inl ⟨rfl, by omega⟩⟩
def ms267 : Zms := [(37, 37, 44, 45)]
-- WheelLandModel.fails()Z
theorem m267 {sc : List Int} (h : Hp) (I : zI h) : zwC sc 1 267 [(2, 37)] h (zwRt 0 (fun x g => zI g ∧ zMR ms267 h g ∧ x = 0 ∧ (0 ≤ fld g 37 44))) := by
  refine zwC_of (D := 0) 1 (by decide +kernel) rfl (ls := [(2, 37)]) rfl ?_
  have R : zMR ms267 h h := zMR.rf _ _
  refine zwW_p [(1, 0, 2)] (q := 1) (ls' := [(2, 37)]) (st' := [(2, 37)]) (by decide +kernel) rfl ?_
  refine zwW_gs I (kd := 13) (bn := 44) (n := 97) (t := 0) (lo := -1) (hi := 400) (nx := 4) (by decide +kernel) ?_
  intro v1 ev1 lv1 uv1
  refine zwW_p [(0, -1, 0)] (q := 5) (ls' := [(2, 37)]) (st' := [(0, -1), (0, v1)]) (by decide +kernel) rfl ?_
  refine zwic_ne (q := 16) (nx := 8) (by decide +kernel) (fun c2 => ?_) (fun c2 => ?_)
  · refine zwW_p [(0, 0, 0)] (q := 17) (ls' := [(2, 37)]) (st' := [(0, 0)]) (by decide +kernel) rfl ?_
    refine zwW_ret (nx := 18) (a := 1) (b := 0) (by decide +kernel) rfl (Or.inr (Or.inl ⟨rfl, by omega⟩)) ?_
    exact ⟨I, R, rfl, by omega⟩
  · refine zwW_p [(1, 0, 2), (1, 0, 2)] (q := 10) (ls' := [(2, 37)]) (st' := [(2, 37), (2, 37)]) (by decide +kernel) rfl ?_
    refine zwW_gs I (kd := 13) (bn := 42) (n := 97) (t := 0) (lo := 0) (hi := 400) (nx := 13) (by decide +kernel) ?_
    intro v3 ev3 lv3 uv3
    refine zwW_ps I (kd := 13) (bn := 44) (n := 97) (lo := -1) (hi := 400) (nx := 16) (by decide +kernel) ⟨by omega, by omega⟩ ?_
    intro h4 eh4 Ih4
    have th4_37_44 : fld h4 37 44 = v3 := by rw [eh4]; exact fld_wr_eq (I.s (a1 := 37) (a2 := 37) (k := 13) (n := 97) (by decide +kernel) (by decide) (by decide)) (by decide)
    have Rh4 : zMR ms267 h h4 := R.w (a1 := 37) (a2 := 37) (j1 := 44) (j2 := 45) (by decide +kernel) ⟨by decide, by decide⟩ ⟨by decide, by decide⟩ eh4
    refine zwW_p [(0, 0, 0)] (q := 17) (ls' := [(2, 37)]) (st' := [(0, 0)]) (by decide +kernel) rfl ?_
    refine zwW_ret (nx := 18) (a := 1) (b := 0) (by decide +kernel) rfl (Or.inr (Or.inl ⟨rfl, by omega⟩)) ?_
    exact ⟨Ih4, Rh4, rfl, by omega⟩
def ms247 : Zms := [(37, 37, 42, 43), (37, 37, 43, 44), (37, 37, 44, 45)]
-- WheelLandModel.passes(Z)Z
theorem m247 {sc : List Int} (h : Hp) (I : zI h) (a : Int) (hP : zP0 h) : zwC sc 4 247 [(2, 37), (0, a)] h (zwRt 0 (fun x g => zI g ∧ zMR ms247 h g ∧ ((x = 1 ∧ (a ≠ 0) ∧ (zP0 g) ∧ (fld h 37 43 ≤ fld g 37 42) ∧ (fld g 37 44 = fld h 37 44)) ∨ (x = 0 ∧ (a = 0) ∧ (zP0 g) ∧ (0 ≤ fld g 37 44))))) := by
  refine zwC_of (D := 3) 2 (by decide +kernel) rfl (ls := [(2, 37), (0, a)]) rfl ?_
  have R : zMR ms247 h h := zMR.rf _ _
  refine zwW_p [(1, 1, 0)] (q := 1) (ls' := [(2, 37), (0, a)]) (st' := [(0, a)]) (by decide +kernel) rfl ?_
  refine zwif_ne (q := 9) (nx := 4) (by decide +kernel) (fun c1 => ?_) (fun c1 => ?_)
  · refine zwW_p [(1, 0, 2)] (q := 10) (ls' := [(2, 37), (0, a)]) (st' := [(2, 37)]) (by decide +kernel) rfl ?_
    refine zwW_cmv I (op := 60) (k' := 268) (n := 0) (kd := 13) (m := 97) (nx := 13) (r := 37) (tl := []) (st' := []) (by decide +kernel) rfl (by decide +kernel) rfl (m268 h I (by omega)) ?_
    rintro h4 ⟨Ih4, Qh4, f2, f3⟩
    have Rh4 : zMR ms247 h h4 := R.tr Qh4 (by decide +kernel)
    have th4_37_44 : fld h4 37 44 = fld h 37 44 := Qh4.f (a1 := 37) (a2 := 37) (j1 := 44) (j2 := 45) (by decide +kernel) ⟨by decide, by decide⟩ ⟨by decide, by decide⟩
    refine zwW_p [(0, 1, 0)] (q := 14) (ls' := [(2, 37), (0, a)]) (st' := [(0, 1)]) (by decide +kernel) rfl ?_
    refine zwW_ret (nx := 15) (a := 1) (b := 0) (by decide +kernel) rfl (Or.inr (Or.inl ⟨rfl, by omega⟩)) ?_
    exact ⟨Ih4, Rh4, Or.inl ⟨rfl, by omega, by exact f3, by omega, by omega⟩⟩
  · refine zwW_p [(1, 0, 2)] (q := 5) (ls' := [(2, 37), (0, a)]) (st' := [(2, 37)]) (by decide +kernel) rfl ?_
    refine zwW_cm I (op := 60) (k' := 267) (n := 0) (kd := 13) (m := 97) (nx := 8) (r := 37) (tl := []) (st' := []) (by decide +kernel) rfl (by decide +kernel) rfl (m267 h I) ?_
    rintro x h6 ⟨Ih6, Qh6, rfl, f5⟩
    have Rh6 : zMR ms247 h h6 := R.tr Qh6 (by decide +kernel)
    refine zwW_ret (nx := 9) (a := 1) (b := 0) (by decide +kernel) rfl (Or.inr (Or.inl ⟨rfl, by omega⟩)) ?_
    exact ⟨Ih6, Rh6, Or.inr ⟨rfl, by omega, by exact hP.mr Qh6 (by decide +kernel), by omega⟩⟩
def ms270 : Zms := [(37, 37, 45, 46), (149, 153, 0, 840)]
-- WheelLandModel.puts(II)Z
theorem m270 {sc : List Int} (h : Hp) (I : zI h) (a b : Int) (q_a : -2147483648 ≤ a ∧ a ≤ 2147483647) (q_b : -2147483648 ≤ b ∧ b ≤ 2147483647) (p1 : 0 ≤ fld h 37 47) (p2 : fld h 37 45 ≤ 399) : zwC sc 1 270 [(2, 37), (0, a), (0, b)] h (zwRt 0 (fun x g => zI g ∧ zMR ms270 h g ∧ x = 1 ∧ (fld g 37 45 = fld h 37 45 + 1) ∧ (∀ j : Nat, fld g (149 + fld h 37 47) j = if j = 2 * (fld h 37 45).toNat + 1 then b else if j = 2 * (fld h 37 45).toNat then a else fld h (149 + fld h 37 47) j) ∧ (∀ r : Int, 149 ≤ r → r ≤ 153 → r ≠ 149 + fld h 37 47 → fld g r = fld h r))) := by
  refine zwC_of (D := 0) 3 (by decide +kernel) rfl (ls := [(2, 37), (0, a), (0, b)]) rfl ?_
  have R : zMR ms270 h h := zMR.rf _ _
  refine zwW_p [(1, 0, 2)] (q := 1) (ls' := [(2, 37), (0, a), (0, b)]) (st' := [(2, 37)]) (by decide +kernel) rfl ?_
  refine zwW_gc I (kd := 13) (bn := 48) (n := 97) (c := 99) (nx := 4) (by decide +kernel) ?_
  refine zwW_p [(0, 8, 0)] (q := 6) (ls' := [(2, 37), (0, a), (0, b)]) (st' := [(0, 8), (2, 99)]) (by decide +kernel) rfl ?_
  refine zwW_ro I (a := 99) (n := 9) (kd := 27) (base := 100) (step := 6) (nx := 7) (by decide +kernel) rfl ⟨by decide, by decide⟩ ?_
  rw [show ((100 : Nat) : Int) + ((6 : Nat) : Int) * 8 = 148 from rfl]
  refine zwW_p [(1, 0, 2)] (q := 8) (ls' := [(2, 37), (0, a), (0, b)]) (st' := [(2, 37), (2, 148)]) (by decide +kernel) rfl ?_
  refine zwW_gs I (kd := 13) (bn := 47) (n := 97) (t := 0) (lo := -1) (hi := 4) (nx := 11) (by decide +kernel) ?_
  intro v1 ev1 lv1 uv1
  refine zwW_ro I (a := 148) (n := 5) (kd := 26) (base := 149) (step := 1) (nx := 12) (by decide +kernel) rfl ⟨by omega, by omega⟩ ?_
  rw [show ((149 : Nat) : Int) + ((1 : Nat) : Int) * v1 = (149 + v1) by omega]
  refine zwW_p [(0, 2, 0), (1, 0, 2)] (q := 14) (ls' := [(2, 37), (0, a), (0, b)]) (st' := [(2, 37), (0, 2), (2, (149 + v1))]) (by decide +kernel) rfl ?_
  refine zwW_gs I (kd := 13) (bn := 45) (n := 97) (t := 0) (lo := 0) (hi := 400) (nx := 17) (by decide +kernel) ?_
  intro v2 ev2 lv2 uv2
  refine zwW_mul (nx := 18) (by decide +kernel) ⟨by omega, by omega⟩ ?_
  refine zwW_p [(1, 1, 0)] (q := 19) (ls' := [(2, 37), (0, a), (0, b)]) (st' := [(0, a), (0, (2 * v2)), (2, (149 + v1))]) (by decide +kernel) rfl ?_
  refine zwW_as I (a1 := 149) (a2 := 153) (n := 840) (lo := -2147483648) (hi := 2147483647) (nx := 20) (by decide +kernel) ⟨by omega, by omega⟩ ⟨by omega, by omega⟩ ⟨by omega, by omega⟩ ?_
  intro h3 eh3 Ih3
  have th3_37_45 : fld h3 37 45 = fld h 37 45 := by rw [eh3]; exact fld_wr (by omega)
  have th3_37_47 : fld h3 37 47 = fld h 37 47 := by rw [eh3]; exact fld_wr (by omega)
  have E19 : h3 = wr h (149 + fld h 37 47) (2 * (fld h 37 45).toNat) a := by rw [eh3, show (149 + v1) = 149 + fld h 37 47 by omega, show ((2 * v2)).toNat = 2 * (fld h 37 45).toNat by omega]
  have Rh3 : zMR ms270 h h3 := R.w (a1 := 149) (a2 := 153) (j1 := 0) (j2 := 840) (by decide +kernel) ⟨by omega, by omega⟩ ⟨by omega, by omega⟩ eh3
  refine zwW_p [(1, 0, 2)] (q := 21) (ls' := [(2, 37), (0, a), (0, b)]) (st' := [(2, 37)]) (by decide +kernel) rfl ?_
  refine zwW_gc Ih3 (kd := 13) (bn := 48) (n := 97) (c := 99) (nx := 24) (by decide +kernel) ?_
  refine zwW_p [(0, 8, 0)] (q := 26) (ls' := [(2, 37), (0, a), (0, b)]) (st' := [(0, 8), (2, 99)]) (by decide +kernel) rfl ?_
  refine zwW_ro Ih3 (a := 99) (n := 9) (kd := 27) (base := 100) (step := 6) (nx := 27) (by decide +kernel) rfl ⟨by decide, by decide⟩ ?_
  rw [show ((100 : Nat) : Int) + ((6 : Nat) : Int) * 8 = 148 from rfl]
  refine zwW_p [(1, 0, 2)] (q := 28) (ls' := [(2, 37), (0, a), (0, b)]) (st' := [(2, 37), (2, 148)]) (by decide +kernel) rfl ?_
  refine zwW_gs Ih3 (kd := 13) (bn := 47) (n := 97) (t := 0) (lo := -1) (hi := 4) (nx := 31) (by decide +kernel) ?_
  intro v4 ev4 lv4 uv4
  refine zwW_ro Ih3 (a := 148) (n := 5) (kd := 26) (base := 149) (step := 1) (nx := 32) (by decide +kernel) rfl ⟨by omega, by omega⟩ ?_
  rw [show ((149 : Nat) : Int) + ((1 : Nat) : Int) * v4 = (149 + v4) by omega]
  refine zwW_p [(0, 2, 0), (1, 0, 2)] (q := 34) (ls' := [(2, 37), (0, a), (0, b)]) (st' := [(2, 37), (0, 2), (2, (149 + v4))]) (by decide +kernel) rfl ?_
  refine zwW_gs Ih3 (kd := 13) (bn := 45) (n := 97) (t := 0) (lo := 0) (hi := 400) (nx := 37) (by decide +kernel) ?_
  intro v5 ev5 lv5 uv5
  refine zwW_mul (nx := 38) (by decide +kernel) ⟨by omega, by omega⟩ ?_
  refine zwW_p [(0, 1, 0)] (q := 39) (ls' := [(2, 37), (0, a), (0, b)]) (st' := [(0, 1), (0, (2 * v5)), (2, (149 + v4))]) (by decide +kernel) rfl ?_
  refine zwW_add (nx := 40) (by decide +kernel) ⟨by omega, by omega⟩ ?_
  refine zwW_p [(1, 2, 0)] (q := 41) (ls' := [(2, 37), (0, a), (0, b)]) (st' := [(0, b), (0, ((2 * v5) + 1)), (2, (149 + v4))]) (by decide +kernel) rfl ?_
  refine zwW_as Ih3 (a1 := 149) (a2 := 153) (n := 840) (lo := -2147483648) (hi := 2147483647) (nx := 42) (by decide +kernel) ⟨by omega, by omega⟩ ⟨by omega, by omega⟩ ⟨by omega, by omega⟩ ?_
  intro h6 eh6 Ih6
  have th6_37_45 : fld h6 37 45 = fld h3 37 45 := by rw [eh6]; exact fld_wr (by omega)
  have th6_37_47 : fld h6 37 47 = fld h3 37 47 := by rw [eh6]; exact fld_wr (by omega)
  have E41 : h6 = wr h3 (149 + fld h 37 47) (2 * (fld h 37 45).toNat + 1) b := by rw [eh6, show (149 + v4) = 149 + fld h 37 47 by omega, show (((2 * v5) + 1)).toNat = 2 * (fld h 37 45).toNat + 1 by omega]
  have Rh6 : zMR ms270 h h6 := Rh3.w (a1 := 149) (a2 := 153) (j1 := 0) (j2 := 840) (by decide +kernel) ⟨by omega, by omega⟩ ⟨by omega, by omega⟩ eh6
  refine zwW_p [(1, 0, 2), (12, 0, 0)] (q := 44) (ls' := [(2, 37), (0, a), (0, b)]) (st' := [(2, 37), (2, 37)]) (by decide +kernel) rfl ?_
  refine zwW_gs Ih6 (kd := 13) (bn := 45) (n := 97) (t := 0) (lo := 0) (hi := 400) (nx := 47) (by decide +kernel) ?_
  intro v7 ev7 lv7 uv7
  refine zwW_p [(0, 1, 0)] (q := 48) (ls' := [(2, 37), (0, a), (0, b)]) (st' := [(0, 1), (0, v7), (2, 37)]) (by decide +kernel) rfl ?_
  refine zwW_add (nx := 49) (by decide +kernel) ⟨by omega, by omega⟩ ?_
  refine zwW_ps Ih6 (kd := 13) (bn := 45) (n := 97) (lo := 0) (hi := 400) (nx := 52) (by decide +kernel) ⟨by omega, by omega⟩ ?_
  intro h8 eh8 Ih8
  have th8_37_45 : fld h8 37 45 = (v7 + 1) := by rw [eh8]; exact fld_wr_eq (Ih6.s (a1 := 37) (a2 := 37) (k := 13) (n := 97) (by decide +kernel) (by decide) (by decide)) (by decide)
  have th8_37_47 : fld h8 37 47 = fld h6 37 47 := by rw [eh8]; exact fld_wr (by decide)
  have E49 := eh8
  have Rh8 : zMR ms270 h h8 := Rh6.w (a1 := 37) (a2 := 37) (j1 := 45) (j2 := 46) (by decide +kernel) ⟨by decide, by decide⟩ ⟨by decide, by decide⟩ eh8
  refine zwW_p [(0, 1, 0)] (q := 53) (ls' := [(2, 37), (0, a), (0, b)]) (st' := [(0, 1)]) (by decide +kernel) rfl ?_
  refine zwW_ret (nx := 54) (a := 1) (b := 0) (by decide +kernel) rfl (Or.inr (Or.inl ⟨rfl, by omega⟩)) ?_
  exact ⟨Ih8, Rh8, rfl, by omega, by exact puts_fact E19 E41 E49 (by omega) (I.s (a1 := 149) (a2 := 153) (by decide +kernel) (by omega) (by omega)) (by omega), by exact fun r k1 k2 k3 => puts_oth E19 E41 E49 r k1 k3⟩
def ms296 : Zms := [(37, 37, 46, 47)]
-- WheelLandModel.isNumber()Z
theorem m296 {sc : List Int} (h : Hp) (I : zI h) (hP : zP0 h) : zwC sc 2 296 [(2, 37)] h (zwRt 0 (fun x g => zI g ∧ zMR ms296 h g ∧ ((x = 1 ∧ (fld h 37 42 < fld h 37 41)) ∨ (x = 0)))) := by
  refine zwC_of (D := 1) 2 (by decide +kernel) rfl (ls := [(2, 37), (9, 0)]) rfl ?_
  have R : zMR ms296 h h := zMR.rf _ _
  have hP0 := hP
  unfold zP0 at hP0
  refine zwW_p [(1, 0, 2)] (q := 1) (ls' := [(2, 37), (9, 0)]) (st' := [(2, 37)]) (by decide +kernel) rfl ?_
  refine zwW_gs I (kd := 13) (bn := 42) (n := 97) (t := 0) (lo := 0) (hi := 400) (nx := 4) (by decide +kernel) ?_
  intro v1 ev1 lv1 uv1
  refine zwW_p [(1, 0, 2)] (q := 5) (ls' := [(2, 37), (9, 0)]) (st' := [(2, 37), (0, v1)]) (by decide +kernel) rfl ?_
  refine zwW_gs I (kd := 13) (bn := 41) (n := 97) (t := 0) (lo := 0) (hi := 400) (nx := 8) (by decide +kernel) ?_
  intro v2 ev2 lv2 uv2
  refine zwic_eq (q := 26) (nx := 11) (by decide +kernel) (fun c3 => ?_) (fun c3 => ?_)
  · refine zwW_p [(0, 0, 0)] (q := 27) (ls' := [(2, 37), (9, 0)]) (st' := [(0, 0)]) (by decide +kernel) rfl ?_
    refine zwW_ret (nx := 28) (a := 1) (b := 0) (by decide +kernel) rfl (Or.inr (Or.inl ⟨rfl, by omega⟩)) ?_
    exact ⟨I, R, Or.inr rfl⟩
  · refine zwW_p [(1, 0, 2)] (q := 12) (ls' := [(2, 37), (9, 0)]) (st' := [(2, 37)]) (by decide +kernel) rfl ?_
    refine zwW_gc I (kd := 13) (bn := 40) (n := 97) (c := 98) (nx := 15) (by decide +kernel) ?_
    refine zwW_p [(1, 0, 2)] (q := 16) (ls' := [(2, 37), (9, 0)]) (st' := [(2, 37), (2, 98)]) (by decide +kernel) rfl ?_
    refine zwW_gs I (kd := 13) (bn := 42) (n := 97) (t := 0) (lo := 0) (hi := 400) (nx := 19) (by decide +kernel) ?_
    intro v4 ev4 lv4 uv4
    refine zwW_al I (a1 := 98) (a2 := 98) (kd := 21) (n := 400) (t := 0) (lo := -128) (hi := 127) (nx := 20) (by decide +kernel) ⟨by decide, by decide⟩ ⟨by omega, by omega⟩ ?_
    intro v5 ev5 lv5 uv5
    refine zwW_cs (k' := 245) (n := 1) (nx := 23) (as := [(0, v5)]) (st' := []) (by decide +kernel) rfl (m245 h v5) rfl ?_
    rintro x _ ⟨rfl, ⟨rfl, c6⟩ | ⟨rfl, c6⟩⟩
    · refine zwif_ne (q := 28) (nx := 26) (by decide +kernel) (fun c7 => ?_) (fun c7 => ?_)
      · refine zwW_p [(1, 0, 2), (0, 0, 0)] (q := 30) (ls' := [(2, 37), (9, 0)]) (st' := [(0, 0), (2, 37)]) (by decide +kernel) rfl ?_
        refine zwW_ps I (kd := 13) (bn := 46) (n := 97) (lo := -2147483648) (hi := 2147483647) (nx := 33) (by decide +kernel) ⟨by decide, by decide⟩ ?_
        intro h8 eh8 Ih8
        have th8_37_41 : fld h8 37 41 = fld h 37 41 := by rw [eh8]; exact fld_wr (by decide)
        have th8_37_42 : fld h8 37 42 = fld h 37 42 := by rw [eh8]; exact fld_wr (by decide)
        have th8_37_43 : fld h8 37 43 = fld h 37 43 := by rw [eh8]; exact fld_wr (by decide)
        have Rh8 : zMR ms296 h h8 := R.w (a1 := 37) (a2 := 37) (j1 := 46) (j2 := 47) (by decide +kernel) ⟨by decide, by decide⟩ ⟨by decide, by decide⟩ eh8
        refine zwW_p [(1, 0, 2)] (q := 34) (ls' := [(2, 37), (9, 0)]) (st' := [(2, 37)]) (by decide +kernel) rfl ?_
        refine zwW_gs Ih8 (kd := 13) (bn := 42) (n := 97) (t := 0) (lo := 0) (hi := 400) (nx := 37) (by decide +kernel) ?_
        intro v9 ev9 lv9 uv9
        refine zwW_p [(2, 1, 0)] (q := 38) (ls' := [(2, 37), (0, v9)]) (st' := []) (by decide +kernel) rfl ?_
        have L10 : ∀ (n : Nat) (kL10 : Int) (hL10 : Hp), n = ((1000 - kL10)).toNat → (fld h 37 42 ≤ kL10 ∧ kL10 ≤ 400) → (fld hL10 37 41 = fld h 37 41) → (fld hL10 37 42 = fld h 37 42) → (fld hL10 37 43 = fld h 37 43) → zI hL10 → zMR ms296 h hL10 → zwW sc (1) 296 38 [(2, 37), (0, kL10)] [] hL10 (zwRt 0 (fun x g => zI g ∧ zMR ms296 h g ∧ ((x = 1 ∧ (fld h 37 42 < fld h 37 41)) ∨ (x = 0)))) := by
          intro n
          induction n using Nat.strongRecOn with
          | ind n IHL10 =>
            intro kL10 hL10 hnL10 iL10_0 iL10_1 iL10_2 iL10_3 IhL10 RhL10
            refine zwW_p [(1, 1, 0), (1, 0, 2)] (q := 40) (ls' := [(2, 37), (0, kL10)]) (st' := [(2, 37), (0, kL10)]) (by decide +kernel) rfl ?_
            refine zwW_gs IhL10 (kd := 13) (bn := 43) (n := 97) (t := 0) (lo := 0) (hi := 400) (nx := 43) (by decide +kernel) ?_
            intro v11 ev11 lv11 uv11
            refine zwic_ge (q := 89) (nx := 46) (by decide +kernel) (fun c12 => ?_) (fun c12 => ?_)
            · refine zwW_p [(0, 1, 0)] (q := 90) (ls' := [(2, 37), (0, kL10)]) (st' := [(0, 1)]) (by decide +kernel) rfl ?_
              refine zwW_ret (nx := 91) (a := 1) (b := 0) (by decide +kernel) rfl (Or.inr (Or.inl ⟨rfl, by omega⟩)) ?_
              exact ⟨IhL10, RhL10, Or.inl ⟨rfl, by omega⟩⟩
            · refine zwW_p [(1, 0, 2), (1, 0, 2)] (q := 48) (ls' := [(2, 37), (0, kL10)]) (st' := [(2, 37), (2, 37)]) (by decide +kernel) rfl ?_
              refine zwW_gs IhL10 (kd := 13) (bn := 46) (n := 97) (t := 0) (lo := -2147483648) (hi := 2147483647) (nx := 51) (by decide +kernel) ?_
              intro v13 ev13 lv13 uv13
              refine zwW_p [(0, 99999, 0)] (q := 54) (ls' := [(2, 37), (0, kL10)]) (st' := [(0, 99999), (0, v13), (2, 37)]) (by decide +kernel) rfl ?_
              refine zwic_le (q := 63) (nx := 57) (by decide +kernel) (fun c14 => ?_) (fun c14 => ?_)
              · refine zwW_p [(0, 10, 0), (1, 0, 2)] (q := 66) (ls' := [(2, 37), (0, kL10)]) (st' := [(2, 37), (0, 10), (2, 37)]) (by decide +kernel) rfl ?_
                refine zwW_gs IhL10 (kd := 13) (bn := 46) (n := 97) (t := 0) (lo := -2147483648) (hi := 2147483647) (nx := 69) (by decide +kernel) ?_
                intro v15 ev15 lv15 uv15
                refine zwW_mlw (nx := 70) (by decide +kernel) ?_
                intro v16 ev16 lv16 uv16
                refine zwW_p [(1, 0, 2)] (q := 71) (ls' := [(2, 37), (0, kL10)]) (st' := [(2, 37), (0, v16), (2, 37)]) (by decide +kernel) rfl ?_
                refine zwW_gc IhL10 (kd := 13) (bn := 40) (n := 97) (c := 98) (nx := 74) (by decide +kernel) ?_
                refine zwW_p [(1, 1, 0)] (q := 75) (ls' := [(2, 37), (0, kL10)]) (st' := [(0, kL10), (2, 98), (0, v16), (2, 37)]) (by decide +kernel) rfl ?_
                refine zwW_al IhL10 (a1 := 98) (a2 := 98) (kd := 21) (n := 400) (t := 0) (lo := -128) (hi := 127) (nx := 76) (by decide +kernel) ⟨by decide, by decide⟩ ⟨by omega, by omega⟩ ?_
                intro v17 ev17 lv17 uv17
                refine zwW_adw (nx := 77) (by decide +kernel) ?_
                intro v18 ev18 lv18 uv18
                refine zwW_p [(0, 48, 0)] (q := 79) (ls' := [(2, 37), (0, kL10)]) (st' := [(0, 48), (0, v18), (2, 37)]) (by decide +kernel) rfl ?_
                refine zwW_sbw (nx := 80) (by decide +kernel) ?_
                intro v19 ev19 lv19 uv19
                refine zwW_ps IhL10 (kd := 13) (bn := 46) (n := 97) (lo := -2147483648) (hi := 2147483647) (nx := 83) (by decide +kernel) ⟨by omega, by omega⟩ ?_
                intro h20 eh20 Ih20
                have th20_37_41 : fld h20 37 41 = fld hL10 37 41 := by rw [eh20]; exact fld_wr (by decide)
                have th20_37_42 : fld h20 37 42 = fld hL10 37 42 := by rw [eh20]; exact fld_wr (by decide)
                have th20_37_43 : fld h20 37 43 = fld hL10 37 43 := by rw [eh20]; exact fld_wr (by decide)
                have Rh20 : zMR ms296 h h20 := RhL10.w (a1 := 37) (a2 := 37) (j1 := 46) (j2 := 47) (by decide +kernel) ⟨by decide, by decide⟩ ⟨by decide, by decide⟩ eh20
                refine zwW_inc (i := 1) (c := 1) (x := kL10) (nx := 86) (by decide +kernel) rfl ⟨by omega, by omega⟩ (ls' := [(2, 37), (0, (kL10 + 1))]) rfl ?_
                refine zwW_p [(24, 38, 0)] (q := 38) (ls' := [(2, 37), (0, (kL10 + 1))]) (st' := []) (by decide +kernel) rfl ?_
                exact IHL10 ((1000 - (kL10 + 1))).toNat (by omega) (kL10 + 1) h20 rfl (by omega) (by omega) (by omega) (by omega) Ih20 Rh20
              · refine zwW_p [(0, 999999, 0), (24, 80, 0)] (q := 80) (ls' := [(2, 37), (0, kL10)]) (st' := [(0, 999999), (2, 37)]) (by decide +kernel) rfl ?_
                refine zwW_ps IhL10 (kd := 13) (bn := 46) (n := 97) (lo := -2147483648) (hi := 2147483647) (nx := 83) (by decide +kernel) ⟨by decide, by decide⟩ ?_
                intro h21 eh21 Ih21
                have th21_37_41 : fld h21 37 41 = fld hL10 37 41 := by rw [eh21]; exact fld_wr (by decide)
                have th21_37_42 : fld h21 37 42 = fld hL10 37 42 := by rw [eh21]; exact fld_wr (by decide)
                have th21_37_43 : fld h21 37 43 = fld hL10 37 43 := by rw [eh21]; exact fld_wr (by decide)
                have Rh21 : zMR ms296 h h21 := RhL10.w (a1 := 37) (a2 := 37) (j1 := 46) (j2 := 47) (by decide +kernel) ⟨by decide, by decide⟩ ⟨by decide, by decide⟩ eh21
                refine zwW_inc (i := 1) (c := 1) (x := kL10) (nx := 86) (by decide +kernel) rfl ⟨by omega, by omega⟩ (ls' := [(2, 37), (0, (kL10 + 1))]) rfl ?_
                refine zwW_p [(24, 38, 0)] (q := 38) (ls' := [(2, 37), (0, (kL10 + 1))]) (st' := []) (by decide +kernel) rfl ?_
                exact IHL10 ((1000 - (kL10 + 1))).toNat (by omega) (kL10 + 1) h21 rfl (by omega) (by omega) (by omega) (by omega) Ih21 Rh21
        exact L10 _ v9 h8 rfl (by omega) (by omega) (by omega) (by omega) Ih8 Rh8
      · exfalso; omega
    · refine zwif_ne (q := 28) (nx := 26) (by decide +kernel) (fun c22 => ?_) (fun c22 => ?_)
      · exfalso; omega
      · refine zwW_p [(0, 0, 0)] (q := 27) (ls' := [(2, 37), (9, 0)]) (st' := [(0, 0)]) (by decide +kernel) rfl ?_
        refine zwW_ret (nx := 28) (a := 1) (b := 0) (by decide +kernel) rfl (Or.inr (Or.inl ⟨rfl, by omega⟩)) ?_
        exact ⟨I, R, Or.inr rfl⟩
-- WheelLandModel.isWord(Ljava/lang/String;)Z
theorem m246 {sc : List Int} (h : Hp) (I : zI h) (w : Int) (hw : -33 < w ∧ w ≤ -10) (hP : zP0 h) : zwC sc 5 246 [(2, 37), (2, w)] h (zwRt 0 (fun x g => h = g ∧ ((x = 1 ∧ (fld h 37 42 < fld h 37 41)) ∨ (x = 0 ∧ (True))))) := by
  refine zwC_of (D := 4) 3 (by decide +kernel) rfl (ls := [(2, 37), (2, w), (9, 0)]) rfl ?_
  have hP0 := hP
  unfold zP0 at hP0
  refine zwW_p [(1, 0, 2)] (q := 1) (ls' := [(2, 37), (2, w), (9, 0)]) (st' := [(2, 37)]) (by decide +kernel) rfl ?_
  refine zwW_gs I (kd := 13) (bn := 43) (n := 97) (t := 0) (lo := 0) (hi := 400) (nx := 4) (by decide +kernel) ?_
  intro v1 ev1 lv1 uv1
  refine zwW_p [(1, 0, 2)] (q := 5) (ls' := [(2, 37), (2, w), (9, 0)]) (st' := [(2, 37), (0, v1)]) (by decide +kernel) rfl ?_
  refine zwW_gs I (kd := 13) (bn := 42) (n := 97) (t := 0) (lo := 0) (hi := 400) (nx := 8) (by decide +kernel) ?_
  intro v2 ev2 lv2 uv2
  refine zwW_sub (nx := 9) (by decide +kernel) ⟨by omega, by omega⟩ ?_
  refine zwW_p [(1, 1, 2)] (q := 10) (ls' := [(2, 37), (2, w), (9, 0)]) (st' := [(2, w), (0, (v1 - v2))]) (by decide +kernel) rfl ?_
  refine zwW_cst (op := 60) (k' := 265) (n := 0) (nx := 13) (w := w) (tl := []) (st' := [(0, (v1 - v2))]) (by decide +kernel) rfl (by decide +kernel) ⟨by omega, by omega⟩ rfl (m265 h w (by omega)) ?_
  rintro v3 _ ⟨rfl, f4, f5, f6⟩
  refine zwic_ne (q := 27) (nx := 16) (by decide +kernel) (fun c7 => ?_) (fun c7 => ?_)
  · refine zwW_p [(0, 0, 0)] (q := 28) (ls' := [(2, 37), (2, w), (9, 0)]) (st' := [(0, 0)]) (by decide +kernel) rfl ?_
    refine zwW_ret (nx := 29) (a := 1) (b := 0) (by decide +kernel) rfl (Or.inr (Or.inl ⟨rfl, by omega⟩)) ?_
    exact ⟨rfl, Or.inr ⟨rfl, by trivial⟩⟩
  · refine zwW_p [(1, 0, 2)] (q := 17) (ls' := [(2, 37), (2, w), (9, 0)]) (st' := [(2, 37)]) (by decide +kernel) rfl ?_
    refine zwW_gs I (kd := 13) (bn := 42) (n := 97) (t := 0) (lo := 0) (hi := 400) (nx := 20) (by decide +kernel) ?_
    intro v8 ev8 lv8 uv8
    refine zwW_p [(1, 0, 2)] (q := 21) (ls' := [(2, 37), (2, w), (9, 0)]) (st' := [(2, 37), (0, v8)]) (by decide +kernel) rfl ?_
    refine zwW_gs I (kd := 13) (bn := 41) (n := 97) (t := 0) (lo := 0) (hi := 400) (nx := 24) (by decide +kernel) ?_
    intro v9 ev9 lv9 uv9
    refine zwic_ne (q := 29) (nx := 27) (by decide +kernel) (fun c10 => ?_) (fun c10 => ?_)
    · refine zwW_p [(0, 0, 0), (2, 2, 0)] (q := 31) (ls' := [(2, 37), (2, w), (0, 0)]) (st' := []) (by decide +kernel) rfl ?_
      have L11 : ∀ (n : Nat) (kL11 : Int), n = ((1000 - kL11)).toNat → (0 ≤ kL11 ∧ kL11 ≤ ((zby w).length : Int)) → zwW sc (4) 246 31 [(2, 37), (2, w), (0, kL11)] [] h (zwRt 0 (fun x g => h = g ∧ ((x = 1 ∧ (fld h 37 42 < fld h 37 41)) ∨ (x = 0 ∧ (True))))) := by
        intro n
        induction n using Nat.strongRecOn with
        | ind n IHL11 =>
          intro kL11 hnL11 iL11_0
          refine zwW_p [(1, 2, 0), (1, 1, 2)] (q := 33) (ls' := [(2, 37), (2, w), (0, kL11)]) (st' := [(2, w), (0, kL11)]) (by decide +kernel) rfl ?_
          refine zwW_cst (op := 60) (k' := 265) (n := 0) (nx := 36) (w := w) (tl := []) (st' := [(0, kL11)]) (by decide +kernel) rfl (by decide +kernel) ⟨by omega, by omega⟩ rfl (m265 h w (by omega)) ?_
          rintro v12 _ ⟨rfl, f13, f14, f15⟩
          refine zwic_ge (q := 66) (nx := 39) (by decide +kernel) (fun c16 => ?_) (fun c16 => ?_)
          · refine zwW_p [(0, 1, 0)] (q := 67) (ls' := [(2, 37), (2, w), (0, kL11)]) (st' := [(0, 1)]) (by decide +kernel) rfl ?_
            refine zwW_ret (nx := 68) (a := 1) (b := 0) (by decide +kernel) rfl (Or.inr (Or.inl ⟨rfl, by omega⟩)) ?_
            exact ⟨rfl, Or.inl ⟨rfl, by omega⟩⟩
          · refine zwW_p [(1, 0, 2)] (q := 40) (ls' := [(2, 37), (2, w), (0, kL11)]) (st' := [(2, 37)]) (by decide +kernel) rfl ?_
            refine zwW_gc I (kd := 13) (bn := 40) (n := 97) (c := 98) (nx := 43) (by decide +kernel) ?_
            refine zwW_p [(1, 0, 2)] (q := 44) (ls' := [(2, 37), (2, w), (0, kL11)]) (st' := [(2, 37), (2, 98)]) (by decide +kernel) rfl ?_
            refine zwW_gs I (kd := 13) (bn := 42) (n := 97) (t := 0) (lo := 0) (hi := 400) (nx := 47) (by decide +kernel) ?_
            intro v17 ev17 lv17 uv17
            refine zwW_p [(1, 2, 0)] (q := 48) (ls' := [(2, 37), (2, w), (0, kL11)]) (st' := [(0, kL11), (0, v17), (2, 98)]) (by decide +kernel) rfl ?_
            refine zwW_add (nx := 49) (by decide +kernel) ⟨by omega, by omega⟩ ?_
            refine zwW_al I (a1 := 98) (a2 := 98) (kd := 21) (n := 400) (t := 0) (lo := -128) (hi := 127) (nx := 50) (by decide +kernel) ⟨by decide, by decide⟩ ⟨by omega, by omega⟩ ?_
            intro v18 ev18 lv18 uv18
            refine zwW_p [(1, 1, 2), (1, 2, 0)] (q := 52) (ls' := [(2, 37), (2, w), (0, kL11)]) (st' := [(0, kL11), (2, w), (0, v18)]) (by decide +kernel) rfl ?_
            refine zwW_cst (op := 60) (k' := 266) (n := 1) (nx := 55) (w := w) (tl := [(0, kL11)]) (st' := [(0, v18)]) (by decide +kernel) rfl (by decide +kernel) ⟨by omega, by omega⟩ rfl (m266 h w kL11 (by omega) (by omega) (by omega) (by omega)) ?_
            rintro v19 _ ⟨rfl, f20, f21, f22⟩
            refine zwic_eq (q := 60) (nx := 58) (by decide +kernel) (fun c23 => ?_) (fun c23 => ?_)
            · refine zwW_inc (i := 2) (c := 1) (x := kL11) (nx := 63) (by decide +kernel) rfl ⟨by omega, by omega⟩ (ls' := [(2, 37), (2, w), (0, (kL11 + 1))]) rfl ?_
              refine zwW_p [(24, 31, 0)] (q := 31) (ls' := [(2, 37), (2, w), (0, (kL11 + 1))]) (st' := []) (by decide +kernel) rfl ?_
              exact IHL11 ((1000 - (kL11 + 1))).toNat (by omega) (kL11 + 1) rfl (by omega)
            · refine zwW_p [(0, 0, 0)] (q := 59) (ls' := [(2, 37), (2, w), (0, kL11)]) (st' := [(0, 0)]) (by decide +kernel) rfl ?_
              refine zwW_ret (nx := 60) (a := 1) (b := 0) (by decide +kernel) rfl (Or.inr (Or.inl ⟨rfl, by omega⟩)) ?_
              exact ⟨rfl, Or.inr ⟨rfl, by trivial⟩⟩
      exact L11 _ 0 rfl (by omega)
    · refine zwW_p [(0, 0, 0)] (q := 28) (ls' := [(2, 37), (2, w), (9, 0)]) (st' := [(0, 0)]) (by decide +kernel) rfl ?_
      refine zwW_ret (nx := 29) (a := 1) (b := 0) (by decide +kernel) rfl (Or.inr (Or.inl ⟨rfl, by omega⟩)) ?_
      exact ⟨rfl, Or.inr ⟨rfl, by trivial⟩⟩
