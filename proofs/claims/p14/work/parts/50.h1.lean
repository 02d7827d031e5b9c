/-! contracts of methods -/
def ms253 : Zms := [(37, 37, 88, 89), (37, 37, 89, 90), (37, 37, 90, 91), (190, 190, 0, 6)]
-- WheelLandModel.looks()V
theorem m253 {sc : List Int} (h : Hp) (I : zI h) (hL : zLn h (fld h 37 86)) : zwC sc 1 253 [(2, 37)] h (zwRv (fun g => zI g ∧ zMR ms253 h g)) := by
  refine zwC_of (D := 0) 7 (by decide +kernel) rfl (ls := [(2, 37), (9, 0), (9, 0), (9, 0), (9, 0), (9, 0), (9, 0)]) rfl ?_
  have R : zMR ms253 h h := zMR.rf _ _
  refine zwW_p [(0, 0, 0), (2, 1, 0), (0, 0, 0), (2, 2, 0), (0, 0, 0), (2, 3, 0), (0, 0, 0), (2, 4, 0)] (q := 9) (ls' := [(2, 37), (0, 0), (0, 0), (0, 0), (0, 0), (9, 0), (9, 0)]) (st' := []) (by decide +kernel) rfl ?_
  have L1 : ∀ (n : Nat) (nL1 dL1 wL1 iL1 : Int) (w5L1 w6L1 : Vl), n = ((100 - iL1)).toNat → (0 ≤ iL1 ∧ iL1 ≤ 6) → (-2147483648 ≤ nL1 ∧ nL1 ≤ 2147483647) → (-2147483648 ≤ dL1 ∧ dL1 ≤ 2147483647) → (-2147483648 ≤ wL1 ∧ wL1 ≤ 2147483647) → zwW sc (0) 253 9 [(2, 37), (0, nL1), (0, dL1), (0, wL1), (0, iL1), w5L1, w6L1] [] h (zwRv (fun g => zI g ∧ zMR ms253 h g)) := by
    intro n
    induction n using Nat.strongRecOn with
    | ind n IHL1 =>
      intro nL1 dL1 wL1 iL1 w5L1 w6L1 hnL1 iL1_0 iL1_1 iL1_2 iL1_3
      refine zwW_p [(1, 4, 0), (1, 0, 2)] (q := 12) (ls' := [(2, 37), (0, nL1), (0, dL1), (0, wL1), (0, iL1), w5L1, w6L1]) (st' := [(2, 37), (0, iL1)]) (by decide +kernel) rfl ?_
      refine zwW_gs I (kd := 13) (bn := 87) (n := 97) (t := 0) (lo := 0) (hi := 6) (nx := 15) (by decide +kernel) ?_
      intro v2 ev2 lv2 uv2
      refine zwic_ge (q := 140) (nx := 18) (by decide +kernel) (fun c3 => ?_) (fun c3 => ?_)
      · refine zwW_p [(1, 1, 0), (1, 0, 2)] (q := 142) (ls' := [(2, 37), (0, nL1), (0, dL1), (0, wL1), (0, iL1), w5L1, w6L1]) (st' := [(2, 37), (0, nL1)]) (by decide +kernel) rfl ?_
        refine zwW_gs I (kd := 13) (bn := 88) (n := 97) (t := 0) (lo := -2147483648) (hi := 2147483647) (nx := 145) (by decide +kernel) ?_
        intro v4 ev4 lv4 uv4
        refine zwic_lt (q := 180) (nx := 148) (by decide +kernel) (fun c5 => ?_) (fun c5 => ?_)
        · refine zwW_retv (nx := 181) (a := 0) (b := 0) (by decide +kernel) ?_
          exact ⟨I, R⟩
        · refine zwW_p [(1, 1, 0), (1, 0, 2)] (q := 150) (ls' := [(2, 37), (0, nL1), (0, dL1), (0, wL1), (0, iL1), w5L1, w6L1]) (st' := [(2, 37), (0, nL1)]) (by decide +kernel) rfl ?_
          refine zwW_gs I (kd := 13) (bn := 88) (n := 97) (t := 0) (lo := -2147483648) (hi := 2147483647) (nx := 153) (by decide +kernel) ?_
          intro v6 ev6 lv6 uv6
          refine zwic_ne (q := 181) (nx := 156) (by decide +kernel) (fun c7 => ?_) (fun c7 => ?_)
          · refine zwW_p [(1, 0, 2), (1, 1, 0)] (q := 183) (ls' := [(2, 37), (0, nL1), (0, dL1), (0, wL1), (0, iL1), w5L1, w6L1]) (st' := [(0, nL1), (2, 37)]) (by decide +kernel) rfl ?_
            refine zwW_ps I (kd := 13) (bn := 88) (n := 97) (lo := -2147483648) (hi := 2147483647) (nx := 186) (by decide +kernel) ⟨by omega, by omega⟩ ?_
            intro h8 eh8 Ih8
            have Rh8 : zMR ms253 h h8 := R.w (a1 := 37) (a2 := 37) (j1 := 88) (j2 := 89) (by decide +kernel) ⟨by decide, by decide⟩ ⟨by decide, by decide⟩ eh8
            refine zwW_p [(1, 0, 2), (1, 2, 0)] (q := 188) (ls' := [(2, 37), (0, nL1), (0, dL1), (0, wL1), (0, iL1), w5L1, w6L1]) (st' := [(0, dL1), (2, 37)]) (by decide +kernel) rfl ?_
            refine zwW_ps Ih8 (kd := 13) (bn := 89) (n := 97) (lo := -2147483648) (hi := 2147483647) (nx := 191) (by decide +kernel) ⟨by omega, by omega⟩ ?_
            intro h9 eh9 Ih9
            have Rh9 : zMR ms253 h h9 := Rh8.w (a1 := 37) (a2 := 37) (j1 := 89) (j2 := 90) (by decide +kernel) ⟨by decide, by decide⟩ ⟨by decide, by decide⟩ eh9
            refine zwW_p [(1, 0, 2), (1, 3, 0)] (q := 193) (ls' := [(2, 37), (0, nL1), (0, dL1), (0, wL1), (0, iL1), w5L1, w6L1]) (st' := [(0, wL1), (2, 37)]) (by decide +kernel) rfl ?_
            refine zwW_ps Ih9 (kd := 13) (bn := 90) (n := 97) (lo := -2147483648) (hi := 2147483647) (nx := 196) (by decide +kernel) ⟨by omega, by omega⟩ ?_
            intro h10 eh10 Ih10
            have Rh10 : zMR ms253 h h10 := Rh9.w (a1 := 37) (a2 := 37) (j1 := 90) (j2 := 91) (by decide +kernel) ⟨by decide, by decide⟩ ⟨by decide, by decide⟩ eh10
            refine zwW_p [(0, 0, 0), (2, 4, 0)] (q := 199) (ls' := [(2, 37), (0, nL1), (0, dL1), (0, wL1), (0, 0), w5L1, w6L1]) (st' := []) (by decide +kernel) rfl ?_
            have L11 : ∀ (n : Nat) (kL11 : Int) (hL11 : Hp), n = ((100 - kL11)).toNat → (0 ≤ kL11 ∧ kL11 ≤ 6) → zI hL11 → zMR ms253 h hL11 → zwW sc (0) 253 199 [(2, 37), (0, nL1), (0, dL1), (0, wL1), (0, kL11), w5L1, w6L1] [] hL11 (zwRv (fun g => zI g ∧ zMR ms253 h g)) := by
              intro n
              induction n using Nat.strongRecOn with
              | ind n IHL11 =>
                intro kL11 hL11 hnL11 iL11_0 IhL11 RhL11
                refine zwW_p [(1, 4, 0), (1, 0, 2)] (q := 202) (ls' := [(2, 37), (0, nL1), (0, dL1), (0, wL1), (0, kL11), w5L1, w6L1]) (st' := [(2, 37), (0, kL11)]) (by decide +kernel) rfl ?_
                refine zwW_gs IhL11 (kd := 13) (bn := 86) (n := 97) (t := 0) (lo := 0) (hi := 6) (nx := 205) (by decide +kernel) ?_
                intro v12 ev12 lv12 uv12
                refine zwic_ge (q := 228) (nx := 208) (by decide +kernel) (fun c13 => ?_) (fun c13 => ?_)
                · refine zwW_retv (nx := 229) (a := 0) (b := 0) (by decide +kernel) ?_
                  exact ⟨IhL11, RhL11⟩
                · refine zwW_p [(1, 0, 2)] (q := 209) (ls' := [(2, 37), (0, nL1), (0, dL1), (0, wL1), (0, kL11), w5L1, w6L1]) (st' := [(2, 37)]) (by decide +kernel) rfl ?_
                  refine zwW_gc IhL11 (kd := 13) (bn := 83) (n := 97) (c := 190) (nx := 212) (by decide +kernel) ?_
                  refine zwW_p [(1, 4, 0), (1, 0, 2)] (q := 215) (ls' := [(2, 37), (0, nL1), (0, dL1), (0, wL1), (0, kL11), w5L1, w6L1]) (st' := [(2, 37), (0, kL11), (2, 190)]) (by decide +kernel) rfl ?_
                  refine zwW_gc IhL11 (kd := 13) (bn := 82) (n := 97) (c := 189) (nx := 218) (by decide +kernel) ?_
                  refine zwW_p [(1, 4, 0)] (q := 220) (ls' := [(2, 37), (0, nL1), (0, dL1), (0, wL1), (0, kL11), w5L1, w6L1]) (st' := [(0, kL11), (2, 189), (0, kL11), (2, 190)]) (by decide +kernel) rfl ?_
                  refine zwW_al IhL11 (a1 := 189) (a2 := 189) (kd := 20) (n := 6) (t := 0) (lo := -1) (hi := 5) (nx := 221) (by decide +kernel) ⟨by decide, by decide⟩ ⟨by omega, by omega⟩ ?_
                  intro v14 ev14 lv14 uv14
                  refine zwW_as IhL11 (a1 := 190) (a2 := 190) (n := 6) (lo := -1) (hi := 5) (nx := 222) (by decide +kernel) ⟨by decide, by decide⟩ ⟨by omega, by omega⟩ ⟨by omega, by omega⟩ ?_
                  intro h15 eh15 Ih15
                  have Rh15 : zMR ms253 h h15 := RhL11.w (a1 := 190) (a2 := 190) (j1 := 0) (j2 := 6) (by decide +kernel) ⟨by decide, by decide⟩ ⟨by omega, by omega⟩ eh15
                  refine zwW_inc (i := 4) (c := 1) (x := kL11) (nx := 225) (by decide +kernel) rfl ⟨by omega, by omega⟩ (ls' := [(2, 37), (0, nL1), (0, dL1), (0, wL1), (0, (kL11 + 1)), w5L1, w6L1]) rfl ?_
                  refine zwW_p [(24, 199, 0)] (q := 199) (ls' := [(2, 37), (0, nL1), (0, dL1), (0, wL1), (0, (kL11 + 1)), w5L1, w6L1]) (st' := []) (by decide +kernel) rfl ?_
                  exact IHL11 ((100 - (kL11 + 1))).toNat (by omega) (kL11 + 1) h15 rfl (by omega) Ih15 Rh15
            exact L11 _ 0 h10 rfl (by omega) Ih10 Rh10
          · refine zwW_p [(1, 2, 0), (1, 0, 2)] (q := 158) (ls' := [(2, 37), (0, nL1), (0, dL1), (0, wL1), (0, iL1), w5L1, w6L1]) (st' := [(2, 37), (0, dL1)]) (by decide +kernel) rfl ?_
            refine zwW_gs I (kd := 13) (bn := 89) (n := 97) (t := 0) (lo := -2147483648) (hi := 2147483647) (nx := 161) (by decide +kernel) ?_
            intro v16 ev16 lv16 uv16
            refine zwic_gt (q := 180) (nx := 164) (by decide +kernel) (fun c17 => ?_) (fun c17 => ?_)
            · refine zwW_retv (nx := 181) (a := 0) (b := 0) (by decide +kernel) ?_
              exact ⟨I, R⟩
            · refine zwW_p [(1, 2, 0), (1, 0, 2)] (q := 166) (ls' := [(2, 37), (0, nL1), (0, dL1), (0, wL1), (0, iL1), w5L1, w6L1]) (st' := [(2, 37), (0, dL1)]) (by decide +kernel) rfl ?_
              refine zwW_gs I (kd := 13) (bn := 89) (n := 97) (t := 0) (lo := -2147483648) (hi := 2147483647) (nx := 169) (by decide +kernel) ?_
              intro v18 ev18 lv18 uv18
              refine zwic_ne (q := 181) (nx := 172) (by decide +kernel) (fun c19 => ?_) (fun c19 => ?_)
              · refine zwW_p [(1, 0, 2), (1, 1, 0)] (q := 183) (ls' := [(2, 37), (0, nL1), (0, dL1), (0, wL1), (0, iL1), w5L1, w6L1]) (st' := [(0, nL1), (2, 37)]) (by decide +kernel) rfl ?_
                refine zwW_ps I (kd := 13) (bn := 88) (n := 97) (lo := -2147483648) (hi := 2147483647) (nx := 186) (by decide +kernel) ⟨by omega, by omega⟩ ?_
                intro h20 eh20 Ih20
                have Rh20 : zMR ms253 h h20 := R.w (a1 := 37) (a2 := 37) (j1 := 88) (j2 := 89) (by decide +kernel) ⟨by decide, by decide⟩ ⟨by decide, by decide⟩ eh20
                refine zwW_p [(1, 0, 2), (1, 2, 0)] (q := 188) (ls' := [(2, 37), (0, nL1), (0, dL1), (0, wL1), (0, iL1), w5L1, w6L1]) (st' := [(0, dL1), (2, 37)]) (by decide +kernel) rfl ?_
                refine zwW_ps Ih20 (kd := 13) (bn := 89) (n := 97) (lo := -2147483648) (hi := 2147483647) (nx := 191) (by decide +kernel) ⟨by omega, by omega⟩ ?_
                intro h21 eh21 Ih21
                have Rh21 : zMR ms253 h h21 := Rh20.w (a1 := 37) (a2 := 37) (j1 := 89) (j2 := 90) (by decide +kernel) ⟨by decide, by decide⟩ ⟨by decide, by decide⟩ eh21
                refine zwW_p [(1, 0, 2), (1, 3, 0)] (q := 193) (ls' := [(2, 37), (0, nL1), (0, dL1), (0, wL1), (0, iL1), w5L1, w6L1]) (st' := [(0, wL1), (2, 37)]) (by decide +kernel) rfl ?_
                refine zwW_ps Ih21 (kd := 13) (bn := 90) (n := 97) (lo := -2147483648) (hi := 2147483647) (nx := 196) (by decide +kernel) ⟨by omega, by omega⟩ ?_
                intro h22 eh22 Ih22
                have Rh22 : zMR ms253 h h22 := Rh21.w (a1 := 37) (a2 := 37) (j1 := 90) (j2 := 91) (by decide +kernel) ⟨by decide, by decide⟩ ⟨by decide, by decide⟩ eh22
                refine zwW_p [(0, 0, 0), (2, 4, 0)] (q := 199) (ls' := [(2, 37), (0, nL1), (0, dL1), (0, wL1), (0, 0), w5L1, w6L1]) (st' := []) (by decide +kernel) rfl ?_
                have L23 : ∀ (n : Nat) (kL23 : Int) (hL23 : Hp), n = ((100 - kL23)).toNat → (0 ≤ kL23 ∧ kL23 ≤ 6) → zI hL23 → zMR ms253 h hL23 → zwW sc (0) 253 199 [(2, 37), (0, nL1), (0, dL1), (0, wL1), (0, kL23), w5L1, w6L1] [] hL23 (zwRv (fun g => zI g ∧ zMR ms253 h g)) := by
                  intro n
                  induction n using Nat.strongRecOn with
                  | ind n IHL23 =>
                    intro kL23 hL23 hnL23 iL23_0 IhL23 RhL23
                    refine zwW_p [(1, 4, 0), (1, 0, 2)] (q := 202) (ls' := [(2, 37), (0, nL1), (0, dL1), (0, wL1), (0, kL23), w5L1, w6L1]) (st' := [(2, 37), (0, kL23)]) (by decide +kernel) rfl ?_
                    refine zwW_gs IhL23 (kd := 13) (bn := 86) (n := 97) (t := 0) (lo := 0) (hi := 6) (nx := 205) (by decide +kernel) ?_
                    intro v24 ev24 lv24 uv24
                    refine zwic_ge (q := 228) (nx := 208) (by decide +kernel) (fun c25 => ?_) (fun c25 => ?_)
                    · refine zwW_retv (nx := 229) (a := 0) (b := 0) (by decide +kernel) ?_
                      exact ⟨IhL23, RhL23⟩
                    · refine zwW_p [(1, 0, 2)] (q := 209) (ls' := [(2, 37), (0, nL1), (0, dL1), (0, wL1), (0, kL23), w5L1, w6L1]) (st' := [(2, 37)]) (by decide +kernel) rfl ?_
                      refine zwW_gc IhL23 (kd := 13) (bn := 83) (n := 97) (c := 190) (nx := 212) (by decide +kernel) ?_
                      refine zwW_p [(1, 4, 0), (1, 0, 2)] (q := 215) (ls' := [(2, 37), (0, nL1), (0, dL1), (0, wL1), (0, kL23), w5L1, w6L1]) (st' := [(2, 37), (0, kL23), (2, 190)]) (by decide +kernel) rfl ?_
                      refine zwW_gc IhL23 (kd := 13) (bn := 82) (n := 97) (c := 189) (nx := 218) (by decide +kernel) ?_
                      refine zwW_p [(1, 4, 0)] (q := 220) (ls' := [(2, 37), (0, nL1), (0, dL1), (0, wL1), (0, kL23), w5L1, w6L1]) (st' := [(0, kL23), (2, 189), (0, kL23), (2, 190)]) (by decide +kernel) rfl ?_
                      refine zwW_al IhL23 (a1 := 189) (a2 := 189) (kd := 20) (n := 6) (t := 0) (lo := -1) (hi := 5) (nx := 221) (by decide +kernel) ⟨by decide, by decide⟩ ⟨by omega, by omega⟩ ?_
                      intro v26 ev26 lv26 uv26
                      refine zwW_as IhL23 (a1 := 190) (a2 := 190) (n := 6) (lo := -1) (hi := 5) (nx := 222) (by decide +kernel) ⟨by decide, by decide⟩ ⟨by omega, by omega⟩ ⟨by omega, by omega⟩ ?_
                      intro h27 eh27 Ih27
                      have Rh27 : zMR ms253 h h27 := RhL23.w (a1 := 190) (a2 := 190) (j1 := 0) (j2 := 6) (by decide +kernel) ⟨by decide, by decide⟩ ⟨by omega, by omega⟩ eh27
                      refine zwW_inc (i := 4) (c := 1) (x := kL23) (nx := 225) (by decide +kernel) rfl ⟨by omega, by omega⟩ (ls' := [(2, 37), (0, nL1), (0, dL1), (0, wL1), (0, (kL23 + 1)), w5L1, w6L1]) rfl ?_
                      refine zwW_p [(24, 199, 0)] (q := 199) (ls' := [(2, 37), (0, nL1), (0, dL1), (0, wL1), (0, (kL23 + 1)), w5L1, w6L1]) (st' := []) (by decide +kernel) rfl ?_
                      exact IHL23 ((100 - (kL23 + 1))).toNat (by omega) (kL23 + 1) h27 rfl (by omega) Ih27 Rh27
                exact L23 _ 0 h22 rfl (by omega) Ih22 Rh22
              · refine zwW_p [(1, 3, 0), (1, 0, 2)] (q := 174) (ls' := [(2, 37), (0, nL1), (0, dL1), (0, wL1), (0, iL1), w5L1, w6L1]) (st' := [(2, 37), (0, wL1)]) (by decide +kernel) rfl ?_
                refine zwW_gs I (kd := 13) (bn := 90) (n := 97) (t := 0) (lo := -2147483648) (hi := 2147483647) (nx := 177) (by decide +kernel) ?_
                intro v28 ev28 lv28 uv28
                refine zwic_lt (q := 181) (nx := 180) (by decide +kernel) (fun c29 => ?_) (fun c29 => ?_)
                · refine zwW_p [(1, 0, 2), (1, 1, 0)] (q := 183) (ls' := [(2, 37), (0, nL1), (0, dL1), (0, wL1), (0, iL1), w5L1, w6L1]) (st' := [(0, nL1), (2, 37)]) (by decide +kernel) rfl ?_
                  refine zwW_ps I (kd := 13) (bn := 88) (n := 97) (lo := -2147483648) (hi := 2147483647) (nx := 186) (by decide +kernel) ⟨by omega, by omega⟩ ?_
                  intro h30 eh30 Ih30
                  have Rh30 : zMR ms253 h h30 := R.w (a1 := 37) (a2 := 37) (j1 := 88) (j2 := 89) (by decide +kernel) ⟨by decide, by decide⟩ ⟨by decide, by decide⟩ eh30
                  refine zwW_p [(1, 0, 2), (1, 2, 0)] (q := 188) (ls' := [(2, 37), (0, nL1), (0, dL1), (0, wL1), (0, iL1), w5L1, w6L1]) (st' := [(0, dL1), (2, 37)]) (by decide +kernel) rfl ?_
                  refine zwW_ps Ih30 (kd := 13) (bn := 89) (n := 97) (lo := -2147483648) (hi := 2147483647) (nx := 191) (by decide +kernel) ⟨by omega, by omega⟩ ?_
                  intro h31 eh31 Ih31
                  have Rh31 : zMR ms253 h h31 := Rh30.w (a1 := 37) (a2 := 37) (j1 := 89) (j2 := 90) (by decide +kernel) ⟨by decide, by decide⟩ ⟨by decide, by decide⟩ eh31
                  refine zwW_p [(1, 0, 2), (1, 3, 0)] (q := 193) (ls' := [(2, 37), (0, nL1), (0, dL1), (0, wL1), (0, iL1), w5L1, w6L1]) (st' := [(0, wL1), (2, 37)]) (by decide +kernel) rfl ?_
                  refine zwW_ps Ih31 (kd := 13) (bn := 90) (n := 97) (lo := -2147483648) (hi := 2147483647) (nx := 196) (by decide +kernel) ⟨by omega, by omega⟩ ?_
                  intro h32 eh32 Ih32
                  have Rh32 : zMR ms253 h h32 := Rh31.w (a1 := 37) (a2 := 37) (j1 := 90) (j2 := 91) (by decide +kernel) ⟨by decide, by decide⟩ ⟨by decide, by decide⟩ eh32
                  refine zwW_p [(0, 0, 0), (2, 4, 0)] (q := 199) (ls' := [(2, 37), (0, nL1), (0, dL1), (0, wL1), (0, 0), w5L1, w6L1]) (st' := []) (by decide +kernel) rfl ?_
                  have L33 : ∀ (n : Nat) (kL33 : Int) (hL33 : Hp), n = ((100 - kL33)).toNat → (0 ≤ kL33 ∧ kL33 ≤ 6) → zI hL33 → zMR ms253 h hL33 → zwW sc (0) 253 199 [(2, 37), (0, nL1), (0, dL1), (0, wL1), (0, kL33), w5L1, w6L1] [] hL33 (zwRv (fun g => zI g ∧ zMR ms253 h g)) := by
                    intro n
                    induction n using Nat.strongRecOn with
                    | ind n IHL33 =>
                      intro kL33 hL33 hnL33 iL33_0 IhL33 RhL33
                      refine zwW_p [(1, 4, 0), (1, 0, 2)] (q := 202) (ls' := [(2, 37), (0, nL1), (0, dL1), (0, wL1), (0, kL33), w5L1, w6L1]) (st' := [(2, 37), (0, kL33)]) (by decide +kernel) rfl ?_
                      refine zwW_gs IhL33 (kd := 13) (bn := 86) (n := 97) (t := 0) (lo := 0) (hi := 6) (nx := 205) (by decide +kernel) ?_
                      intro v34 ev34 lv34 uv34
                      refine zwic_ge (q := 228) (nx := 208) (by decide +kernel) (fun c35 => ?_) (fun c35 => ?_)
                      · refine zwW_retv (nx := 229) (a := 0) (b := 0) (by decide +kernel) ?_
                        exact ⟨IhL33, RhL33⟩
                      · refine zwW_p [(1, 0, 2)] (q := 209) (ls' := [(2, 37), (0, nL1), (0, dL1), (0, wL1), (0, kL33), w5L1, w6L1]) (st' := [(2, 37)]) (by decide +kernel) rfl ?_
                        refine zwW_gc IhL33 (kd := 13) (bn := 83) (n := 97) (c := 190) (nx := 212) (by decide +kernel) ?_
                        refine zwW_p [(1, 4, 0), (1, 0, 2)] (q := 215) (ls' := [(2, 37), (0, nL1), (0, dL1), (0, wL1), (0, kL33), w5L1, w6L1]) (st' := [(2, 37), (0, kL33), (2, 190)]) (by decide +kernel) rfl ?_
                        refine zwW_gc IhL33 (kd := 13) (bn := 82) (n := 97) (c := 189) (nx := 218) (by decide +kernel) ?_
                        refine zwW_p [(1, 4, 0)] (q := 220) (ls' := [(2, 37), (0, nL1), (0, dL1), (0, wL1), (0, kL33), w5L1, w6L1]) (st' := [(0, kL33), (2, 189), (0, kL33), (2, 190)]) (by decide +kernel) rfl ?_
                        refine zwW_al IhL33 (a1 := 189) (a2 := 189) (kd := 20) (n := 6) (t := 0) (lo := -1) (hi := 5) (nx := 221) (by decide +kernel) ⟨by decide, by decide⟩ ⟨by omega, by omega⟩ ?_
                        intro v36 ev36 lv36 uv36
                        refine zwW_as IhL33 (a1 := 190) (a2 := 190) (n := 6) (lo := -1) (hi := 5) (nx := 222) (by decide +kernel) ⟨by decide, by decide⟩ ⟨by omega, by omega⟩ ⟨by omega, by omega⟩ ?_
                        intro h37 eh37 Ih37
                        have Rh37 : zMR ms253 h h37 := RhL33.w (a1 := 190) (a2 := 190) (j1 := 0) (j2 := 6) (by decide +kernel) ⟨by decide, by decide⟩ ⟨by omega, by omega⟩ eh37
                        refine zwW_inc (i := 4) (c := 1) (x := kL33) (nx := 225) (by decide +kernel) rfl ⟨by omega, by omega⟩ (ls' := [(2, 37), (0, nL1), (0, dL1), (0, wL1), (0, (kL33 + 1)), w5L1, w6L1]) rfl ?_
                        refine zwW_p [(24, 199, 0)] (q := 199) (ls' := [(2, 37), (0, nL1), (0, dL1), (0, wL1), (0, (kL33 + 1)), w5L1, w6L1]) (st' := []) (by decide +kernel) rfl ?_
                        exact IHL33 ((100 - (kL33 + 1))).toNat (by omega) (kL33 + 1) h37 rfl (by omega) Ih37 Rh37
                  exact L33 _ 0 h32 rfl (by omega) Ih32 Rh32
                · refine zwW_retv (nx := 181) (a := 0) (b := 0) (by decide +kernel) ?_
                  exact ⟨I, R⟩
      · refine zwW_p [(0, 0, 0), (2, 5, 0), (0, 0, 0), (2, 6, 0)] (q := 24) (ls' := [(2, 37), (0, nL1), (0, dL1), (0, wL1), (0, iL1), (0, 0), (0, 0)]) (st' := []) (by decide +kernel) rfl ?_
        have L38 : ∀ (n : Nat) (dL38 lL38 kL38 : Int), n = ((100 - kL38)).toNat → (0 ≤ kL38 ∧ kL38 ≤ 6) → (-2147483648 ≤ dL38 ∧ dL38 ≤ 2147483647) → (-2147483648 ≤ lL38 ∧ lL38 ≤ 2147483647) → (lL38 = 0 ∨ 0 < fld h 91 (fld h 188 (iL1).toNat).toNat) → zwW sc (0) 253 24 [(2, 37), (0, nL1), (0, dL38), (0, wL1), (0, iL1), (0, lL38), (0, kL38)] [] h (zwRv (fun g => zI g ∧ zMR ms253 h g)) := by
          intro n
          induction n using Nat.strongRecOn with
          | ind n IHL38 =>
            intro dL38 lL38 kL38 hnL38 iL38_0 iL38_1 iL38_2 iL38_3
            refine zwW_p [(1, 6, 0), (1, 0, 2)] (q := 27) (ls' := [(2, 37), (0, nL1), (0, dL38), (0, wL1), (0, iL1), (0, lL38), (0, kL38)]) (st' := [(2, 37), (0, kL38)]) (by decide +kernel) rfl ?_
            refine zwW_gs I (kd := 13) (bn := 86) (n := 97) (t := 0) (lo := 0) (hi := 6) (nx := 30) (by decide +kernel) ?_
            intro v39 ev39 lv39 uv39
            refine zwic_ge (q := 79) (nx := 33) (by decide +kernel) (fun c40 => ?_) (fun c40 => ?_)
            · refine zwW_p [(1, 1, 0), (1, 5, 0)] (q := 82) (ls' := [(2, 37), (0, nL1), (0, dL38), (0, wL1), (0, iL1), (0, lL38), (0, kL38)]) (st' := [(0, lL38), (0, nL1)]) (by decide +kernel) rfl ?_
              refine zwW_adw (nx := 83) (by decide +kernel) ?_
              intro v41 ev41 lv41 uv41
              refine zwW_p [(2, 1, 0), (1, 5, 0)] (q := 86) (ls' := [(2, 37), (0, v41), (0, dL38), (0, wL1), (0, iL1), (0, lL38), (0, kL38)]) (st' := [(0, lL38)]) (by decide +kernel) rfl ?_
              refine zwif_ne (q := 93) (nx := 89) (by decide +kernel) (fun c42 => ?_) (fun c42 => ?_)
              · refine zwW_p [(1, 5, 0), (1, 0, 2)] (q := 96) (ls' := [(2, 37), (0, v41), (0, dL38), (0, wL1), (0, iL1), (0, lL38), (0, kL38)]) (st' := [(2, 37), (0, lL38)]) (by decide +kernel) rfl ?_
                refine zwW_gc I (kd := 13) (bn := 32) (n := 97) (c := 91) (nx := 99) (by decide +kernel) ?_
                refine zwW_p [(1, 0, 2)] (q := 100) (ls' := [(2, 37), (0, v41), (0, dL38), (0, wL1), (0, iL1), (0, lL38), (0, kL38)]) (st' := [(2, 37), (2, 91), (0, lL38)]) (by decide +kernel) rfl ?_
                refine zwW_gc I (kd := 13) (bn := 81) (n := 97) (c := 188) (nx := 103) (by decide +kernel) ?_
                refine zwW_p [(1, 4, 0)] (q := 105) (ls' := [(2, 37), (0, v41), (0, dL38), (0, wL1), (0, iL1), (0, lL38), (0, kL38)]) (st' := [(0, iL1), (2, 188), (2, 91), (0, lL38)]) (by decide +kernel) rfl ?_
                refine zwW_al I (a1 := 188) (a2 := 188) (kd := 20) (n := 6) (t := 0) (lo := 0) (hi := 19) (nx := 106) (by decide +kernel) ⟨by decide, by decide⟩ ⟨by omega, by omega⟩ ?_
                intro v43 ev43 lv43 uv43
                refine zwW_al I (a1 := 91) (a2 := 91) (kd := 20) (n := 20) (t := 0) (lo := -2147483648) (hi := 2147483647) (nx := 107) (by decide +kernel) ⟨by decide, by decide⟩ ⟨by omega, by omega⟩ ?_
                intro v44 ev44 lv44 uv44
                refine zwW_adw (nx := 108) (by decide +kernel) ?_
                intro v45 ev45 lv45 uv45
                refine zwW_p [(0, 1, 0)] (q := 109) (ls' := [(2, 37), (0, v41), (0, dL38), (0, wL1), (0, iL1), (0, lL38), (0, kL38)]) (st' := [(0, 1), (0, v45)]) (by decide +kernel) rfl ?_
                refine zwW_sbw (nx := 110) (by decide +kernel) ?_
                intro v46 ev46 lv46 uv46
                refine zwW_p [(1, 0, 2)] (q := 111) (ls' := [(2, 37), (0, v41), (0, dL38), (0, wL1), (0, iL1), (0, lL38), (0, kL38)]) (st' := [(2, 37), (0, v46)]) (by decide +kernel) rfl ?_
                refine zwW_gc I (kd := 13) (bn := 32) (n := 97) (c := 91) (nx := 114) (by decide +kernel) ?_
                refine zwW_p [(1, 0, 2)] (q := 115) (ls' := [(2, 37), (0, v41), (0, dL38), (0, wL1), (0, iL1), (0, lL38), (0, kL38)]) (st' := [(2, 37), (2, 91), (0, v46)]) (by decide +kernel) rfl ?_
                refine zwW_gc I (kd := 13) (bn := 81) (n := 97) (c := 188) (nx := 118) (by decide +kernel) ?_
                refine zwW_p [(1, 4, 0)] (q := 120) (ls' := [(2, 37), (0, v41), (0, dL38), (0, wL1), (0, iL1), (0, lL38), (0, kL38)]) (st' := [(0, iL1), (2, 188), (2, 91), (0, v46)]) (by decide +kernel) rfl ?_
                refine zwW_al I (a1 := 188) (a2 := 188) (kd := 20) (n := 6) (t := 0) (lo := 0) (hi := 19) (nx := 121) (by decide +kernel) ⟨by decide, by decide⟩ ⟨by omega, by omega⟩ ?_
                intro v47 ev47 lv47 uv47
                have X121 : v47 = fld h 188 (iL1).toNat := by omega
                refine zwW_al I (a1 := 91) (a2 := 91) (kd := 20) (n := 20) (t := 0) (lo := -2147483648) (hi := 2147483647) (nx := 122) (by decide +kernel) ⟨by decide, by decide⟩ ⟨by omega, by omega⟩ ?_
                intro v48 ev48 lv48 uv48
                have G122 : v48 = fld h 91 (fld h 188 (iL1).toNat).toNat := by rw [ev48, X121]
                refine zwW_any2 (a := 3) (nx := 123) (by decide +kernel) rfl ⟨by omega, by omega⟩ (Or.inl (by omega)) ?_
                intro v49 lv49 uv49
                refine zwW_p [(2, 6, 0), (1, 6, 0), (1, 3, 0)] (q := 128) (ls' := [(2, 37), (0, v41), (0, dL38), (0, wL1), (0, iL1), (0, lL38), (0, v49)]) (st' := [(0, wL1), (0, v49)]) (by decide +kernel) rfl ?_
                refine zwic_le (q := 134) (nx := 131) (by decide +kernel) (fun c50 => ?_) (fun c50 => ?_)
                · refine zwW_inc (i := 4) (c := 1) (x := iL1) (nx := 137) (by decide +kernel) rfl ⟨by omega, by omega⟩ (ls' := [(2, 37), (0, v41), (0, dL38), (0, wL1), (0, (iL1 + 1)), (0, lL38), (0, v49)]) rfl ?_
                  refine zwW_p [(24, 9, 0)] (q := 9) (ls' := [(2, 37), (0, v41), (0, dL38), (0, wL1), (0, (iL1 + 1)), (0, lL38), (0, v49)]) (st' := []) (by decide +kernel) rfl ?_
                  exact IHL1 ((100 - (iL1 + 1))).toNat (by omega) v41 dL38 wL1 (iL1 + 1) (0, lL38) (0, v49) rfl (by omega) (by omega) (by omega) (by omega)
                · refine zwW_p [(1, 6, 0), (2, 3, 0)] (q := 134) (ls' := [(2, 37), (0, v41), (0, dL38), (0, v49), (0, iL1), (0, lL38), (0, v49)]) (st' := []) (by decide +kernel) rfl ?_
                  refine zwW_inc (i := 4) (c := 1) (x := iL1) (nx := 137) (by decide +kernel) rfl ⟨by omega, by omega⟩ (ls' := [(2, 37), (0, v41), (0, dL38), (0, v49), (0, (iL1 + 1)), (0, lL38), (0, v49)]) rfl ?_
                  refine zwW_p [(24, 9, 0)] (q := 9) (ls' := [(2, 37), (0, v41), (0, dL38), (0, v49), (0, (iL1 + 1)), (0, lL38), (0, v49)]) (st' := []) (by decide +kernel) rfl ?_
                  exact IHL1 ((100 - (iL1 + 1))).toNat (by omega) v41 dL38 v49 (iL1 + 1) (0, lL38) (0, v49) rfl (by omega) (by omega) (by omega) (by omega)
              · refine zwW_p [(0, 0, 0), (24, 123, 0), (2, 6, 0), (1, 6, 0), (1, 3, 0)] (q := 128) (ls' := [(2, 37), (0, v41), (0, dL38), (0, wL1), (0, iL1), (0, lL38), (0, 0)]) (st' := [(0, wL1), (0, 0)]) (by decide +kernel) rfl ?_
                refine zwic_le (q := 134) (nx := 131) (by decide +kernel) (fun c51 => ?_) (fun c51 => ?_)
                · refine zwW_inc (i := 4) (c := 1) (x := iL1) (nx := 137) (by decide +kernel) rfl ⟨by omega, by omega⟩ (ls' := [(2, 37), (0, v41), (0, dL38), (0, wL1), (0, (iL1 + 1)), (0, lL38), (0, 0)]) rfl ?_
                  refine zwW_p [(24, 9, 0)] (q := 9) (ls' := [(2, 37), (0, v41), (0, dL38), (0, wL1), (0, (iL1 + 1)), (0, lL38), (0, 0)]) (st' := []) (by decide +kernel) rfl ?_
                  exact IHL1 ((100 - (iL1 + 1))).toNat (by omega) v41 dL38 wL1 (iL1 + 1) (0, lL38) (0, 0) rfl (by omega) (by omega) (by omega) (by omega)
                · refine zwW_p [(1, 6, 0), (2, 3, 0)] (q := 134) (ls' := [(2, 37), (0, v41), (0, dL38), (0, 0), (0, iL1), (0, lL38), (0, 0)]) (st' := []) (by decide +kernel) rfl ?_
                  refine zwW_inc (i := 4) (c := 1) (x := iL1) (nx := 137) (by decide +kernel) rfl ⟨by omega, by omega⟩ (ls' := [(2, 37), (0, v41), (0, dL38), (0, 0), (0, (iL1 + 1)), (0, lL38), (0, 0)]) rfl ?_
                  refine zwW_p [(24, 9, 0)] (q := 9) (ls' := [(2, 37), (0, v41), (0, dL38), (0, 0), (0, (iL1 + 1)), (0, lL38), (0, 0)]) (st' := []) (by decide +kernel) rfl ?_
                  exact IHL1 ((100 - (iL1 + 1))).toNat (by omega) v41 dL38 0 (iL1 + 1) (0, lL38) (0, 0) rfl (by omega) (by omega) (by omega) (by omega)
            · refine zwW_p [(1, 0, 2)] (q := 34) (ls' := [(2, 37), (0, nL1), (0, dL38), (0, wL1), (0, iL1), (0, lL38), (0, kL38)]) (st' := [(2, 37)]) (by decide +kernel) rfl ?_
              refine zwW_gc I (kd := 13) (bn := 82) (n := 97) (c := 189) (nx := 37) (by decide +kernel) ?_
              refine zwW_p [(1, 6, 0)] (q := 39) (ls' := [(2, 37), (0, nL1), (0, dL38), (0, wL1), (0, iL1), (0, lL38), (0, kL38)]) (st' := [(0, kL38), (2, 189)]) (by decide +kernel) rfl ?_
              refine zwW_al I (a1 := 189) (a2 := 189) (kd := 20) (n := 6) (t := 0) (lo := -1) (hi := 5) (nx := 40) (by decide +kernel) ⟨by decide, by decide⟩ ⟨by omega, by omega⟩ ?_
              intro v52 ev52 lv52 uv52
              refine zwW_p [(1, 4, 0)] (q := 42) (ls' := [(2, 37), (0, nL1), (0, dL38), (0, wL1), (0, iL1), (0, lL38), (0, kL38)]) (st' := [(0, iL1), (0, v52)]) (by decide +kernel) rfl ?_
              refine zwic_eq (q := 48) (nx := 45) (by decide +kernel) (fun c53 => ?_) (fun c53 => ?_)
              · have P48 := hL.2 (kL38).toNat (iL1).toNat (by omega) (by omega) (by omega)
                refine zwW_p [(1, 5, 0), (1, 0, 2)] (q := 51) (ls' := [(2, 37), (0, nL1), (0, dL38), (0, wL1), (0, iL1), (0, lL38), (0, kL38)]) (st' := [(2, 37), (0, lL38)]) (by decide +kernel) rfl ?_
                refine zwW_gc I (kd := 13) (bn := 80) (n := 97) (c := 187) (nx := 54) (by decide +kernel) ?_
                refine zwW_p [(1, 6, 0)] (q := 56) (ls' := [(2, 37), (0, nL1), (0, dL38), (0, wL1), (0, iL1), (0, lL38), (0, kL38)]) (st' := [(0, kL38), (2, 187), (0, lL38)]) (by decide +kernel) rfl ?_
                refine zwW_al I (a1 := 187) (a2 := 187) (kd := 20) (n := 6) (t := 0) (lo := -2147483648) (hi := 2147483647) (nx := 57) (by decide +kernel) ⟨by decide, by decide⟩ ⟨by omega, by omega⟩ ?_
                intro v54 ev54 lv54 uv54
                refine zwW_adw (nx := 58) (by decide +kernel) ?_
                intro v55 ev55 lv55 uv55
                refine zwW_p [(2, 5, 0), (1, 2, 0), (1, 0, 2)] (q := 62) (ls' := [(2, 37), (0, nL1), (0, dL38), (0, wL1), (0, iL1), (0, v55), (0, kL38)]) (st' := [(2, 37), (0, dL38)]) (by decide +kernel) rfl ?_
                refine zwW_gc I (kd := 13) (bn := 85) (n := 97) (c := 198) (nx := 65) (by decide +kernel) ?_
                refine zwW_p [(1, 6, 0)] (q := 67) (ls' := [(2, 37), (0, nL1), (0, dL38), (0, wL1), (0, iL1), (0, v55), (0, kL38)]) (st' := [(0, kL38), (2, 198), (0, dL38)]) (by decide +kernel) rfl ?_
                refine zwW_ro I (a := 198) (n := 6) (kd := 26) (base := 199) (step := 1) (nx := 68) (by decide +kernel) rfl ⟨by omega, by omega⟩ ?_
                rw [show ((199 : Nat) : Int) + ((1 : Nat) : Int) * kL38 = (199 + kL38) by omega]
                refine zwW_p [(1, 4, 0)] (q := 70) (ls' := [(2, 37), (0, nL1), (0, dL38), (0, wL1), (0, iL1), (0, v55), (0, kL38)]) (st' := [(0, iL1), (2, (199 + kL38)), (0, dL38)]) (by decide +kernel) rfl ?_
                refine zwW_al I (a1 := 199) (a2 := 204) (kd := 20) (n := 6) (t := 0) (lo := -1) (hi := 4608) (nx := 71) (by decide +kernel) ⟨by omega, by omega⟩ ⟨by omega, by omega⟩ ?_
                intro v56 ev56 lv56 uv56
                refine zwW_adw (nx := 72) (by decide +kernel) ?_
                intro v57 ev57 lv57 uv57
                refine zwW_p [(2, 2, 0)] (q := 73) (ls' := [(2, 37), (0, nL1), (0, v57), (0, wL1), (0, iL1), (0, v55), (0, kL38)]) (st' := []) (by decide +kernel) rfl ?_
                refine zwW_inc (i := 6) (c := 1) (x := kL38) (nx := 76) (by decide +kernel) rfl ⟨by omega, by omega⟩ (ls' := [(2, 37), (0, nL1), (0, v57), (0, wL1), (0, iL1), (0, v55), (0, (kL38 + 1))]) rfl ?_
                refine zwW_p [(24, 24, 0)] (q := 24) (ls' := [(2, 37), (0, nL1), (0, v57), (0, wL1), (0, iL1), (0, v55), (0, (kL38 + 1))]) (st' := []) (by decide +kernel) rfl ?_
                exact IHL38 ((100 - (kL38 + 1))).toNat (by omega) v57 v55 (kL38 + 1) rfl (by omega) (by omega) (by omega) (by omega)
              · refine zwW_p [(24, 73, 0)] (q := 73) (ls' := [(2, 37), (0, nL1), (0, dL38), (0, wL1), (0, iL1), (0, lL38), (0, kL38)]) (st' := []) (by decide +kernel) rfl ?_
                refine zwW_inc (i := 6) (c := 1) (x := kL38) (nx := 76) (by decide +kernel) rfl ⟨by omega, by omega⟩ (ls' := [(2, 37), (0, nL1), (0, dL38), (0, wL1), (0, iL1), (0, lL38), (0, (kL38 + 1))]) rfl ?_
                refine zwW_p [(24, 24, 0)] (q := 24) (ls' := [(2, 37), (0, nL1), (0, dL38), (0, wL1), (0, iL1), (0, lL38), (0, (kL38 + 1))]) (st' := []) (by decide +kernel) rfl ?_
                exact IHL38 ((100 - (kL38 + 1))).toNat (by omega) dL38 lL38 (kL38 + 1) rfl (by omega) (by omega) (by omega) (by omega)
        exact L38 _ dL1 0 0 rfl (by omega) (by omega) (by omega) (by omega)
  exact L1 _ 0 0 0 0 (9, 0) (9, 0) rfl (by omega) (by omega) (by omega) (by omega)
-- WheelLandModel.tries(I)V
theorem m213 {sc : List Int} (a : Int) (D0 : Nat) (pa : 0 ≤ a ∧ a ≤ 6) (HT : a < 6 → zTX sc D0 (a + 1)) : zTX sc (D0 + 10) a := by
  intro h I hY hL pk
  refine zwC_of (D := D0 + 9) 3 (by decide +kernel) rfl (ls := [(2, 37), (0, a), (9, 0)]) rfl ?_
  have R : zMR msT h h := zMR.rf _ _
  refine zwW_p [(1, 1, 0), (1, 0, 2)] (q := 2) (ls' := [(2, 37), (0, a), (9, 0)]) (st' := [(2, 37), (0, a)]) (by decide +kernel) rfl ?_
  refine zwW_gs I (kd := 13) (bn := 86) (n := 97) (t := 0) (lo := 0) (hi := 6) (nx := 5) (by decide +kernel) ?_
  intro v1 ev1 lv1 uv1
  refine zwic_ne (q := 13) (nx := 8) (by decide +kernel) (fun c2 => ?_) (fun c2 => ?_)
  · refine zwW_p [(0, 0, 0), (2, 2, 0)] (q := 15) (ls' := [(2, 37), (0, a), (0, 0)]) (st' := []) (by decide +kernel) rfl ?_
    have L3 : ∀ (n : Nat) (iL3 : Int) (hL3 : Hp), n = ((100 - iL3)).toNat → (0 ≤ iL3 ∧ iL3 ≤ 6) → (zMYn hL3 (fld hL3 37 86)) → (zLn hL3 a) → (∀ j : Nat, (j : Int) < a → fld hL3 189 j = fld h 189 j) → (fld hL3 37 86 = fld h 37 86 ∧ fld hL3 37 87 = fld h 37 87) → (a < fld h 37 86) → zI hL3 → zMR msT h hL3 → zwW sc (D0 + 9) 213 15 [(2, 37), (0, a), (0, iL3)] [] hL3 (zwRv (fun g => zI g ∧ zMR msT h g ∧ ∀ j : Nat, (j : Int) < a → fld g 189 j = fld h 189 j)) := by
      intro n
      induction n using Nat.strongRecOn with
      | ind n IHL3 =>
        intro iL3 hL3 hnL3 iL3_0 iL3_1 iL3_2 iL3_3 iL3_4 iL3_5 IhL3 RhL3
        refine zwW_p [(1, 2, 0), (1, 0, 2)] (q := 17) (ls' := [(2, 37), (0, a), (0, iL3)]) (st' := [(2, 37), (0, iL3)]) (by decide +kernel) rfl ?_
        refine zwW_gs IhL3 (kd := 13) (bn := 87) (n := 97) (t := 0) (lo := 0) (hi := 6) (nx := 20) (by decide +kernel) ?_
        intro v4 ev4 lv4 uv4
        refine zwic_ge (q := 57) (nx := 23) (by decide +kernel) (fun c5 => ?_) (fun c5 => ?_)
        · have x57 := IhL3.b (a1 := 37) (a2 := 37) (j1 := 86) (j2 := 87) (lo := 0) (hi := 6) (by decide +kernel) (r := 37) (j := 86) (by decide) (by decide) (by decide) (by decide)
          refine zwW_p [(1, 0, 2)] (q := 58) (ls' := [(2, 37), (0, a), (0, iL3)]) (st' := [(2, 37)]) (by decide +kernel) rfl ?_
          refine zwW_gc IhL3 (kd := 13) (bn := 82) (n := 97) (c := 189) (nx := 61) (by decide +kernel) ?_
          refine zwW_p [(1, 1, 0), (0, -1, 0)] (q := 63) (ls' := [(2, 37), (0, a), (0, iL3)]) (st' := [(0, -1), (0, a), (2, 189)]) (by decide +kernel) rfl ?_
          refine zwW_as IhL3 (a1 := 189) (a2 := 189) (n := 6) (lo := -1) (hi := 5) (nx := 64) (by decide +kernel) ⟨by decide, by decide⟩ ⟨by omega, by omega⟩ ⟨by decide, by decide⟩ ?_
          intro h6 eh6 Ih6
          have th6_37_86 : fld h6 37 86 = fld hL3 37 86 := by rw [eh6]; exact fld_wr (by omega)
          have th6_37_87 : fld h6 37 87 = fld hL3 37 87 := by rw [eh6]; exact fld_wr (by omega)
          have L63 : zLn h6 (a + 1) := (iL3_2).s eh6 (by omega) (by omega) (IhL3.s (a1 := 189) (a2 := 189) (by decide +kernel) (by decide) (by decide)) (fun i hi hx => by omega)
          have E63 := eh6
          have Y63 := (iL3_1).mr (zMR.one (a1 := 189) (a2 := 189) (j1 := 0) (j2 := 6) ⟨by decide, by decide⟩ ⟨by omega, by omega⟩ eh6) (by decide +kernel)
          have V63 : fld h6 37 86 = fld hL3 37 86 := fld_oth eh6 (Or.inl (by decide))
          rw [← V63] at Y63
          have Rh6 : zMR msT h h6 := RhL3.w (a1 := 189) (a2 := 189) (j1 := 0) (j2 := 6) (by decide +kernel) ⟨by decide, by decide⟩ ⟨by omega, by omega⟩ eh6
          refine zwW_p [(1, 0, 2), (1, 1, 0), (0, 1, 0)] (q := 67) (ls' := [(2, 37), (0, a), (0, iL3)]) (st' := [(0, 1), (0, a), (2, 37)]) (by decide +kernel) rfl ?_
          refine zwW_add (nx := 68) (by decide +kernel) ⟨by omega, by omega⟩ ?_
          refine zwW_cmv Ih6 (op := 60) (k' := 213) (n := 1) (kd := 13) (m := 97) (nx := 71) (r := 37) (tl := [(0, (a + 1))]) (st' := []) (by decide +kernel) rfl (by decide +kernel) (Nat.ble_eq_true_of_le (by omega)) (HT (by omega) h6 Ih6 Y63 L63 (by omega)) ?_
          rintro h8 ⟨Ih8, Qh8, f7⟩
          have Rh8 : zMR msT h h8 := Rh6.tr Qh8 (by decide +kernel)
          have th8_37_86 : fld h8 37 86 = fld h6 37 86 := Qh8.f (a1 := 37) (a2 := 37) (j1 := 86) (j2 := 87) (by decide +kernel) ⟨by decide, by decide⟩ ⟨by decide, by decide⟩
          have th8_37_87 : fld h8 37 87 = fld h6 37 87 := Qh8.f (a1 := 37) (a2 := 37) (j1 := 87) (j2 := 88) (by decide +kernel) ⟨by decide, by decide⟩ ⟨by decide, by decide⟩
          have Z71 : ∀ j : Nat, (j : Int) < a → fld h8 189 j = fld h 189 j := fun j hj => (f7 j (by omega)).trans ((fld_oth E63 (Or.inr (by omega))).trans (iL3_3 j hj))
          refine zwW_retv (nx := 72) (a := 0) (b := 0) (by decide +kernel) ?_
          exact ⟨Ih8, Rh8, Z71⟩
        · have x23 := IhL3.b (a1 := 37) (a2 := 37) (j1 := 86) (j2 := 87) (lo := 0) (hi := 6) (by decide +kernel) (r := 37) (j := 86) (by decide) (by decide) (by decide) (by decide)
          refine zwW_p [(1, 0, 2)] (q := 24) (ls' := [(2, 37), (0, a), (0, iL3)]) (st' := [(2, 37)]) (by decide +kernel) rfl ?_
          refine zwW_gc IhL3 (kd := 13) (bn := 84) (n := 97) (c := 191) (nx := 27) (by decide +kernel) ?_
          refine zwW_p [(1, 1, 0)] (q := 28) (ls' := [(2, 37), (0, a), (0, iL3)]) (st' := [(0, a), (2, 191)]) (by decide +kernel) rfl ?_
          refine zwW_ro IhL3 (a := 191) (n := 6) (kd := 29) (base := 192) (step := 1) (nx := 29) (by decide +kernel) rfl ⟨by omega, by omega⟩ ?_
          rw [show ((192 : Nat) : Int) + ((1 : Nat) : Int) * a = (192 + a) by omega]
          refine zwW_p [(1, 2, 0)] (q := 30) (ls' := [(2, 37), (0, a), (0, iL3)]) (st' := [(0, iL3), (2, (192 + a))]) (by decide +kernel) rfl ?_
          refine zwW_al IhL3 (a1 := 192) (a2 := 197) (kd := 22) (n := 6) (t := 0) (lo := 0) (hi := 1) (nx := 31) (by decide +kernel) ⟨by omega, by omega⟩ ⟨by omega, by omega⟩ ?_
          intro v9 ev9 lv9 uv9
          have M31 : fld hL3 (192 + a) (iL3).toNat = v9 := by omega
          refine zwif_ne (q := 37) (nx := 34) (by decide +kernel) (fun c10 => ?_) (fun c10 => ?_)
          · refine zwW_p [(1, 0, 2)] (q := 38) (ls' := [(2, 37), (0, a), (0, iL3)]) (st' := [(2, 37)]) (by decide +kernel) rfl ?_
            refine zwW_gc IhL3 (kd := 13) (bn := 82) (n := 97) (c := 189) (nx := 41) (by decide +kernel) ?_
            refine zwW_p [(1, 1, 0), (1, 2, 0)] (q := 43) (ls' := [(2, 37), (0, a), (0, iL3)]) (st' := [(0, iL3), (0, a), (2, 189)]) (by decide +kernel) rfl ?_
            refine zwW_as IhL3 (a1 := 189) (a2 := 189) (n := 6) (lo := -1) (hi := 5) (nx := 44) (by decide +kernel) ⟨by decide, by decide⟩ ⟨by omega, by omega⟩ ⟨by omega, by omega⟩ ?_
            intro h11 eh11 Ih11
            have th11_37_86 : fld h11 37 86 = fld hL3 37 86 := by rw [eh11]; exact fld_wr (by omega)
            have th11_37_87 : fld h11 37 87 = fld hL3 37 87 := by rw [eh11]; exact fld_wr (by omega)
            have L43 : zLn h11 (a + 1) := (iL3_2).s eh11 (by omega) (by omega) (IhL3.s (a1 := 189) (a2 := 189) (by decide +kernel) (by decide) (by decide)) (fun i hi hx => (iL3_1).2 a.toNat i (by omega) hi (by rw [show ((a.toNat : Nat) : Int) = a by omega, show i = (iL3).toNat by omega]; omega))
            have E43 := eh11
            have Y43 := (iL3_1).mr (zMR.one (a1 := 189) (a2 := 189) (j1 := 0) (j2 := 6) ⟨by decide, by decide⟩ ⟨by omega, by omega⟩ eh11) (by decide +kernel)
            have V43 : fld h11 37 86 = fld hL3 37 86 := fld_oth eh11 (Or.inl (by decide))
            rw [← V43] at Y43
            have Rh11 : zMR msT h h11 := RhL3.w (a1 := 189) (a2 := 189) (j1 := 0) (j2 := 6) (by decide +kernel) ⟨by decide, by decide⟩ ⟨by omega, by omega⟩ eh11
            refine zwW_p [(1, 0, 2), (1, 1, 0), (0, 1, 0)] (q := 47) (ls' := [(2, 37), (0, a), (0, iL3)]) (st' := [(0, 1), (0, a), (2, 37)]) (by decide +kernel) rfl ?_
            refine zwW_add (nx := 48) (by decide +kernel) ⟨by omega, by omega⟩ ?_
            refine zwW_cmv Ih11 (op := 60) (k' := 213) (n := 1) (kd := 13) (m := 97) (nx := 51) (r := 37) (tl := [(0, (a + 1))]) (st' := []) (by decide +kernel) rfl (by decide +kernel) (Nat.ble_eq_true_of_le (by omega)) (HT (by omega) h11 Ih11 Y43 L43 (by omega)) ?_
            rintro h13 ⟨Ih13, Qh13, f12⟩
            have Rh13 : zMR msT h h13 := Rh11.tr Qh13 (by decide +kernel)
            have th13_37_86 : fld h13 37 86 = fld h11 37 86 := Qh13.f (a1 := 37) (a2 := 37) (j1 := 86) (j2 := 87) (by decide +kernel) ⟨by decide, by decide⟩ ⟨by decide, by decide⟩
            have th13_37_87 : fld h13 37 87 = fld h11 37 87 := Qh13.f (a1 := 37) (a2 := 37) (j1 := 87) (j2 := 88) (by decide +kernel) ⟨by decide, by decide⟩ ⟨by decide, by decide⟩
            have L48 : zLn h13 a := ((iL3_2).kp (zMR.one (a1 := 189) (a2 := 189) (j1 := 0) (j2 := 6) ⟨by decide, by decide⟩ ⟨by omega, by omega⟩ E43) (by decide +kernel) (fun j hj => fld_oth E43 (Or.inr (by omega)))).kp Qh13 (by decide +kernel) (fun j hj => f12 j (by omega))
            have Y48 := Y43.mr Qh13 (by decide +kernel)
            rw [← Qh13.f1 86 (by decide +kernel)] at Y48
            have Z48 : ∀ j : Nat, (j : Int) < a → fld h13 189 j = fld h 189 j := fun j hj => (f12 j (by omega)).trans ((fld_oth E43 (Or.inr (by omega))).trans (iL3_3 j hj))
            refine zwW_inc (i := 2) (c := 1) (x := iL3) (nx := 54) (by decide +kernel) rfl ⟨by omega, by omega⟩ (ls' := [(2, 37), (0, a), (0, (iL3 + 1))]) rfl ?_
            refine zwW_p [(24, 15, 0)] (q := 15) (ls' := [(2, 37), (0, a), (0, (iL3 + 1))]) (st' := []) (by decide +kernel) rfl ?_
            exact IHL3 ((100 - (iL3 + 1))).toNat (by omega) (iL3 + 1) h13 rfl (by omega) (by first | exact iL3_1 | exact Y48) (by first | exact iL3_2 | exact L48) (by first | exact iL3_3 | exact Z48) (by omega) (by omega) Ih13 Rh13
          · refine zwW_p [(24, 51, 0)] (q := 51) (ls' := [(2, 37), (0, a), (0, iL3)]) (st' := []) (by decide +kernel) rfl ?_
            refine zwW_inc (i := 2) (c := 1) (x := iL3) (nx := 54) (by decide +kernel) rfl ⟨by omega, by omega⟩ (ls' := [(2, 37), (0, a), (0, (iL3 + 1))]) rfl ?_
            refine zwW_p [(24, 15, 0)] (q := 15) (ls' := [(2, 37), (0, a), (0, (iL3 + 1))]) (st' := []) (by decide +kernel) rfl ?_
            exact IHL3 ((100 - (iL3 + 1))).toNat (by omega) (iL3 + 1) hL3 rfl (by omega) (by first | exact iL3_1 | exact Y48) (by first | exact iL3_2 | exact L48) (by first | exact iL3_3 | exact Z48) (by omega) (by omega) IhL3 RhL3
    exact L3 _ 0 h rfl (by omega) (hY) (hL) (fun _ _ => rfl) (by omega) (by omega) I R
  · refine zwW_p [(1, 0, 2)] (q := 9) (ls' := [(2, 37), (0, a), (9, 0)]) (st' := [(2, 37)]) (by decide +kernel) rfl ?_
    refine zwW_cmv I (op := 60) (k' := 253) (n := 0) (kd := 13) (m := 97) (nx := 12) (r := 37) (tl := []) (st' := []) (by decide +kernel) rfl (by decide +kernel) (Nat.ble_eq_true_of_le (by omega)) (m253 h I (by rw [show fld h 37 86 = a by omega]; exact hL)) ?_
    rintro h14 ⟨Ih14, Qh14⟩
    have Rh14 : zMR msT h h14 := R.tr Qh14 (by decide +kernel)
    have th14_37_86 : fld h14 37 86 = fld h 37 86 := Qh14.f (a1 := 37) (a2 := 37) (j1 := 86) (j2 := 87) (by decide +kernel) ⟨by decide, by decide⟩ ⟨by decide, by decide⟩
    have th14_37_87 : fld h14 37 87 = fld h 37 87 := Qh14.f (a1 := 37) (a2 := 37) (j1 := 87) (j2 := 88) (by decide +kernel) ⟨by decide, by decide⟩ ⟨by decide, by decide⟩
    refine zwW_retv (nx := 13) (a := 0) (b := 0) (by decide +kernel) ?_
    exact ⟨Ih14, Rh14, fun j hj => congrFun (Qh14.rg (a := 189) (b := 189) (by decide +kernel) (r := 189) (by decide) (by decide)) j⟩
