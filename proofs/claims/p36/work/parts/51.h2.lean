/-! joined: 51.h2 60.xdefs 61.xlist 62.xadd 63.xadd2 64.xarr 64.zjs 65.xlits 65.yroads 66.actor 66.arel 66.bsheet 66.x1 -/
section
/-! contracts of methods -/
def ms148 : Zms := [(37, 37, 87, 88), (37, 37, 88, 91), (97, 97, 0, 8), (168, 168, 0, 13), (169, 169, 0, 420), (187, 187, 0, 6), (188, 188, 0, 6), (189, 189, 0, 6), (190, 190, 0, 6), (192, 197, 0, 6), (199, 204, 0, 6)]
-- WheelLandModel.handsFor(I)Z
theorem m148 {sc : List Int} (h : Hp) (I : zI h) (a : Int) (q_a : -2147483648 ≤ a ∧ a ≤ 2147483647) (hW : zCW h) : zwC sc 81 148 [(2, 37), (0, a)] h (zwRt 0 (fun x g => zI g ∧ zMR ms148 h g ∧ ((x = 1) ∨ (x = 0)))) := by
  refine zwC_of (D := 80) 4 (by decide +kernel) rfl (ls := [(2, 37), (0, a), (9, 0), (9, 0)]) rfl ?_
  have R : zMR ms148 h h := zMR.rf _ _
  have B0 := I.b (a1 := 37) (a2 := 37) (j1 := 86) (j2 := 87) (lo := 0) (hi := 6) (by decide +kernel) (r := 37) (j := 86) (by decide) (by decide) (by decide) (by decide)
  refine zwW_p [(1, 1, 0), (7, 0, 0), (0, 1, 1), (0, 1, 0), (1, 0, 2)] (q := 5) (ls' := [(2, 37), (0, a), (9, 0), (9, 0)]) (st' := [(2, 37), (0, 1), (1, 1), (1, a)]) (by decide +kernel) rfl ?_
  refine zwW_gs I (kd := 13) (bn := 2) (n := 97) (t := 0) (lo := 0) (hi := 20) (nx := 8) (by decide +kernel) ?_
  intro v1 ev1 lv1 uv1
  refine zwW_any2 (a := 8) (nx := 9) (by decide +kernel) rfl (by first | omega | exact ⟨by omega, by omega⟩) (Or.inr (by first | decide | exact ⟨by decide, by decide⟩)) ?_
  intro v2 lv2 uv2
  refine zwW_p [(0, 1, 0)] (q := 10) (ls' := [(2, 37), (0, a), (9, 0), (9, 0)]) (st' := [(0, 1), (0, v2), (1, 1), (1, a)]) (by decide +kernel) rfl ?_
  refine zwW_sbw (nx := 11) (by decide +kernel) ?_
  intro v3 ev3 lv3 uv3
  refine zwW_p [(7, 0, 0)] (q := 12) (ls' := [(2, 37), (0, a), (9, 0), (9, 0)]) (st' := [(1, v3), (1, 1), (1, a)]) (by decide +kernel) rfl ?_
  refine zwW_cs (k' := 101) (n := 3) (nx := 15) (as := [(1, a), (1, 1), (1, v3)]) (st' := []) (by decide +kernel) rfl (m101 h a 1 v3) rfl ?_
  rintro x _ ⟨rfl, ⟨rfl, c4⟩ | ⟨rfl, c4⟩⟩
  · refine zwif_eq (q := 25) (nx := 18) (by decide +kernel) (fun c5 => ?_) (fun c5 => ?_)
    · exfalso; omega
    · refine zwW_p [(1, 0, 2)] (q := 19) (ls' := [(2, 37), (0, a), (9, 0), (9, 0)]) (st' := [(2, 37)]) (by decide +kernel) rfl ?_
      refine zwW_gs I (kd := 13) (bn := 86) (n := 97) (t := 0) (lo := 0) (hi := 6) (nx := 22) (by decide +kernel) ?_
      intro v6 ev6 lv6 uv6
      refine zwif_ne (q := 27) (nx := 25) (by decide +kernel) (fun c7 => ?_) (fun c7 => ?_)
      · refine zwW_p [(1, 0, 2), (0, 0, 0)] (q := 29) (ls' := [(2, 37), (0, a), (9, 0), (9, 0)]) (st' := [(0, 0), (2, 37)]) (by decide +kernel) rfl ?_
        refine zwW_ps I (kd := 13) (bn := 87) (n := 97) (lo := 0) (hi := 6) (nx := 32) (by decide +kernel) (by first | decide | exact ⟨by decide, by decide⟩) ?_
        intro h8 eh8 Ih8
        have th8_37_2 : fld h8 37 2 = fld h 37 2 := by rw [eh8]; exact fld_wr (by decide)
        have th8_37_86 : fld h8 37 86 = fld h 37 86 := by rw [eh8]; exact fld_wr (by decide)
        have th8_37_87 : fld h8 37 87 = 0 := by rw [eh8]; exact fld_wr_eq (I.s (a1 := 37) (a2 := 37) (k := 13) (n := 97) (by decide +kernel) (by decide) (by decide)) (by decide)
        have Oh8 : zMR [(37, 37, 87, 88)] h h8 := zMR.one (by first | decide | exact ⟨by decide, by decide⟩) (by first | decide | exact ⟨by decide, by decide⟩) eh8
        have Rh8 : zMR ms148 h h8 := R.w (a1 := 37) (a2 := 37) (j1 := 87) (j2 := 88) (by decide +kernel) (by first | decide | exact ⟨by decide, by decide⟩) (by first | decide | exact ⟨by decide, by decide⟩) eh8
        refine zwW_p [(0, 0, 0), (2, 2, 0)] (q := 34) (ls' := [(2, 37), (0, a), (0, 0), (9, 0)]) (st' := []) (by decide +kernel) rfl ?_
        have L9 : ∀ (n : Nat) (qL9 : Int) (hL9 : Hp), n = ((100 - qL9)).toNat → (0 ≤ qL9 ∧ qL9 ≤ 20) → (fld hL9 37 86 = fld h 37 86) → zI hL9 → zMR ms148 h hL9 → zwW sc (80) 148 34 [(2, 37), (0, a), (0, qL9), (9, 0)] [] hL9 (zwRt 0 (fun x g => zI g ∧ zMR ms148 h g ∧ ((x = 1) ∨ (x = 0)))) := by
          intro n
          induction n using Nat.strongRecOn with
          | ind n IHL9 =>
            intro qL9 hL9 hnL9 iL9_0 iL9_1 IhL9 RhL9
            refine zwW_p [(1, 2, 0), (1, 0, 2)] (q := 36) (ls' := [(2, 37), (0, a), (0, qL9), (9, 0)]) (st' := [(2, 37), (0, qL9)]) (by decide +kernel) rfl ?_
            refine zwW_gs IhL9 (kd := 13) (bn := 2) (n := 97) (t := 0) (lo := 0) (hi := 20) (nx := 39) (by decide +kernel) ?_
            intro v10 ev10 lv10 uv10
            refine zwic_ge (q := 90) (nx := 42) (by decide +kernel) (fun c11 => ?_) (fun c11 => ?_)
            · refine zwW_p [(0, 0, 0), (2, 2, 0)] (q := 92) (ls' := [(2, 37), (0, a), (0, 0), (9, 0)]) (st' := []) (by decide +kernel) rfl ?_
              have L12 : ∀ (n : Nat) (kL12 : Int) (w3L12 : Vl) (hL12 : Hp), n = ((100 - kL12)).toNat → (0 ≤ kL12 ∧ kL12 ≤ 6) → (fld hL12 37 86 = fld h 37 86) → (zMYn hL12 kL12) → (kL12 ≤ fld h 37 86) → zI hL12 → zMR ms148 h hL12 → zwW sc (80) 148 92 [(2, 37), (0, a), (0, kL12), w3L12] [] hL12 (zwRt 0 (fun x g => zI g ∧ zMR ms148 h g ∧ ((x = 1) ∨ (x = 0)))) := by
                intro n
                induction n using Nat.strongRecOn with
                | ind n IHL12 =>
                  intro kL12 w3L12 hL12 hnL12 iL12_0 iL12_1 iL12_2 iL12_3 IhL12 RhL12
                  refine zwW_p [(1, 2, 0), (1, 0, 2)] (q := 94) (ls' := [(2, 37), (0, a), (0, kL12), w3L12]) (st' := [(2, 37), (0, kL12)]) (by decide +kernel) rfl ?_
                  refine zwW_gs IhL12 (kd := 13) (bn := 86) (n := 97) (t := 0) (lo := 0) (hi := 6) (nx := 97) (by decide +kernel) ?_
                  intro v13 ev13 lv13 uv13
                  refine zwic_ge (q := 240) (nx := 100) (by decide +kernel) (fun c14 => ?_) (fun c14 => ?_)
                  · refine zwW_p [(1, 0, 2), (0, -1, 0)] (q := 242) (ls' := [(2, 37), (0, a), (0, kL12), w3L12]) (st' := [(0, -1), (2, 37)]) (by decide +kernel) rfl ?_
                    refine zwW_ps IhL12 (kd := 13) (bn := 88) (n := 97) (lo := -2147483648) (hi := 2147483647) (nx := 245) (by decide +kernel) (by first | decide | exact ⟨by decide, by decide⟩) ?_
                    intro h15 eh15 Ih15
                    have th15_37_2 : fld h15 37 2 = fld hL12 37 2 := by rw [eh15]; exact fld_wr (by decide)
                    have th15_37_86 : fld h15 37 86 = fld hL12 37 86 := by rw [eh15]; exact fld_wr (by decide)
                    have th15_37_87 : fld h15 37 87 = fld hL12 37 87 := by rw [eh15]; exact fld_wr (by decide)
                    have Oh15 : zMR [(37, 37, 88, 89)] hL12 h15 := zMR.one (by first | decide | exact ⟨by decide, by decide⟩) (by first | decide | exact ⟨by decide, by decide⟩) eh15
                    have MYh15 := iL12_2.mr Oh15 (by decide +kernel)
                    have Rh15 : zMR ms148 h h15 := RhL12.w (a1 := 37) (a2 := 37) (j1 := 88) (j2 := 89) (by decide +kernel) (by first | decide | exact ⟨by decide, by decide⟩) (by first | decide | exact ⟨by decide, by decide⟩) eh15
                    refine zwW_p [(1, 0, 2), (0, 0, 0)] (q := 247) (ls' := [(2, 37), (0, a), (0, kL12), w3L12]) (st' := [(0, 0), (2, 37)]) (by decide +kernel) rfl ?_
                    refine zwW_cmv Ih15 (op := 60) (k' := 213) (n := 1) (kd := 13) (m := 97) (nx := 250) (r := 37) (tl := [(0, 0)]) (st' := []) (by decide +kernel) rfl (by decide +kernel) rfl (ztries0 sc h15 Ih15 (by rw [show fld h15 37 86 = kL12 by omega]; exact MYh15) ⟨by decide, fun k i hk => by omega⟩ (by omega)) ?_
                    rintro h17 ⟨Ih17, Qh17, f16⟩
                    have Rh17 : zMR ms148 h h17 := Rh15.tr Qh17 (by decide +kernel)
                    have MYh17 := MYh15.mr Qh17 (by decide +kernel)
                    have th17_37_2 : fld h17 37 2 = fld h15 37 2 := Qh17.f (a1 := 37) (a2 := 37) (j1 := 2) (j2 := 3) (by decide +kernel) (by first | decide | exact ⟨by decide, by decide⟩) (by first | decide | exact ⟨by decide, by decide⟩)
                    have th17_37_86 : fld h17 37 86 = fld h15 37 86 := Qh17.f (a1 := 37) (a2 := 37) (j1 := 86) (j2 := 87) (by decide +kernel) (by first | decide | exact ⟨by decide, by decide⟩) (by first | decide | exact ⟨by decide, by decide⟩)
                    have th17_37_87 : fld h17 37 87 = fld h15 37 87 := Qh17.f (a1 := 37) (a2 := 37) (j1 := 87) (j2 := 88) (by decide +kernel) (by first | decide | exact ⟨by decide, by decide⟩) (by first | decide | exact ⟨by decide, by decide⟩)
                    refine zwW_p [(0, 1, 0)] (q := 251) (ls' := [(2, 37), (0, a), (0, kL12), w3L12]) (st' := [(0, 1)]) (by decide +kernel) rfl ?_
                    refine zwW_ret (nx := 252) (a := 1) (b := 0) (by decide +kernel) rfl (Or.inr (Or.inl ⟨rfl, Or.inr rfl⟩)) ?_
                    exact ⟨Ih17, Rh17, Or.inl rfl⟩
                  · refine zwW_p [(1, 0, 2)] (q := 101) (ls' := [(2, 37), (0, a), (0, kL12), w3L12]) (st' := [(2, 37)]) (by decide +kernel) rfl ?_
                    refine zwW_gc IhL12 (kd := 13) (bn := 80) (n := 97) (c := 187) (nx := 104) (by decide +kernel) ?_
                    refine zwW_p [(1, 2, 0), (1, 0, 2)] (q := 106) (ls' := [(2, 37), (0, a), (0, kL12), w3L12]) (st' := [(2, 37), (0, kL12), (2, 187)]) (by decide +kernel) rfl ?_
                    refine zwW_gc IhL12 (kd := 13) (bn := 63) (n := 97) (c := 175) (nx := 109) (by decide +kernel) ?_
                    refine zwW_p [(1, 0, 2)] (q := 110) (ls' := [(2, 37), (0, a), (0, kL12), w3L12]) (st' := [(2, 37), (2, 175), (0, kL12), (2, 187)]) (by decide +kernel) rfl ?_
                    refine zwW_gc IhL12 (kd := 13) (bn := 79) (n := 97) (c := 186) (nx := 113) (by decide +kernel) ?_
                    refine zwW_p [(1, 2, 0)] (q := 114) (ls' := [(2, 37), (0, a), (0, kL12), w3L12]) (st' := [(0, kL12), (2, 186), (2, 175), (0, kL12), (2, 187)]) (by decide +kernel) rfl ?_
                    refine zwW_al IhL12 (a1 := 186) (a2 := 186) (kd := 20) (n := 6) (t := 0) (lo := 0) (hi := 299) (nx := 115) (by decide +kernel) (by first | decide | exact ⟨by decide, by decide⟩) (by first | omega | exact ⟨by omega, by omega⟩) ?_
                    intro v18 ev18 lv18 uv18
                    refine zwW_al IhL12 (a1 := 175) (a2 := 175) (kd := 20) (n := 300) (t := 0) (lo := -2147483648) (hi := 2147483647) (nx := 116) (by decide +kernel) (by first | decide | exact ⟨by decide, by decide⟩) (by first | omega | exact ⟨by omega, by omega⟩) ?_
                    intro v19 ev19 lv19 uv19
                    refine zwW_p [(1, 0, 2)] (q := 117) (ls' := [(2, 37), (0, a), (0, kL12), w3L12]) (st' := [(2, 37), (0, v19), (0, kL12), (2, 187)]) (by decide +kernel) rfl ?_
                    refine zwW_gc IhL12 (kd := 13) (bn := 63) (n := 97) (c := 175) (nx := 120) (by decide +kernel) ?_
                    refine zwW_p [(1, 0, 2)] (q := 121) (ls' := [(2, 37), (0, a), (0, kL12), w3L12]) (st' := [(2, 37), (2, 175), (0, v19), (0, kL12), (2, 187)]) (by decide +kernel) rfl ?_
                    refine zwW_gc IhL12 (kd := 13) (bn := 79) (n := 97) (c := 186) (nx := 124) (by decide +kernel) ?_
                    refine zwW_p [(1, 2, 0)] (q := 125) (ls' := [(2, 37), (0, a), (0, kL12), w3L12]) (st' := [(0, kL12), (2, 186), (2, 175), (0, v19), (0, kL12), (2, 187)]) (by decide +kernel) rfl ?_
                    refine zwW_al IhL12 (a1 := 186) (a2 := 186) (kd := 20) (n := 6) (t := 0) (lo := 0) (hi := 299) (nx := 126) (by decide +kernel) (by first | decide | exact ⟨by decide, by decide⟩) (by first | omega | exact ⟨by omega, by omega⟩) ?_
                    intro v20 ev20 lv20 uv20
                    refine zwW_al IhL12 (a1 := 175) (a2 := 175) (kd := 20) (n := 300) (t := 0) (lo := -2147483648) (hi := 2147483647) (nx := 127) (by decide +kernel) (by first | decide | exact ⟨by decide, by decide⟩) (by first | omega | exact ⟨by omega, by omega⟩) ?_
                    intro v21 ev21 lv21 uv21
                    refine zwW_p [(0, 2, 0)] (q := 128) (ls' := [(2, 37), (0, a), (0, kL12), w3L12]) (st' := [(0, 2), (0, v21), (0, v19), (0, kL12), (2, 187)]) (by decide +kernel) rfl ?_
                    refine zwW_tmod (nx := 129) (by decide +kernel) (by omega) ?_
                    refine zwW_sbw (nx := 130) (by decide +kernel) ?_
                    intro v22 ev22 lv22 uv22
                    refine zwW_as IhL12 (a1 := 187) (a2 := 187) (n := 6) (lo := -2147483648) (hi := 2147483647) (nx := 131) (by decide +kernel) (by first | decide | exact ⟨by decide, by decide⟩) (by first | omega | exact ⟨by omega, by omega⟩) (by first | omega | exact ⟨by omega, by omega⟩) ?_
                    intro h23 eh23 Ih23
                    have th23_37_2 : fld h23 37 2 = fld hL12 37 2 := by rw [eh23]; exact fld_wr (by omega)
                    have th23_37_86 : fld h23 37 86 = fld hL12 37 86 := by rw [eh23]; exact fld_wr (by omega)
                    have th23_37_87 : fld h23 37 87 = fld hL12 37 87 := by rw [eh23]; exact fld_wr (by omega)
                    have Oh23 : zMR [(187, 187, 0, 6)] hL12 h23 := zMR.one (by first | decide | exact ⟨by decide, by decide⟩) (by first | omega | exact ⟨by omega, by omega⟩) eh23
                    have MYh23 := iL12_2.mr Oh23 (by decide +kernel)
                    have Rh23 : zMR ms148 h h23 := RhL12.w (a1 := 187) (a2 := 187) (j1 := 0) (j2 := 6) (by decide +kernel) (by first | decide | exact ⟨by decide, by decide⟩) (by first | omega | exact ⟨by omega, by omega⟩) eh23
                    refine zwW_p [(0, 0, 0), (2, 3, 0)] (q := 133) (ls' := [(2, 37), (0, a), (0, kL12), (0, 0)]) (st' := []) (by decide +kernel) rfl ?_
                    have L24 : ∀ (n : Nat) (iL24 : Int) (hL24 : Hp), n = ((100 - iL24)).toNat → (0 ≤ iL24 ∧ iL24 ≤ 6) → (fld hL24 37 86 = fld h 37 86) → (zMYn hL24 kL12) → (zMYr hL24 kL12 iL24) → (kL12 < fld h 37 86) → zI hL24 → zMR ms148 h hL24 → zwW sc (80) 148 133 [(2, 37), (0, a), (0, kL12), (0, iL24)] [] hL24 (zwRt 0 (fun x g => zI g ∧ zMR ms148 h g ∧ ((x = 1) ∨ (x = 0)))) := by
                      intro n
                      induction n using Nat.strongRecOn with
                      | ind n IHL24 =>
                        intro iL24 hL24 hnL24 iL24_0 iL24_1 iL24_2 iL24_3 iL24_4 IhL24 RhL24
                        refine zwW_p [(1, 3, 0), (1, 0, 2)] (q := 135) (ls' := [(2, 37), (0, a), (0, kL12), (0, iL24)]) (st' := [(2, 37), (0, iL24)]) (by decide +kernel) rfl ?_
                        refine zwW_gs IhL24 (kd := 13) (bn := 87) (n := 97) (t := 0) (lo := 0) (hi := 6) (nx := 138) (by decide +kernel) ?_
                        intro v25 ev25 lv25 uv25
                        refine zwic_ge (q := 234) (nx := 141) (by decide +kernel) (fun c26 => ?_) (fun c26 => ?_)
                        · refine zwW_inc (i := 2) (c := 1) (x := kL12) (nx := 237) (by decide +kernel) rfl (by first | omega | exact ⟨by omega, by omega⟩) (ls' := [(2, 37), (0, a), (0, (kL12 + 1)), (0, iL24)]) rfl ?_
                          refine zwW_p [(24, 92, 0)] (q := 92) (ls' := [(2, 37), (0, a), (0, (kL12 + 1)), (0, iL24)]) (st' := []) (by decide +kernel) rfl ?_
                          exact IHL12 ((100 - (kL12 + 1))).toNat (by omega) (kL12 + 1) (0, iL24) hL24 rfl (by omega) (by omega) ((iL24_2).s iL24_3 (by omega)) (by omega) IhL24 RhL24
                        · refine zwW_p [(1, 0, 2)] (q := 142) (ls' := [(2, 37), (0, a), (0, kL12), (0, iL24)]) (st' := [(2, 37)]) (by decide +kernel) rfl ?_
                          refine zwW_gc IhL24 (kd := 13) (bn := 84) (n := 97) (c := 191) (nx := 145) (by decide +kernel) ?_
                          refine zwW_p [(1, 2, 0)] (q := 146) (ls' := [(2, 37), (0, a), (0, kL12), (0, iL24)]) (st' := [(0, kL12), (2, 191)]) (by decide +kernel) rfl ?_
                          refine zwW_ro IhL24 (a := 191) (n := 6) (kd := 29) (base := 192) (step := 1) (nx := 147) (by decide +kernel) rfl (by first | omega | exact ⟨by omega, by omega⟩) ?_
                          rw [show ((192 : Nat) : Int) + ((1 : Nat) : Int) * kL12 = (192 + kL12) by omega]
                          refine zwW_p [(1, 3, 0), (1, 0, 2)] (q := 149) (ls' := [(2, 37), (0, a), (0, kL12), (0, iL24)]) (st' := [(2, 37), (0, iL24), (2, (192 + kL12))]) (by decide +kernel) rfl ?_
                          refine zwW_gc IhL24 (kd := 13) (bn := 80) (n := 97) (c := 187) (nx := 152) (by decide +kernel) ?_
                          refine zwW_p [(1, 2, 0)] (q := 153) (ls' := [(2, 37), (0, a), (0, kL12), (0, iL24)]) (st' := [(0, kL12), (2, 187), (0, iL24), (2, (192 + kL12))]) (by decide +kernel) rfl ?_
                          refine zwW_al IhL24 (a1 := 187) (a2 := 187) (kd := 20) (n := 6) (t := 0) (lo := -2147483648) (hi := 2147483647) (nx := 154) (by decide +kernel) (by first | decide | exact ⟨by decide, by decide⟩) (by first | omega | exact ⟨by omega, by omega⟩) ?_
                          intro v27 ev27 lv27 uv27
                          refine zwW_p [(0, 2, 0)] (q := 155) (ls' := [(2, 37), (0, a), (0, kL12), (0, iL24)]) (st' := [(0, 2), (0, v27), (0, iL24), (2, (192 + kL12))]) (by decide +kernel) rfl ?_
                          refine zwic_lt (q := 187) (nx := 158) (by decide +kernel) (fun c28 => ?_) (fun c28 => ?_)
                          · refine zwW_p [(0, 0, 0)] (q := 188) (ls' := [(2, 37), (0, a), (0, kL12), (0, iL24)]) (st' := [(0, 0), (0, iL24), (2, (192 + kL12))]) (by decide +kernel) rfl ?_
                            refine zwW_asz IhL24 (a1 := 192) (a2 := 197) (n := 6) (nx := 189) (by decide +kernel) (by first | omega | exact ⟨by omega, by omega⟩) (by first | omega | exact ⟨by omega, by omega⟩) (by omega) ?_
                            intro h29 eh29 Ih29
                            have th29_37_2 : fld h29 37 2 = fld hL24 37 2 := by rw [eh29]; exact fld_wr (by omega)
                            have th29_37_86 : fld h29 37 86 = fld hL24 37 86 := by rw [eh29]; exact fld_wr (by omega)
                            have th29_37_87 : fld h29 37 87 = fld hL24 37 87 := by rw [eh29]; exact fld_wr (by omega)
                            have Oh29 : zMR [(192, 197, 0, 6)] hL24 h29 := zMR.one (by first | omega | exact ⟨by omega, by omega⟩) (by first | omega | exact ⟨by omega, by omega⟩) eh29
                            have E188 : h29 = wr hL24 (192 + kL12) (iL24).toNat 0 := by rw [eh29, show (192 + kL12) = 192 + kL12 by omega]
                            have MRh29 := (iL24_3).s E188 (by omega) (IhL24.s (a1 := 192) (a2 := 197) (by decide +kernel) (by omega) (by omega)) (by omega) (by first | exact fun hq => absurd rfl hq | exact fun _ => J183)
                            have MYh29 := (iL24_2).w E188 (by omega)
                            have Rh29 : zMR ms148 h h29 := RhL24.w (a1 := 192) (a2 := 197) (j1 := 0) (j2 := 6) (by decide +kernel) (by first | omega | exact ⟨by omega, by omega⟩) (by first | omega | exact ⟨by omega, by omega⟩) eh29
                            refine zwW_p [(1, 0, 2)] (q := 190) (ls' := [(2, 37), (0, a), (0, kL12), (0, iL24)]) (st' := [(2, 37)]) (by decide +kernel) rfl ?_
                            refine zwW_gc Ih29 (kd := 13) (bn := 85) (n := 97) (c := 198) (nx := 193) (by decide +kernel) ?_
                            refine zwW_p [(1, 2, 0)] (q := 194) (ls' := [(2, 37), (0, a), (0, kL12), (0, iL24)]) (st' := [(0, kL12), (2, 198)]) (by decide +kernel) rfl ?_
                            refine zwW_ro Ih29 (a := 198) (n := 6) (kd := 26) (base := 199) (step := 1) (nx := 195) (by decide +kernel) rfl (by first | omega | exact ⟨by omega, by omega⟩) ?_
                            rw [show ((199 : Nat) : Int) + ((1 : Nat) : Int) * kL12 = (199 + kL12) by omega]
                            refine zwW_p [(1, 3, 0), (1, 0, 2), (1, 0, 2)] (q := 198) (ls' := [(2, 37), (0, a), (0, kL12), (0, iL24)]) (st' := [(2, 37), (2, 37), (0, iL24), (2, (199 + kL12))]) (by decide +kernel) rfl ?_
                            refine zwW_gc Ih29 (kd := 13) (bn := 20) (n := 97) (c := 79) (nx := 201) (by decide +kernel) ?_
                            refine zwW_p [(1, 0, 2)] (q := 202) (ls' := [(2, 37), (0, a), (0, kL12), (0, iL24)]) (st' := [(2, 37), (2, 79), (2, 37), (0, iL24), (2, (199 + kL12))]) (by decide +kernel) rfl ?_
                            refine zwW_gc Ih29 (kd := 13) (bn := 58) (n := 97) (c := 170) (nx := 205) (by decide +kernel) ?_
                            refine zwW_p [(1, 0, 2)] (q := 206) (ls' := [(2, 37), (0, a), (0, kL12), (0, iL24)]) (st' := [(2, 37), (2, 170), (2, 79), (2, 37), (0, iL24), (2, (199 + kL12))]) (by decide +kernel) rfl ?_
                            refine zwW_gc Ih29 (kd := 13) (bn := 79) (n := 97) (c := 186) (nx := 209) (by decide +kernel) ?_
                            refine zwW_p [(1, 2, 0)] (q := 210) (ls' := [(2, 37), (0, a), (0, kL12), (0, iL24)]) (st' := [(0, kL12), (2, 186), (2, 170), (2, 79), (2, 37), (0, iL24), (2, (199 + kL12))]) (by decide +kernel) rfl ?_
                            refine zwW_al Ih29 (a1 := 186) (a2 := 186) (kd := 20) (n := 6) (t := 0) (lo := 0) (hi := 299) (nx := 211) (by decide +kernel) (by first | decide | exact ⟨by decide, by decide⟩) (by first | omega | exact ⟨by omega, by omega⟩) ?_
                            intro v30 ev30 lv30 uv30
                            refine zwW_al Ih29 (a1 := 170) (a2 := 170) (kd := 20) (n := 300) (t := 0) (lo := 0) (hi := 19) (nx := 212) (by decide +kernel) (by first | decide | exact ⟨by decide, by decide⟩) (by first | omega | exact ⟨by omega, by omega⟩) ?_
                            intro v31 ev31 lv31 uv31
                            refine zwW_al Ih29 (a1 := 79) (a2 := 79) (kd := 20) (n := 20) (t := 0) (lo := 0) (hi := 7) (nx := 213) (by decide +kernel) (by first | decide | exact ⟨by decide, by decide⟩) (by first | omega | exact ⟨by omega, by omega⟩) ?_
                            intro v32 ev32 lv32 uv32
                            refine zwW_p [(1, 0, 2)] (q := 214) (ls' := [(2, 37), (0, a), (0, kL12), (0, iL24)]) (st' := [(2, 37), (0, v32), (2, 37), (0, iL24), (2, (199 + kL12))]) (by decide +kernel) rfl ?_
                            refine zwW_gc Ih29 (kd := 13) (bn := 20) (n := 97) (c := 79) (nx := 217) (by decide +kernel) ?_
                            refine zwW_p [(1, 0, 2)] (q := 218) (ls' := [(2, 37), (0, a), (0, kL12), (0, iL24)]) (st' := [(2, 37), (2, 79), (0, v32), (2, 37), (0, iL24), (2, (199 + kL12))]) (by decide +kernel) rfl ?_
                            refine zwW_gc Ih29 (kd := 13) (bn := 81) (n := 97) (c := 188) (nx := 221) (by decide +kernel) ?_
                            refine zwW_p [(1, 3, 0)] (q := 222) (ls' := [(2, 37), (0, a), (0, kL12), (0, iL24)]) (st' := [(0, iL24), (2, 188), (2, 79), (0, v32), (2, 37), (0, iL24), (2, (199 + kL12))]) (by decide +kernel) rfl ?_
                            refine zwW_al Ih29 (a1 := 188) (a2 := 188) (kd := 20) (n := 6) (t := 0) (lo := 0) (hi := 19) (nx := 223) (by decide +kernel) (by first | decide | exact ⟨by decide, by decide⟩) (by first | omega | exact ⟨by omega, by omega⟩) ?_
                            intro v33 ev33 lv33 uv33
                            refine zwW_al Ih29 (a1 := 79) (a2 := 79) (kd := 20) (n := 20) (t := 0) (lo := 0) (hi := 7) (nx := 224) (by decide +kernel) (by first | decide | exact ⟨by decide, by decide⟩) (by first | omega | exact ⟨by omega, by omega⟩) ?_
                            intro v34 ev34 lv34 uv34
                            refine zwW_cm Ih29 (op := 60) (k' := 106) (n := 2) (kd := 13) (m := 97) (nx := 227) (r := 37) (tl := [(0, v32), (0, v34)]) (st' := [(0, iL24), (2, (199 + kL12))]) (by decide +kernel) rfl (by decide +kernel) rfl (m106 h29 Ih29 v32 v34 (by omega) (by omega)) ?_
                            rintro v35 h39 ⟨Ih39, Qh39, f36, f37, f38⟩
                            have Rh39 : zMR ms148 h h39 := Rh29.tr Qh39 (by decide +kernel)
                            have MYh39 := MYh29.mr Qh39 (by decide +kernel)
                            have MRh39 := MRh29.mr Qh39 (by decide +kernel)
                            have th39_37_2 : fld h39 37 2 = fld h29 37 2 := Qh39.f (a1 := 37) (a2 := 37) (j1 := 2) (j2 := 3) (by decide +kernel) (by first | decide | exact ⟨by decide, by decide⟩) (by first | decide | exact ⟨by decide, by decide⟩)
                            have th39_37_86 : fld h39 37 86 = fld h29 37 86 := Qh39.f (a1 := 37) (a2 := 37) (j1 := 86) (j2 := 87) (by decide +kernel) (by first | decide | exact ⟨by decide, by decide⟩) (by first | decide | exact ⟨by decide, by decide⟩)
                            have th39_37_87 : fld h39 37 87 = fld h29 37 87 := Qh39.f (a1 := 37) (a2 := 37) (j1 := 87) (j2 := 88) (by decide +kernel) (by first | decide | exact ⟨by decide, by decide⟩) (by first | decide | exact ⟨by decide, by decide⟩)
                            refine zwW_as Ih39 (a1 := 199) (a2 := 204) (n := 6) (lo := -1) (hi := 4608) (nx := 228) (by decide +kernel) (by first | omega | exact ⟨by omega, by omega⟩) (by first | omega | exact ⟨by omega, by omega⟩) (by first | omega | exact ⟨by omega, by omega⟩) ?_
                            intro h40 eh40 Ih40
                            have th40_37_2 : fld h40 37 2 = fld h39 37 2 := by rw [eh40]; exact fld_wr (by omega)
                            have th40_37_86 : fld h40 37 86 = fld h39 37 86 := by rw [eh40]; exact fld_wr (by omega)
                            have th40_37_87 : fld h40 37 87 = fld h39 37 87 := by rw [eh40]; exact fld_wr (by omega)
                            have Oh40 : zMR [(199, 204, 0, 6)] h39 h40 := zMR.one (by first | omega | exact ⟨by omega, by omega⟩) (by first | omega | exact ⟨by omega, by omega⟩) eh40
                            have MYh40 := MYh39.mr Oh40 (by decide +kernel)
                            have MRh40 := MRh39.mr Oh40 (by decide +kernel)
                            have Rh40 : zMR ms148 h h40 := Rh39.w (a1 := 199) (a2 := 204) (j1 := 0) (j2 := 6) (by decide +kernel) (by first | omega | exact ⟨by omega, by omega⟩) (by first | omega | exact ⟨by omega, by omega⟩) eh40
                            refine zwW_inc (i := 3) (c := 1) (x := iL24) (nx := 231) (by decide +kernel) rfl (by first | omega | exact ⟨by omega, by omega⟩) (ls' := [(2, 37), (0, a), (0, kL12), (0, (iL24 + 1))]) rfl ?_
                            refine zwW_p [(24, 133, 0)] (q := 133) (ls' := [(2, 37), (0, a), (0, kL12), (0, (iL24 + 1))]) (st' := []) (by decide +kernel) rfl ?_
                            exact IHL24 ((100 - (iL24 + 1))).toNat (by omega) (iL24 + 1) h40 rfl (by omega) (by omega) (MYh40) (MRh40) (by omega) Ih40 Rh40
                          · refine zwW_p [(1, 0, 2), (1, 0, 2)] (q := 160) (ls' := [(2, 37), (0, a), (0, kL12), (0, iL24)]) (st' := [(2, 37), (2, 37), (0, iL24), (2, (192 + kL12))]) (by decide +kernel) rfl ?_
                            refine zwW_gc IhL24 (kd := 13) (bn := 81) (n := 97) (c := 188) (nx := 163) (by decide +kernel) ?_
                            refine zwW_p [(1, 3, 0)] (q := 164) (ls' := [(2, 37), (0, a), (0, kL12), (0, iL24)]) (st' := [(0, iL24), (2, 188), (2, 37), (0, iL24), (2, (192 + kL12))]) (by decide +kernel) rfl ?_
                            refine zwW_al IhL24 (a1 := 188) (a2 := 188) (kd := 20) (n := 6) (t := 0) (lo := 0) (hi := 19) (nx := 165) (by decide +kernel) (by first | decide | exact ⟨by decide, by decide⟩) (by first | omega | exact ⟨by omega, by omega⟩) ?_
                            intro v41 ev41 lv41 uv41
                            refine zwW_p [(1, 0, 2)] (q := 166) (ls' := [(2, 37), (0, a), (0, kL12), (0, iL24)]) (st' := [(2, 37), (0, v41), (2, 37), (0, iL24), (2, (192 + kL12))]) (by decide +kernel) rfl ?_
                            refine zwW_gc IhL24 (kd := 13) (bn := 79) (n := 97) (c := 186) (nx := 169) (by decide +kernel) ?_
                            refine zwW_p [(1, 2, 0)] (q := 170) (ls' := [(2, 37), (0, a), (0, kL12), (0, iL24)]) (st' := [(0, kL12), (2, 186), (0, v41), (2, 37), (0, iL24), (2, (192 + kL12))]) (by decide +kernel) rfl ?_
                            refine zwW_al IhL24 (a1 := 186) (a2 := 186) (kd := 20) (n := 6) (t := 0) (lo := 0) (hi := 299) (nx := 171) (by decide +kernel) (by first | decide | exact ⟨by decide, by decide⟩) (by first | omega | exact ⟨by omega, by omega⟩) ?_
                            intro v42 ev42 lv42 uv42
                            refine zwW_p [(1, 0, 2)] (q := 172) (ls' := [(2, 37), (0, a), (0, kL12), (0, iL24)]) (st' := [(2, 37), (0, v42), (0, v41), (2, 37), (0, iL24), (2, (192 + kL12))]) (by decide +kernel) rfl ?_
                            refine zwW_gc IhL24 (kd := 13) (bn := 80) (n := 97) (c := 187) (nx := 175) (by decide +kernel) ?_
                            refine zwW_p [(1, 2, 0)] (q := 176) (ls' := [(2, 37), (0, a), (0, kL12), (0, iL24)]) (st' := [(0, kL12), (2, 187), (0, v42), (0, v41), (2, 37), (0, iL24), (2, (192 + kL12))]) (by decide +kernel) rfl ?_
                            refine zwW_al IhL24 (a1 := 187) (a2 := 187) (kd := 20) (n := 6) (t := 0) (lo := -2147483648) (hi := 2147483647) (nx := 177) (by decide +kernel) (by first | decide | exact ⟨by decide, by decide⟩) (by first | omega | exact ⟨by omega, by omega⟩) ?_
                            intro v43 ev43 lv43 uv43
                            have xh177 : v41 = fld hL24 188 (iL24).toNat := by omega
                            refine zwW_cm IhL24 (op := 60) (k' := 208) (n := 3) (kd := 13) (m := 97) (nx := 180) (r := 37) (tl := [(0, v41), (0, v42), (0, v43)]) (st' := [(0, iL24), (2, (192 + kL12))]) (by decide +kernel) rfl (by decide +kernel) rfl (m208 hL24 IhL24 v41 v42 v43 (by omega) (by omega) (by omega) (by omega) (by omega) (hW.mr I RhL24 (by decide +kernel))) ?_
                            rintro v44 h48 ⟨Ih48, Qh48, f45, f46, f47⟩
                            have Rh48 : zMR ms148 h h48 := RhL24.tr Qh48 (by decide +kernel)
                            have MYh48 := iL24_2.mr Qh48 (by decide +kernel)
                            have MRh48 := iL24_3.mr Qh48 (by decide +kernel)
                            have th48_37_2 : fld h48 37 2 = fld hL24 37 2 := Qh48.f (a1 := 37) (a2 := 37) (j1 := 2) (j2 := 3) (by decide +kernel) (by first | decide | exact ⟨by decide, by decide⟩) (by first | decide | exact ⟨by decide, by decide⟩)
                            have th48_37_86 : fld h48 37 86 = fld hL24 37 86 := Qh48.f (a1 := 37) (a2 := 37) (j1 := 86) (j2 := 87) (by decide +kernel) (by first | decide | exact ⟨by decide, by decide⟩) (by first | decide | exact ⟨by decide, by decide⟩)
                            have th48_37_87 : fld h48 37 87 = fld hL24 37 87 := Qh48.f (a1 := 37) (a2 := 37) (j1 := 87) (j2 := 88) (by decide +kernel) (by first | decide | exact ⟨by decide, by decide⟩) (by first | decide | exact ⟨by decide, by decide⟩)
                            have Q177 : fld h48 91 = fld hL24 91 := Qh48.rg (a := 91) (b := 91) (by decide +kernel) (r := 91) (by decide) (by decide)
                            have T177 : fld h48 188 = fld hL24 188 := Qh48.rg (a := 188) (b := 188) (by decide +kernel) (r := 188) (by decide) (by decide)
                            have U177 := f47
                            refine zwif_ne (q := 187) (nx := 183) (by decide +kernel) (fun c49 => ?_) (fun c49 => ?_)
                            · refine zwW_p [(0, 0, 0)] (q := 188) (ls' := [(2, 37), (0, a), (0, kL12), (0, iL24)]) (st' := [(0, 0), (0, iL24), (2, (192 + kL12))]) (by decide +kernel) rfl ?_
                              refine zwW_asz Ih48 (a1 := 192) (a2 := 197) (n := 6) (nx := 189) (by decide +kernel) (by first | omega | exact ⟨by omega, by omega⟩) (by first | omega | exact ⟨by omega, by omega⟩) (by omega) ?_
                              intro h50 eh50 Ih50
                              have th50_37_2 : fld h50 37 2 = fld h48 37 2 := by rw [eh50]; exact fld_wr (by omega)
                              have th50_37_86 : fld h50 37 86 = fld h48 37 86 := by rw [eh50]; exact fld_wr (by omega)
                              have th50_37_87 : fld h50 37 87 = fld h48 37 87 := by rw [eh50]; exact fld_wr (by omega)
                              have Oh50 : zMR [(192, 197, 0, 6)] h48 h50 := zMR.one (by first | omega | exact ⟨by omega, by omega⟩) (by first | omega | exact ⟨by omega, by omega⟩) eh50
                              have E188 : h50 = wr h48 (192 + kL12) (iL24).toNat 0 := by rw [eh50, show (192 + kL12) = 192 + kL12 by omega]
                              have MRh50 := (MRh48).s E188 (by omega) (Ih48.s (a1 := 192) (a2 := 197) (by decide +kernel) (by omega) (by omega)) (by omega) (by first | exact fun hq => absurd rfl hq | exact fun _ => J183)
                              have MYh50 := (MYh48).w E188 (by omega)
                              have Rh50 : zMR ms148 h h50 := Rh48.w (a1 := 192) (a2 := 197) (j1 := 0) (j2 := 6) (by decide +kernel) (by first | omega | exact ⟨by omega, by omega⟩) (by first | omega | exact ⟨by omega, by omega⟩) eh50
                              refine zwW_p [(1, 0, 2)] (q := 190) (ls' := [(2, 37), (0, a), (0, kL12), (0, iL24)]) (st' := [(2, 37)]) (by decide +kernel) rfl ?_
                              refine zwW_gc Ih50 (kd := 13) (bn := 85) (n := 97) (c := 198) (nx := 193) (by decide +kernel) ?_
                              refine zwW_p [(1, 2, 0)] (q := 194) (ls' := [(2, 37), (0, a), (0, kL12), (0, iL24)]) (st' := [(0, kL12), (2, 198)]) (by decide +kernel) rfl ?_
                              refine zwW_ro Ih50 (a := 198) (n := 6) (kd := 26) (base := 199) (step := 1) (nx := 195) (by decide +kernel) rfl (by first | omega | exact ⟨by omega, by omega⟩) ?_
                              rw [show ((199 : Nat) : Int) + ((1 : Nat) : Int) * kL12 = (199 + kL12) by omega]
                              refine zwW_p [(1, 3, 0), (1, 0, 2), (1, 0, 2)] (q := 198) (ls' := [(2, 37), (0, a), (0, kL12), (0, iL24)]) (st' := [(2, 37), (2, 37), (0, iL24), (2, (199 + kL12))]) (by decide +kernel) rfl ?_
                              refine zwW_gc Ih50 (kd := 13) (bn := 20) (n := 97) (c := 79) (nx := 201) (by decide +kernel) ?_
                              refine zwW_p [(1, 0, 2)] (q := 202) (ls' := [(2, 37), (0, a), (0, kL12), (0, iL24)]) (st' := [(2, 37), (2, 79), (2, 37), (0, iL24), (2, (199 + kL12))]) (by decide +kernel) rfl ?_
                              refine zwW_gc Ih50 (kd := 13) (bn := 58) (n := 97) (c := 170) (nx := 205) (by decide +kernel) ?_
                              refine zwW_p [(1, 0, 2)] (q := 206) (ls' := [(2, 37), (0, a), (0, kL12), (0, iL24)]) (st' := [(2, 37), (2, 170), (2, 79), (2, 37), (0, iL24), (2, (199 + kL12))]) (by decide +kernel) rfl ?_
                              refine zwW_gc Ih50 (kd := 13) (bn := 79) (n := 97) (c := 186) (nx := 209) (by decide +kernel) ?_
                              refine zwW_p [(1, 2, 0)] (q := 210) (ls' := [(2, 37), (0, a), (0, kL12), (0, iL24)]) (st' := [(0, kL12), (2, 186), (2, 170), (2, 79), (2, 37), (0, iL24), (2, (199 + kL12))]) (by decide +kernel) rfl ?_
                              refine zwW_al Ih50 (a1 := 186) (a2 := 186) (kd := 20) (n := 6) (t := 0) (lo := 0) (hi := 299) (nx := 211) (by decide +kernel) (by first | decide | exact ⟨by decide, by decide⟩) (by first | omega | exact ⟨by omega, by omega⟩) ?_
                              intro v51 ev51 lv51 uv51
                              refine zwW_al Ih50 (a1 := 170) (a2 := 170) (kd := 20) (n := 300) (t := 0) (lo := 0) (hi := 19) (nx := 212) (by decide +kernel) (by first | decide | exact ⟨by decide, by decide⟩) (by first | omega | exact ⟨by omega, by omega⟩) ?_
                              intro v52 ev52 lv52 uv52
                              refine zwW_al Ih50 (a1 := 79) (a2 := 79) (kd := 20) (n := 20) (t := 0) (lo := 0) (hi := 7) (nx := 213) (by decide +kernel) (by first | decide | exact ⟨by decide, by decide⟩) (by first | omega | exact ⟨by omega, by omega⟩) ?_
                              intro v53 ev53 lv53 uv53
                              refine zwW_p [(1, 0, 2)] (q := 214) (ls' := [(2, 37), (0, a), (0, kL12), (0, iL24)]) (st' := [(2, 37), (0, v53), (2, 37), (0, iL24), (2, (199 + kL12))]) (by decide +kernel) rfl ?_
                              refine zwW_gc Ih50 (kd := 13) (bn := 20) (n := 97) (c := 79) (nx := 217) (by decide +kernel) ?_
                              refine zwW_p [(1, 0, 2)] (q := 218) (ls' := [(2, 37), (0, a), (0, kL12), (0, iL24)]) (st' := [(2, 37), (2, 79), (0, v53), (2, 37), (0, iL24), (2, (199 + kL12))]) (by decide +kernel) rfl ?_
                              refine zwW_gc Ih50 (kd := 13) (bn := 81) (n := 97) (c := 188) (nx := 221) (by decide +kernel) ?_
                              refine zwW_p [(1, 3, 0)] (q := 222) (ls' := [(2, 37), (0, a), (0, kL12), (0, iL24)]) (st' := [(0, iL24), (2, 188), (2, 79), (0, v53), (2, 37), (0, iL24), (2, (199 + kL12))]) (by decide +kernel) rfl ?_
                              refine zwW_al Ih50 (a1 := 188) (a2 := 188) (kd := 20) (n := 6) (t := 0) (lo := 0) (hi := 19) (nx := 223) (by decide +kernel) (by first | decide | exact ⟨by decide, by decide⟩) (by first | omega | exact ⟨by omega, by omega⟩) ?_
                              intro v54 ev54 lv54 uv54
                              refine zwW_al Ih50 (a1 := 79) (a2 := 79) (kd := 20) (n := 20) (t := 0) (lo := 0) (hi := 7) (nx := 224) (by decide +kernel) (by first | decide | exact ⟨by decide, by decide⟩) (by first | omega | exact ⟨by omega, by omega⟩) ?_
                              intro v55 ev55 lv55 uv55
                              refine zwW_cm Ih50 (op := 60) (k' := 106) (n := 2) (kd := 13) (m := 97) (nx := 227) (r := 37) (tl := [(0, v53), (0, v55)]) (st' := [(0, iL24), (2, (199 + kL12))]) (by decide +kernel) rfl (by decide +kernel) rfl (m106 h50 Ih50 v53 v55 (by omega) (by omega)) ?_
                              rintro v56 h60 ⟨Ih60, Qh60, f57, f58, f59⟩
                              have Rh60 : zMR ms148 h h60 := Rh50.tr Qh60 (by decide +kernel)
                              have MYh60 := MYh50.mr Qh60 (by decide +kernel)
                              have MRh60 := MRh50.mr Qh60 (by decide +kernel)
                              have th60_37_2 : fld h60 37 2 = fld h50 37 2 := Qh60.f (a1 := 37) (a2 := 37) (j1 := 2) (j2 := 3) (by decide +kernel) (by first | decide | exact ⟨by decide, by decide⟩) (by first | decide | exact ⟨by decide, by decide⟩)
                              have th60_37_86 : fld h60 37 86 = fld h50 37 86 := Qh60.f (a1 := 37) (a2 := 37) (j1 := 86) (j2 := 87) (by decide +kernel) (by first | decide | exact ⟨by decide, by decide⟩) (by first | decide | exact ⟨by decide, by decide⟩)
                              have th60_37_87 : fld h60 37 87 = fld h50 37 87 := Qh60.f (a1 := 37) (a2 := 37) (j1 := 87) (j2 := 88) (by decide +kernel) (by first | decide | exact ⟨by decide, by decide⟩) (by first | decide | exact ⟨by decide, by decide⟩)
                              refine zwW_as Ih60 (a1 := 199) (a2 := 204) (n := 6) (lo := -1) (hi := 4608) (nx := 228) (by decide +kernel) (by first | omega | exact ⟨by omega, by omega⟩) (by first | omega | exact ⟨by omega, by omega⟩) (by first | omega | exact ⟨by omega, by omega⟩) ?_
                              intro h61 eh61 Ih61
                              have th61_37_2 : fld h61 37 2 = fld h60 37 2 := by rw [eh61]; exact fld_wr (by omega)
                              have th61_37_86 : fld h61 37 86 = fld h60 37 86 := by rw [eh61]; exact fld_wr (by omega)
                              have th61_37_87 : fld h61 37 87 = fld h60 37 87 := by rw [eh61]; exact fld_wr (by omega)
                              have Oh61 : zMR [(199, 204, 0, 6)] h60 h61 := zMR.one (by first | omega | exact ⟨by omega, by omega⟩) (by first | omega | exact ⟨by omega, by omega⟩) eh61
                              have MYh61 := MYh60.mr Oh61 (by decide +kernel)
                              have MRh61 := MRh60.mr Oh61 (by decide +kernel)
                              have Rh61 : zMR ms148 h h61 := Rh60.w (a1 := 199) (a2 := 204) (j1 := 0) (j2 := 6) (by decide +kernel) (by first | omega | exact ⟨by omega, by omega⟩) (by first | omega | exact ⟨by omega, by omega⟩) eh61
                              refine zwW_inc (i := 3) (c := 1) (x := iL24) (nx := 231) (by decide +kernel) rfl (by first | omega | exact ⟨by omega, by omega⟩) (ls' := [(2, 37), (0, a), (0, kL12), (0, (iL24 + 1))]) rfl ?_
                              refine zwW_p [(24, 133, 0)] (q := 133) (ls' := [(2, 37), (0, a), (0, kL12), (0, (iL24 + 1))]) (st' := []) (by decide +kernel) rfl ?_
                              exact IHL24 ((100 - (iL24 + 1))).toNat (by omega) (iL24 + 1) h61 rfl (by omega) (by omega) (MYh61) (MRh61) (by omega) Ih61 Rh61
                            · have J183 : 0 < fld h48 91 (fld h48 188 (iL24).toNat).toNat := by rw [Q177, T177, ← xh177]; exact U177 (by omega)
                              refine zwW_p [(0, 1, 0), (24, 188, 0)] (q := 188) (ls' := [(2, 37), (0, a), (0, kL12), (0, iL24)]) (st' := [(0, 1), (0, iL24), (2, (192 + kL12))]) (by decide +kernel) rfl ?_
                              refine zwW_asz Ih48 (a1 := 192) (a2 := 197) (n := 6) (nx := 189) (by decide +kernel) (by first | omega | exact ⟨by omega, by omega⟩) (by first | omega | exact ⟨by omega, by omega⟩) (by omega) ?_
                              intro h62 eh62 Ih62
                              have th62_37_2 : fld h62 37 2 = fld h48 37 2 := by rw [eh62]; exact fld_wr (by omega)
                              have th62_37_86 : fld h62 37 86 = fld h48 37 86 := by rw [eh62]; exact fld_wr (by omega)
                              have th62_37_87 : fld h62 37 87 = fld h48 37 87 := by rw [eh62]; exact fld_wr (by omega)
                              have Oh62 : zMR [(192, 197, 0, 6)] h48 h62 := zMR.one (by first | omega | exact ⟨by omega, by omega⟩) (by first | omega | exact ⟨by omega, by omega⟩) eh62
                              have E188 : h62 = wr h48 (192 + kL12) (iL24).toNat 1 := by rw [eh62, show (192 + kL12) = 192 + kL12 by omega]
                              have MRh62 := (MRh48).s E188 (by omega) (Ih48.s (a1 := 192) (a2 := 197) (by decide +kernel) (by omega) (by omega)) (by omega) (by first | exact fun hq => absurd rfl hq | exact fun _ => J183)
                              have MYh62 := (MYh48).w E188 (by omega)
                              have Rh62 : zMR ms148 h h62 := Rh48.w (a1 := 192) (a2 := 197) (j1 := 0) (j2 := 6) (by decide +kernel) (by first | omega | exact ⟨by omega, by omega⟩) (by first | omega | exact ⟨by omega, by omega⟩) eh62
                              refine zwW_p [(1, 0, 2)] (q := 190) (ls' := [(2, 37), (0, a), (0, kL12), (0, iL24)]) (st' := [(2, 37)]) (by decide +kernel) rfl ?_
                              refine zwW_gc Ih62 (kd := 13) (bn := 85) (n := 97) (c := 198) (nx := 193) (by decide +kernel) ?_
                              refine zwW_p [(1, 2, 0)] (q := 194) (ls' := [(2, 37), (0, a), (0, kL12), (0, iL24)]) (st' := [(0, kL12), (2, 198)]) (by decide +kernel) rfl ?_
                              refine zwW_ro Ih62 (a := 198) (n := 6) (kd := 26) (base := 199) (step := 1) (nx := 195) (by decide +kernel) rfl (by first | omega | exact ⟨by omega, by omega⟩) ?_
                              rw [show ((199 : Nat) : Int) + ((1 : Nat) : Int) * kL12 = (199 + kL12) by omega]
                              refine zwW_p [(1, 3, 0), (1, 0, 2), (1, 0, 2)] (q := 198) (ls' := [(2, 37), (0, a), (0, kL12), (0, iL24)]) (st' := [(2, 37), (2, 37), (0, iL24), (2, (199 + kL12))]) (by decide +kernel) rfl ?_
                              refine zwW_gc Ih62 (kd := 13) (bn := 20) (n := 97) (c := 79) (nx := 201) (by decide +kernel) ?_
                              refine zwW_p [(1, 0, 2)] (q := 202) (ls' := [(2, 37), (0, a), (0, kL12), (0, iL24)]) (st' := [(2, 37), (2, 79), (2, 37), (0, iL24), (2, (199 + kL12))]) (by decide +kernel) rfl ?_
                              refine zwW_gc Ih62 (kd := 13) (bn := 58) (n := 97) (c := 170) (nx := 205) (by decide +kernel) ?_
                              refine zwW_p [(1, 0, 2)] (q := 206) (ls' := [(2, 37), (0, a), (0, kL12), (0, iL24)]) (st' := [(2, 37), (2, 170), (2, 79), (2, 37), (0, iL24), (2, (199 + kL12))]) (by decide +kernel) rfl ?_
                              refine zwW_gc Ih62 (kd := 13) (bn := 79) (n := 97) (c := 186) (nx := 209) (by decide +kernel) ?_
                              refine zwW_p [(1, 2, 0)] (q := 210) (ls' := [(2, 37), (0, a), (0, kL12), (0, iL24)]) (st' := [(0, kL12), (2, 186), (2, 170), (2, 79), (2, 37), (0, iL24), (2, (199 + kL12))]) (by decide +kernel) rfl ?_
                              refine zwW_al Ih62 (a1 := 186) (a2 := 186) (kd := 20) (n := 6) (t := 0) (lo := 0) (hi := 299) (nx := 211) (by decide +kernel) (by first | decide | exact ⟨by decide, by decide⟩) (by first | omega | exact ⟨by omega, by omega⟩) ?_
                              intro v63 ev63 lv63 uv63
                              refine zwW_al Ih62 (a1 := 170) (a2 := 170) (kd := 20) (n := 300) (t := 0) (lo := 0) (hi := 19) (nx := 212) (by decide +kernel) (by first | decide | exact ⟨by decide, by decide⟩) (by first | omega | exact ⟨by omega, by omega⟩) ?_
                              intro v64 ev64 lv64 uv64
                              refine zwW_al Ih62 (a1 := 79) (a2 := 79) (kd := 20) (n := 20) (t := 0) (lo := 0) (hi := 7) (nx := 213) (by decide +kernel) (by first | decide | exact ⟨by decide, by decide⟩) (by first | omega | exact ⟨by omega, by omega⟩) ?_
                              intro v65 ev65 lv65 uv65
                              refine zwW_p [(1, 0, 2)] (q := 214) (ls' := [(2, 37), (0, a), (0, kL12), (0, iL24)]) (st' := [(2, 37), (0, v65), (2, 37), (0, iL24), (2, (199 + kL12))]) (by decide +kernel) rfl ?_
                              refine zwW_gc Ih62 (kd := 13) (bn := 20) (n := 97) (c := 79) (nx := 217) (by decide +kernel) ?_
                              refine zwW_p [(1, 0, 2)] (q := 218) (ls' := [(2, 37), (0, a), (0, kL12), (0, iL24)]) (st' := [(2, 37), (2, 79), (0, v65), (2, 37), (0, iL24), (2, (199 + kL12))]) (by decide +kernel) rfl ?_
                              refine zwW_gc Ih62 (kd := 13) (bn := 81) (n := 97) (c := 188) (nx := 221) (by decide +kernel) ?_
                              refine zwW_p [(1, 3, 0)] (q := 222) (ls' := [(2, 37), (0, a), (0, kL12), (0, iL24)]) (st' := [(0, iL24), (2, 188), (2, 79), (0, v65), (2, 37), (0, iL24), (2, (199 + kL12))]) (by decide +kernel) rfl ?_
                              refine zwW_al Ih62 (a1 := 188) (a2 := 188) (kd := 20) (n := 6) (t := 0) (lo := 0) (hi := 19) (nx := 223) (by decide +kernel) (by first | decide | exact ⟨by decide, by decide⟩) (by first | omega | exact ⟨by omega, by omega⟩) ?_
                              intro v66 ev66 lv66 uv66
                              refine zwW_al Ih62 (a1 := 79) (a2 := 79) (kd := 20) (n := 20) (t := 0) (lo := 0) (hi := 7) (nx := 224) (by decide +kernel) (by first | decide | exact ⟨by decide, by decide⟩) (by first | omega | exact ⟨by omega, by omega⟩) ?_
                              intro v67 ev67 lv67 uv67
                              refine zwW_cm Ih62 (op := 60) (k' := 106) (n := 2) (kd := 13) (m := 97) (nx := 227) (r := 37) (tl := [(0, v65), (0, v67)]) (st' := [(0, iL24), (2, (199 + kL12))]) (by decide +kernel) rfl (by decide +kernel) rfl (m106 h62 Ih62 v65 v67 (by omega) (by omega)) ?_
                              rintro v68 h72 ⟨Ih72, Qh72, f69, f70, f71⟩
                              have Rh72 : zMR ms148 h h72 := Rh62.tr Qh72 (by decide +kernel)
                              have MYh72 := MYh62.mr Qh72 (by decide +kernel)
                              have MRh72 := MRh62.mr Qh72 (by decide +kernel)
                              have th72_37_2 : fld h72 37 2 = fld h62 37 2 := Qh72.f (a1 := 37) (a2 := 37) (j1 := 2) (j2 := 3) (by decide +kernel) (by first | decide | exact ⟨by decide, by decide⟩) (by first | decide | exact ⟨by decide, by decide⟩)
                              have th72_37_86 : fld h72 37 86 = fld h62 37 86 := Qh72.f (a1 := 37) (a2 := 37) (j1 := 86) (j2 := 87) (by decide +kernel) (by first | decide | exact ⟨by decide, by decide⟩) (by first | decide | exact ⟨by decide, by decide⟩)
                              have th72_37_87 : fld h72 37 87 = fld h62 37 87 := Qh72.f (a1 := 37) (a2 := 37) (j1 := 87) (j2 := 88) (by decide +kernel) (by first | decide | exact ⟨by decide, by decide⟩) (by first | decide | exact ⟨by decide, by decide⟩)
                              refine zwW_as Ih72 (a1 := 199) (a2 := 204) (n := 6) (lo := -1) (hi := 4608) (nx := 228) (by decide +kernel) (by first | omega | exact ⟨by omega, by omega⟩) (by first | omega | exact ⟨by omega, by omega⟩) (by first | omega | exact ⟨by omega, by omega⟩) ?_
                              intro h73 eh73 Ih73
                              have th73_37_2 : fld h73 37 2 = fld h72 37 2 := by rw [eh73]; exact fld_wr (by omega)
                              have th73_37_86 : fld h73 37 86 = fld h72 37 86 := by rw [eh73]; exact fld_wr (by omega)
                              have th73_37_87 : fld h73 37 87 = fld h72 37 87 := by rw [eh73]; exact fld_wr (by omega)
                              have Oh73 : zMR [(199, 204, 0, 6)] h72 h73 := zMR.one (by first | omega | exact ⟨by omega, by omega⟩) (by first | omega | exact ⟨by omega, by omega⟩) eh73
                              have MYh73 := MYh72.mr Oh73 (by decide +kernel)
                              have MRh73 := MRh72.mr Oh73 (by decide +kernel)
                              have Rh73 : zMR ms148 h h73 := Rh72.w (a1 := 199) (a2 := 204) (j1 := 0) (j2 := 6) (by decide +kernel) (by first | omega | exact ⟨by omega, by omega⟩) (by first | omega | exact ⟨by omega, by omega⟩) eh73
                              refine zwW_inc (i := 3) (c := 1) (x := iL24) (nx := 231) (by decide +kernel) rfl (by first | omega | exact ⟨by omega, by omega⟩) (ls' := [(2, 37), (0, a), (0, kL12), (0, (iL24 + 1))]) rfl ?_
                              refine zwW_p [(24, 133, 0)] (q := 133) (ls' := [(2, 37), (0, a), (0, kL12), (0, (iL24 + 1))]) (st' := []) (by decide +kernel) rfl ?_
                              exact IHL24 ((100 - (iL24 + 1))).toNat (by omega) (iL24 + 1) h73 rfl (by omega) (by omega) (MYh73) (MRh73) (by omega) Ih73 Rh73
                    exact L24 _ 0 h23 rfl (by omega) (by omega) (MYh23) (⟨by omega, fun i hi => by omega⟩) (by omega) Ih23 Rh23
              exact L12 _ 0 (9, 0) hL9 rfl (by omega) (by omega) (⟨by omega, fun k i hk => by omega⟩) (by omega) IhL9 RhL9
            · refine zwW_p [(1, 1, 0), (1, 2, 0)] (q := 44) (ls' := [(2, 37), (0, a), (0, qL9), (9, 0)]) (st' := [(0, qL9), (0, a)]) (by decide +kernel) rfl ?_
              refine zwW_any2 (a := 9) (nx := 45) (by decide +kernel) rfl (by first | omega | exact ⟨by omega, by omega⟩) (Or.inr (by first | decide | exact ⟨by decide, by decide⟩)) ?_
              intro v74 lv74 uv74
              refine zwW_p [(0, 1, 0)] (q := 46) (ls' := [(2, 37), (0, a), (0, qL9), (9, 0)]) (st' := [(0, 1), (0, v74)]) (by decide +kernel) rfl ?_
              refine zwW_any2 (a := 5) (nx := 47) (by decide +kernel) rfl (by first | omega | exact ⟨by omega, by omega⟩) (Or.inr (by first | decide | exact ⟨by decide, by decide⟩)) ?_
              intro v75 lv75 uv75
              refine zwif_ne (q := 53) (nx := 50) (by decide +kernel) (fun c76 => ?_) (fun c76 => ?_)
              · refine zwW_p [(1, 0, 2)] (q := 54) (ls' := [(2, 37), (0, a), (0, qL9), (9, 0)]) (st' := [(2, 37)]) (by decide +kernel) rfl ?_
                refine zwW_gs IhL9 (kd := 13) (bn := 87) (n := 97) (t := 0) (lo := 0) (hi := 6) (nx := 57) (by decide +kernel) ?_
                intro v77 ev77 lv77 uv77
                refine zwW_p [(0, 6, 0)] (q := 59) (ls' := [(2, 37), (0, a), (0, qL9), (9, 0)]) (st' := [(0, 6), (0, v77)]) (by decide +kernel) rfl ?_
                refine zwic_ne (q := 64) (nx := 62) (by decide +kernel) (fun c78 => ?_) (fun c78 => ?_)
                · refine zwW_p [(1, 0, 2)] (q := 65) (ls' := [(2, 37), (0, a), (0, qL9), (9, 0)]) (st' := [(2, 37)]) (by decide +kernel) rfl ?_
                  refine zwW_gc IhL9 (kd := 13) (bn := 81) (n := 97) (c := 188) (nx := 68) (by decide +kernel) ?_
                  refine zwW_p [(1, 0, 2)] (q := 69) (ls' := [(2, 37), (0, a), (0, qL9), (9, 0)]) (st' := [(2, 37), (2, 188)]) (by decide +kernel) rfl ?_
                  refine zwW_gs IhL9 (kd := 13) (bn := 87) (n := 97) (t := 0) (lo := 0) (hi := 6) (nx := 72) (by decide +kernel) ?_
                  intro v79 ev79 lv79 uv79
                  refine zwW_p [(1, 2, 0)] (q := 73) (ls' := [(2, 37), (0, a), (0, qL9), (9, 0)]) (st' := [(0, qL9), (0, v79), (2, 188)]) (by decide +kernel) rfl ?_
                  refine zwW_as IhL9 (a1 := 188) (a2 := 188) (n := 6) (lo := 0) (hi := 19) (nx := 74) (by decide +kernel) (by first | decide | exact ⟨by decide, by decide⟩) (by first | omega | exact ⟨by omega, by omega⟩) (by first | omega | exact ⟨by omega, by omega⟩) ?_
                  intro h80 eh80 Ih80
                  have th80_37_2 : fld h80 37 2 = fld hL9 37 2 := by rw [eh80]; exact fld_wr (by omega)
                  have th80_37_86 : fld h80 37 86 = fld hL9 37 86 := by rw [eh80]; exact fld_wr (by omega)
                  have th80_37_87 : fld h80 37 87 = fld hL9 37 87 := by rw [eh80]; exact fld_wr (by omega)
                  have Oh80 : zMR [(188, 188, 0, 6)] hL9 h80 := zMR.one (by first | decide | exact ⟨by decide, by decide⟩) (by first | omega | exact ⟨by omega, by omega⟩) eh80
                  have Rh80 : zMR ms148 h h80 := RhL9.w (a1 := 188) (a2 := 188) (j1 := 0) (j2 := 6) (by decide +kernel) (by first | decide | exact ⟨by decide, by decide⟩) (by first | omega | exact ⟨by omega, by omega⟩) eh80
                  refine zwW_p [(1, 0, 2), (12, 0, 0)] (q := 76) (ls' := [(2, 37), (0, a), (0, qL9), (9, 0)]) (st' := [(2, 37), (2, 37)]) (by decide +kernel) rfl ?_
                  refine zwW_gs Ih80 (kd := 13) (bn := 87) (n := 97) (t := 0) (lo := 0) (hi := 6) (nx := 79) (by decide +kernel) ?_
                  intro v81 ev81 lv81 uv81
                  refine zwW_p [(0, 1, 0)] (q := 80) (ls' := [(2, 37), (0, a), (0, qL9), (9, 0)]) (st' := [(0, 1), (0, v81), (2, 37)]) (by decide +kernel) rfl ?_
                  refine zwW_add (nx := 81) (by decide +kernel) (by first | omega | exact ⟨by omega, by omega⟩) ?_
                  refine zwW_ps Ih80 (kd := 13) (bn := 87) (n := 97) (lo := 0) (hi := 6) (nx := 84) (by decide +kernel) (by first | omega | exact ⟨by omega, by omega⟩) ?_
                  intro h82 eh82 Ih82
                  have th82_37_2 : fld h82 37 2 = fld h80 37 2 := by rw [eh82]; exact fld_wr (by decide)
                  have th82_37_86 : fld h82 37 86 = fld h80 37 86 := by rw [eh82]; exact fld_wr (by decide)
                  have th82_37_87 : fld h82 37 87 = (v81 + 1) := by rw [eh82]; exact fld_wr_eq (Ih80.s (a1 := 37) (a2 := 37) (k := 13) (n := 97) (by decide +kernel) (by decide) (by decide)) (by decide)
                  have Oh82 : zMR [(37, 37, 87, 88)] h80 h82 := zMR.one (by first | decide | exact ⟨by decide, by decide⟩) (by first | decide | exact ⟨by decide, by decide⟩) eh82
                  have Rh82 : zMR ms148 h h82 := Rh80.w (a1 := 37) (a2 := 37) (j1 := 87) (j2 := 88) (by decide +kernel) (by first | decide | exact ⟨by decide, by decide⟩) (by first | decide | exact ⟨by decide, by decide⟩) eh82
                  refine zwW_inc (i := 2) (c := 1) (x := qL9) (nx := 87) (by decide +kernel) rfl (by first | omega | exact ⟨by omega, by omega⟩) (ls' := [(2, 37), (0, a), (0, (qL9 + 1)), (9, 0)]) rfl ?_
                  refine zwW_p [(24, 34, 0)] (q := 34) (ls' := [(2, 37), (0, a), (0, (qL9 + 1)), (9, 0)]) (st' := []) (by decide +kernel) rfl ?_
                  exact IHL9 ((100 - (qL9 + 1))).toNat (by omega) (qL9 + 1) h82 rfl (by omega) (by omega) Ih82 Rh82
                · refine zwW_p [(0, 0, 0)] (q := 63) (ls' := [(2, 37), (0, a), (0, qL9), (9, 0)]) (st' := [(0, 0)]) (by decide +kernel) rfl ?_
                  refine zwW_ret (nx := 64) (a := 1) (b := 0) (by decide +kernel) rfl (Or.inr (Or.inl ⟨rfl, Or.inl rfl⟩)) ?_
                  exact ⟨IhL9, RhL9, Or.inr rfl⟩
              · refine zwW_p [(24, 84, 0)] (q := 84) (ls' := [(2, 37), (0, a), (0, qL9), (9, 0)]) (st' := []) (by decide +kernel) rfl ?_
                refine zwW_inc (i := 2) (c := 1) (x := qL9) (nx := 87) (by decide +kernel) rfl (by first | omega | exact ⟨by omega, by omega⟩) (ls' := [(2, 37), (0, a), (0, (qL9 + 1)), (9, 0)]) rfl ?_
                refine zwW_p [(24, 34, 0)] (q := 34) (ls' := [(2, 37), (0, a), (0, (qL9 + 1)), (9, 0)]) (st' := []) (by decide +kernel) rfl ?_
                exact IHL9 ((100 - (qL9 + 1))).toNat (by omega) (qL9 + 1) hL9 rfl (by omega) (by omega) IhL9 RhL9
        exact L9 _ 0 h8 rfl (by omega) (by omega) Ih8 Rh8
      · refine zwW_p [(0, 0, 0)] (q := 26) (ls' := [(2, 37), (0, a), (9, 0), (9, 0)]) (st' := [(0, 0)]) (by decide +kernel) rfl ?_
        refine zwW_ret (nx := 27) (a := 1) (b := 0) (by decide +kernel) rfl (Or.inr (Or.inl ⟨rfl, Or.inl rfl⟩)) ?_
        exact ⟨I, R, Or.inr rfl⟩
  · refine zwif_eq (q := 25) (nx := 18) (by decide +kernel) (fun c83 => ?_) (fun c83 => ?_)
    · refine zwW_p [(0, 0, 0)] (q := 26) (ls' := [(2, 37), (0, a), (9, 0), (9, 0)]) (st' := [(0, 0)]) (by decide +kernel) rfl ?_
      refine zwW_ret (nx := 27) (a := 1) (b := 0) (by decide +kernel) rfl (Or.inr (Or.inl ⟨rfl, Or.inl rfl⟩)) ?_
      exact ⟨I, R, Or.inr rfl⟩
    · exfalso; omega
def ms50 : Zms := [(37, 37, 87, 88), (37, 37, 88, 91), (97, 97, 0, 8), (168, 168, 0, 13), (169, 169, 0, 420), (187, 187, 0, 6), (188, 188, 0, 6), (189, 189, 0, 6), (190, 190, 0, 6), (192, 197, 0, 6), (199, 204, 0, 6)]
-- WheelLandModel.hands(II)I
theorem m50 {sc : List Int} (h : Hp) (I : zI h) (a b : Int) (q_a : -2147483648 ≤ a ∧ a ≤ 2147483647) (hW : zCW h) : zwC sc 82 50 [(2, 37), (0, a), (0, b)] h (zwRt 0 (fun x g => zI g ∧ zMR ms50 h g ∧ (-2147483648 ≤ x ∧ x ≤ 2147483647))) := by
  refine zwC_of (D := 81) 3 (by decide +kernel) rfl (ls := [(2, 37), (0, a), (0, b)]) rfl ?_
  have R : zMR ms50 h h := zMR.rf _ _
  refine zwW_p [(1, 0, 2), (1, 1, 0)] (q := 2) (ls' := [(2, 37), (0, a), (0, b)]) (st' := [(0, a), (2, 37)]) (by decide +kernel) rfl ?_
  refine zwW_cm I (op := 60) (k' := 148) (n := 1) (kd := 13) (m := 97) (nx := 5) (r := 37) (tl := [(0, a)]) (st' := []) (by decide +kernel) rfl (by decide +kernel) rfl (m148 h I a (by omega) (hW.mr I R (by decide +kernel))) ?_
  rintro x h1 ⟨Ih1, Qh1, rfl | rfl⟩
  · have Rh1 : zMR ms50 h h1 := R.tr Qh1 (by decide +kernel)
    refine zwif_ne (q := 10) (nx := 8) (by decide +kernel) (fun c2 => ?_) (fun c2 => ?_)
    · refine zwW_p [(1, 2, 0), (7, 0, 0), (0, 10, 1), (0, 9, 0), (1, 0, 2)] (q := 18) (ls' := [(2, 37), (0, a), (0, b)]) (st' := [(2, 37), (0, 9), (1, 10), (1, b)]) (by decide +kernel) rfl ?_
      refine zwW_gs Ih1 (kd := 13) (bn := 86) (n := 97) (t := 0) (lo := 0) (hi := 6) (nx := 21) (by decide +kernel) ?_
      intro v3 ev3 lv3 uv3
      refine zwW_add (nx := 22) (by decide +kernel) (by first | omega | exact ⟨by omega, by omega⟩) ?_
      refine zwW_p [(7, 0, 0)] (q := 23) (ls' := [(2, 37), (0, a), (0, b)]) (st' := [(1, (9 + v3)), (1, 10), (1, b)]) (by decide +kernel) rfl ?_
      refine zwW_cs (k' := 101) (n := 3) (nx := 26) (as := [(1, b), (1, 10), (1, (9 + v3))]) (st' := []) (by decide +kernel) rfl (m101 h1 b 10 (9 + v3)) rfl ?_
      rintro x _ ⟨rfl, ⟨rfl, c4⟩ | ⟨rfl, c4⟩⟩
      · refine zwif_eq (q := 61) (nx := 29) (by decide +kernel) (fun c5 => ?_) (fun c5 => ?_)
        · exfalso; omega
        · refine zwW_p [(1, 0, 2)] (q := 30) (ls' := [(2, 37), (0, a), (0, b)]) (st' := [(2, 37)]) (by decide +kernel) rfl ?_
          refine zwW_gc Ih1 (kd := 13) (bn := 83) (n := 97) (c := 190) (nx := 33) (by decide +kernel) ?_
          refine zwW_p [(1, 2, 0), (0, 10, 0)] (q := 36) (ls' := [(2, 37), (0, a), (0, b)]) (st' := [(0, 10), (0, b), (2, 190)]) (by decide +kernel) rfl ?_
          refine zwW_sub (nx := 37) (by decide +kernel) (by first | omega | exact ⟨by omega, by omega⟩) ?_
          refine zwW_al Ih1 (a1 := 190) (a2 := 190) (kd := 20) (n := 6) (t := 0) (lo := -1) (hi := 5) (nx := 38) (by decide +kernel) (by first | decide | exact ⟨by decide, by decide⟩) (by first | omega | exact ⟨by omega, by omega⟩) ?_
          intro v6 ev6 lv6 uv6
          refine zwW_p [(0, -1, 0)] (q := 39) (ls' := [(2, 37), (0, a), (0, b)]) (st' := [(0, -1), (0, v6)]) (by decide +kernel) rfl ?_
          refine zwic_ne (q := 46) (nx := 42) (by decide +kernel) (fun c7 => ?_) (fun c7 => ?_)
          · refine zwW_p [(1, 0, 2)] (q := 47) (ls' := [(2, 37), (0, a), (0, b)]) (st' := [(2, 37)]) (by decide +kernel) rfl ?_
            refine zwW_gc Ih1 (kd := 13) (bn := 81) (n := 97) (c := 188) (nx := 50) (by decide +kernel) ?_
            refine zwW_p [(1, 0, 2)] (q := 51) (ls' := [(2, 37), (0, a), (0, b)]) (st' := [(2, 37), (2, 188)]) (by decide +kernel) rfl ?_
            refine zwW_gc Ih1 (kd := 13) (bn := 83) (n := 97) (c := 190) (nx := 54) (by decide +kernel) ?_
            refine zwW_p [(1, 2, 0), (0, 10, 0)] (q := 57) (ls' := [(2, 37), (0, a), (0, b)]) (st' := [(0, 10), (0, b), (2, 190), (2, 188)]) (by decide +kernel) rfl ?_
            refine zwW_sub (nx := 58) (by decide +kernel) (by first | omega | exact ⟨by omega, by omega⟩) ?_
            refine zwW_al Ih1 (a1 := 190) (a2 := 190) (kd := 20) (n := 6) (t := 0) (lo := -1) (hi := 5) (nx := 59) (by decide +kernel) (by first | decide | exact ⟨by decide, by decide⟩) (by first | omega | exact ⟨by omega, by omega⟩) ?_
            intro v8 ev8 lv8 uv8
            refine zwW_al Ih1 (a1 := 188) (a2 := 188) (kd := 20) (n := 6) (t := 0) (lo := 0) (hi := 19) (nx := 60) (by decide +kernel) (by first | decide | exact ⟨by decide, by decide⟩) (by first | omega | exact ⟨by omega, by omega⟩) ?_
            intro v9 ev9 lv9 uv9
            refine zwW_ret (nx := 61) (a := 0) (b := 0) (by decide +kernel) rfl (Or.inl rfl) ?_
            exact ⟨Ih1, Rh1, by omega⟩
          · refine zwW_p [(0, -1, 0), (24, 60, 0)] (q := 60) (ls' := [(2, 37), (0, a), (0, b)]) (st' := [(0, -1)]) (by decide +kernel) rfl ?_
            refine zwW_ret (nx := 61) (a := 0) (b := 0) (by decide +kernel) rfl (Or.inl rfl) ?_
            exact ⟨Ih1, Rh1, by omega⟩
      · refine zwif_eq (q := 61) (nx := 29) (by decide +kernel) (fun c10 => ?_) (fun c10 => ?_)
        · refine zwW_p [(1, 2, 0)] (q := 62) (ls' := [(2, 37), (0, a), (0, b)]) (st' := [(0, b)]) (by decide +kernel) rfl ?_
          refine zwif_ne (q := 72) (nx := 65) (by decide +kernel) (fun c11 => ?_) (fun c11 => ?_)
          · refine zwW_p [(1, 2, 0), (0, 1, 0)] (q := 74) (ls' := [(2, 37), (0, a), (0, b)]) (st' := [(0, 1), (0, b)]) (by decide +kernel) rfl ?_
            refine zwic_ne (q := 84) (nx := 77) (by decide +kernel) (fun c12 => ?_) (fun c12 => ?_)
            · refine zwW_p [(1, 2, 0), (0, 2, 0)] (q := 86) (ls' := [(2, 37), (0, a), (0, b)]) (st' := [(0, 2), (0, b)]) (by decide +kernel) rfl ?_
              refine zwic_ne (q := 96) (nx := 89) (by decide +kernel) (fun c13 => ?_) (fun c13 => ?_)
              · refine zwW_p [(0, -1, 0)] (q := 97) (ls' := [(2, 37), (0, a), (0, b)]) (st' := [(0, -1)]) (by decide +kernel) rfl ?_
                refine zwW_ret (nx := 98) (a := 0) (b := 0) (by decide +kernel) rfl (Or.inl rfl) ?_
                exact ⟨Ih1, Rh1, by omega⟩
              · refine zwW_p [(1, 0, 2)] (q := 90) (ls' := [(2, 37), (0, a), (0, b)]) (st' := [(2, 37)]) (by decide +kernel) rfl ?_
                refine zwW_gs Ih1 (kd := 13) (bn := 90) (n := 97) (t := 0) (lo := -2147483648) (hi := 2147483647) (nx := 93) (by decide +kernel) ?_
                intro v14 ev14 lv14 uv14
                refine zwW_p [(24, 97, 0)] (q := 97) (ls' := [(2, 37), (0, a), (0, b)]) (st' := [(0, v14)]) (by decide +kernel) rfl ?_
                refine zwW_ret (nx := 98) (a := 0) (b := 0) (by decide +kernel) rfl (Or.inl rfl) ?_
                exact ⟨Ih1, Rh1, by omega⟩
            · refine zwW_p [(1, 0, 2)] (q := 78) (ls' := [(2, 37), (0, a), (0, b)]) (st' := [(2, 37)]) (by decide +kernel) rfl ?_
              refine zwW_gs Ih1 (kd := 13) (bn := 89) (n := 97) (t := 0) (lo := -2147483648) (hi := 2147483647) (nx := 81) (by decide +kernel) ?_
              intro v15 ev15 lv15 uv15
              refine zwW_p [(24, 97, 0)] (q := 97) (ls' := [(2, 37), (0, a), (0, b)]) (st' := [(0, v15)]) (by decide +kernel) rfl ?_
              refine zwW_ret (nx := 98) (a := 0) (b := 0) (by decide +kernel) rfl (Or.inl rfl) ?_
              exact ⟨Ih1, Rh1, by omega⟩
          · refine zwW_p [(1, 0, 2)] (q := 66) (ls' := [(2, 37), (0, a), (0, b)]) (st' := [(2, 37)]) (by decide +kernel) rfl ?_
            refine zwW_gs Ih1 (kd := 13) (bn := 88) (n := 97) (t := 0) (lo := -2147483648) (hi := 2147483647) (nx := 69) (by decide +kernel) ?_
            intro v16 ev16 lv16 uv16
            refine zwW_p [(24, 97, 0)] (q := 97) (ls' := [(2, 37), (0, a), (0, b)]) (st' := [(0, v16)]) (by decide +kernel) rfl ?_
            refine zwW_ret (nx := 98) (a := 0) (b := 0) (by decide +kernel) rfl (Or.inl rfl) ?_
            exact ⟨Ih1, Rh1, by omega⟩
        · exfalso; omega
    · exfalso; omega
  · have Rh1 : zMR ms50 h h1 := R.tr Qh1 (by decide +kernel)
    refine zwif_ne (q := 10) (nx := 8) (by decide +kernel) (fun c17 => ?_) (fun c17 => ?_)
    · exfalso; omega
    · refine zwW_p [(0, -1, 0)] (q := 9) (ls' := [(2, 37), (0, a), (0, b)]) (st' := [(0, -1)]) (by decide +kernel) rfl ?_
      refine zwW_ret (nx := 10) (a := 0) (b := 0) (by decide +kernel) rfl (Or.inl rfl) ?_
      exact ⟨Ih1, Rh1, by omega⟩
end
section
/-! the class: its objects, lists, what a run keeps -/
section ZX
variable {sc : List Int} {D D' y pc nx : Nat} {ls st st' : List Vl} {h h' h1 h2 g : Hp} {Q : Option Vl → Hp → Prop}
/-- fields that are written once -/
def zfin (k j : Nat) : Bool := (Nat.beq k 11 && (Nat.ble j 2 || Nat.beq j 16)) || ((Nat.beq k 4 && Nat.blt j 6) || ((Nat.beq k 6 && Nat.blt j 6) || ((Nat.beq k 1 && Nat.blt j 5) || Nat.beq k 10)))
/-- the lists' places -/
def zLis : List Nat := [2, 3, 4, 5, 14, 20, 21]
/-- objects' fields but ms (a class k stands as 1000 + k) and lists' entries but ms's lists stay -/
def zXD (ms : Zms) (h h' : Hp) : Prop :=
  (∀ (r : Int) (k n j : Nat), 365 < r → sh h r = some (k, n) → k ≠ 25 → (∀ e ∈ ms, ¬ (e.1 ≤ 1000 + k ∧ 1000 + k ≤ e.2.1 ∧ e.2.2.1 ≤ j ∧ j < e.2.2.2)) → fld h' r j = fld h r j) ∧
  (∀ A ∈ zLis, (∀ e ∈ ms, ¬ (e.1 ≤ A ∧ A ≤ e.2.1)) → 365 < fld h A 1 → ∀ i : Nat, fld h' (fld h A 1) i = fld h (fld h A 1) i)
/-- from h to h': shapes stay, fixed places but ms, fields that are written once; how many cells and slots are new, but for lots and looms -/
def zXR (ms : Zms) (c s : Int) (h h' : Hp) : Prop :=
  (∀ r q, sh h r = some q → sh h' r = some q) ∧
  (∀ (r : Int) (j : Nat), 0 < r → r ≤ 365 → (∀ e ∈ ms, ¬ ((e.1 : Int) ≤ r ∧ r ≤ (e.2.1 : Int) ∧ e.2.2.1 ≤ j ∧ j < e.2.2.2)) → fld h' r j = fld h r j) ∧
  (∀ (r : Int) (k n j : Nat), 365 < r → sh h r = some (k, n) → zfin k j = true → fld h' r j = fld h r j) ∧
  h.length ≤ h'.length ∧
  (h'.length : Int) - (2 * fld h' 4 2 + fld h' 21 2) ≤ h.length - (2 * fld h 4 2 + fld h 21 2) + c ∧
  (sz h' : Int) - (1007 * fld h' 4 2 + 1000 * fld h' 21 2) ≤ sz h - (1007 * fld h 4 2 + 1000 * fld h 21 2) + s ∧ zXD ms h h'
theorem zXR.rf (ms : Zms) (h : Hp) : zXR ms 0 0 h h := ⟨fun _ _ z => z, fun _ _ _ _ _ => rfl, fun _ _ _ _ _ _ _ => rfl, Nat.le_refl _, by omega, by omega, fun _ _ _ _ _ _ _ _ => rfl, fun _ _ _ _ _ => rfl⟩
theorem zqI_of {ms ms' : Zms} (e : zqI ms' ms = true) {f : Nat × Nat × Nat × Nat} (hf : f ∈ ms') : ∃ g ∈ ms, g.1 ≤ f.1 ∧ f.2.1 ≤ g.2.1 ∧ g.2.2.1 ≤ f.2.2.1 ∧ f.2.2.2 ≤ g.2.2.2 := by
  have e := List.all_eq_true.mp e f hf
  obtain ⟨g, hg, e⟩ := List.any_eq_true.mp e
  simp only [Bool.and_eq_true] at e
  obtain ⟨e1, e2, e3, e4⟩ := e
  exact ⟨g, hg, Nat.le_of_ble_eq_true e1, Nat.le_of_ble_eq_true e2, Nat.le_of_ble_eq_true e3, Nat.le_of_ble_eq_true e4⟩
theorem zXR.tr {ms ms' : Zms} {c s c' s' c2 s2 : Int} (R : zXR ms c s h h1) (S : zXR ms' c' s' h1 h2) (e : zqI ms' ms = true) (hc : c + c' ≤ c2) (hs : s + s' ≤ s2) : zXR ms c2 s2 h h2 := by
  obtain ⟨r1, r2, r3, r4, r5, r6, r7, r8⟩ := R
  obtain ⟨s1, s2', s3, s4, s5, s6, s7, s8⟩ := S
  refine ⟨fun r q z => s1 r q (r1 r q z), fun r j k1 k2 hn => (s2' r j k1 k2 (fun f hf hz => ?_)).trans (r2 r j k1 k2 hn), fun r k n j k1 k2 k3 => (s3 r k n j k1 (r1 _ _ k2) k3).trans (r3 r k n j k1 k2 k3), by omega, by omega, by omega, fun r k n j k1 k2 k3 hn => ?_, fun A hA hn ha i => ?_⟩
  rotate_left
  · refine (s7 r k n j k1 (r1 _ _ k2) k3 (fun f hf hz => ?_)).trans (r7 r k n j k1 k2 k3 hn)
    obtain ⟨g, hg, e1, e2, e3, e4⟩ := zqI_of e hf
    exact hn g hg (by omega)
  · have hA2 : 0 < (A : Int) ∧ (A : Int) ≤ 365 := by
      unfold zLis at hA
      simp only [List.mem_cons, List.not_mem_nil, or_false] at hA
      omega
    have f1 : fld h1 A 1 = fld h A 1 := r2 A 1 hA2.1 hA2.2 (fun e he hz => hn e he (by omega))
    have w := s8 A hA (fun f hf hz => by
      obtain ⟨g, hg, e1, e2, e3, e4⟩ := zqI_of e hf
      exact hn g hg (by omega)) (by rw [f1]; exact ha) i
    rw [f1] at w
    exact w.trans (r8 A hA hn ha i)
  have e := List.all_eq_true.mp e f hf
  obtain ⟨g, hg, e⟩ := List.any_eq_true.mp e
  simp only [Bool.and_eq_true] at e
  obtain ⟨e1, e2, e3, e4⟩ := e
  have e1 := Nat.le_of_ble_eq_true e1
  have e2 := Nat.le_of_ble_eq_true e2
  have e3 := Nat.le_of_ble_eq_true e3
  have e4 := Nat.le_of_ble_eq_true e4
  exact hn g hg (by omega)
theorem zXR.le {ms : Zms} {c s c2 s2 : Int} (R : zXR ms c s h h1) (hc : c ≤ c2) (hs : s ≤ s2) : zXR ms c2 s2 h h1 := ⟨R.1, R.2.1, R.2.2.1, R.2.2.2.1, by have := R.2.2.2.2.1; omega, by have := R.2.2.2.2.2.1; omega, R.2.2.2.2.2.2⟩
theorem zXR.f {ms : Zms} {c s : Int} (R : zXR ms c s h h') {a1 a2 j1 j2 : Nat} (e : zqN ms a1 a2 j1 j2 = true) {r : Int} {j : Nat} (k1 : (a1 : Int) ≤ r ∧ r ≤ (a2 : Int)) (k2 : j1 ≤ j ∧ j < j2) (k3 : 0 < r ∧ r ≤ 365) : fld h' r j = fld h r j := by
  refine R.2.1 r j k3.1 k3.2 (fun f hf hz => ?_)
  have e := List.all_eq_true.mp e f hf
  simp only [Bool.or_eq_true] at e
  rcases e with e | e | e | e
  · have := Nat.le_of_ble_eq_true e
    omega
  · have := Nat.le_of_ble_eq_true e
    omega
  · have := Nat.le_of_ble_eq_true e
    omega
  · have := Nat.le_of_ble_eq_true e
    omega
theorem zXR.wc {r x : Int} {j a1 j1 j2 : Nat} (e : h' = wr h r j x) (hr : r = (a1 : Int)) (h0 : 0 < r ∧ r ≤ 365 ∧ ((r ≠ 4 ∧ r ≠ 21) ∨ j ≠ 2)) (hj : j1 ≤ j ∧ j < j2) : zXR [(a1, a1, j1, j2)] 0 0 h h' := by
  subst e
  have f1 : fld (wr h r j x) 4 2 = fld h 4 2 := fld_wr (by omega)
  have f2 : fld (wr h r j x) 21 2 = fld h 21 2 := fld_wr (by omega)
  refine ⟨fun q s z => by rw [sh_wr]; exact z, fun q i k1 k2 hn => fld_wr ?_, fun q k n i k1 k2 k3 => fld_wr (Or.inl (by omega)), by rw [len_wr]; exact Nat.le_refl _, by rw [len_wr, f1, f2]; omega, by rw [sz_wr, f1, f2]; omega, fun q k n i k1 k2 k3 hn => fld_wr (Or.inl (by omega)), fun A hA hn ha i => fld_wr (Or.inl (by omega))⟩
  have := hn _ List.mem_cons_self
  dsimp only at this
  omega
theorem zXR.wd {r x : Int} {j k n a j1 j2 : Nat} (e : h' = wr h r j x) (hr : 365 < r) (s : sh h r = some (k, n)) (hf : zfin k j = false) (ha : a = 1000 + k) (hj : j1 ≤ j ∧ j < j2) (hL : ∀ A ∈ zLis, 365 < fld h A 1 → fld h A 1 ≠ r) : zXR [(a, a, j1, j2)] 0 0 h h' := by
  subst e
  have f1 : fld (wr h r j x) 4 2 = fld h 4 2 := fld_wr (by omega)
  have f2 : fld (wr h r j x) 21 2 = fld h 21 2 := fld_wr (by omega)
  refine ⟨fun q s z => by rw [sh_wr]; exact z, fun q i k1 k2 hn => fld_wr (Or.inl (by omega)), fun q k' n' i k1 k2 k3 => fld_wr ?_, by rw [len_wr]; exact Nat.le_refl _, by rw [len_wr, f1, f2]; omega, by rw [sz_wr, f1, f2]; omega, fun q k' n' i k1 k2 k3 hn => fld_wr ?_, fun A hA hn ha i => fld_wr (Or.inl (hL A hA ha))⟩
  rotate_left
  · by_cases hq : q = r
    · subst hq
      rw [s] at k2
      cases k2
      right
      have := hn _ List.mem_cons_self
      dsimp only at this
      omega
    · exact Or.inl hq
  by_cases hq : q = r
  · right
    intro hi
    subst hq hi
    rw [s] at k2
    cases k2
    rw [hf] at k3
    cases k3
  · exact Or.inl hq
/-! good objects: villages, houses, lots, cloths, sheets -/
def gV (h : Hp) (r : Int) : Prop := 365 < r ∧ sh h r = some (11, 17) ∧ 365 < fld h r 16 ∧ sh h (fld h r 16) = some (20, 157)
def gH (h : Hp) (r : Int) : Prop := 365 < r ∧ sh h r = some (4, 19) ∧ gV h (fld h r 1)
def gL (h : Hp) (r : Int) : Prop := 365 < r ∧ sh h r = some (6, 7) ∧ gH h (fld h r 1)
def gC (h : Hp) (r : Int) : Prop := 365 < r ∧ sh h r = some (1, 6) ∧ gL h (fld h r 0) ∧ gH h (fld h r 1)
def gS (h : Hp) (r : Int) : Prop := 365 < r ∧ sh h r = some (10, 3) ∧ (365 < fld h r 1 ∧ ∃ n, sh h (fld h r 1) = some (20, n)) ∧ (365 < fld h r 2 ∧ sh h (fld h r 2) = some (20, 5))
theorem gV.x {ms : Zms} {c s r : Int} (G : gV h r) (R : zXR ms c s h h') : gV h' r := by
  obtain ⟨a, b, c', d⟩ := G
  have f := R.2.2.1 r 11 17 16 a b rfl
  exact ⟨a, R.1 _ _ b, by rw [f]; exact c', by rw [f]; exact R.1 _ _ d⟩
theorem gH.x {ms : Zms} {c s r : Int} (G : gH h r) (R : zXR ms c s h h') : gH h' r := by
  obtain ⟨a, b, c'⟩ := G
  exact ⟨a, R.1 _ _ b, by rw [R.2.2.1 r 4 19 1 a b rfl]; exact c'.x R⟩
theorem gL.x {ms : Zms} {c s r : Int} (G : gL h r) (R : zXR ms c s h h') : gL h' r := by
  obtain ⟨a, b, c'⟩ := G
  exact ⟨a, R.1 _ _ b, by rw [R.2.2.1 r 6 7 1 a b rfl]; exact c'.x R⟩
theorem gC.x {ms : Zms} {c s r : Int} (G : gC h r) (R : zXR ms c s h h') : gC h' r := by
  obtain ⟨a, b, c', d⟩ := G
  exact ⟨a, R.1 _ _ b, by rw [R.2.2.1 r 1 6 0 a b rfl]; exact c'.x R, by rw [R.2.2.1 r 1 6 1 a b rfl]; exact d.x R⟩
theorem gS.x {ms : Zms} {c s r : Int} (G : gS h r) (R : zXR ms c s h h') : gS h' r := by
  obtain ⟨a, b, ⟨c1, n, c2⟩, d1, d2⟩ := G
  exact ⟨a, R.1 _ _ b, by rw [R.2.2.1 r 10 3 1 a b rfl]; exact ⟨c1, n, R.1 _ _ c2⟩, by rw [R.2.2.1 r 10 3 2 a b rfl]; exact ⟨d1, R.1 _ _ d2⟩⟩
/-- arrays of ints of n places outside the fixed ones -/
def gA (n : Nat) (h : Hp) (r : Int) : Prop := 365 < r ∧ sh h r = some (20, n)
theorem gA.x {ms : Zms} {c s r : Int} {n : Nat} (G : gA n h r) (R : zXR ms c s h h') : gA n h' r := ⟨G.1, R.1 _ _ G.2⟩
/-! the lists -/
def zG (A : Nat) : Hp → Int → Prop := if A = 2 then gV else if A = 3 ∨ A = 21 then gH else if A = 4 ∨ A = 20 then gL else if A = 5 then gC else gS
theorem zG.x {ms : Zms} {c s r : Int} {A : Nat} (G : zG A h r) (R : zXR ms c s h h') : zG A h' r := by
  unfold zG at G ⊢
  split
  · rw [if_pos ‹_›] at G; exact gV.x G R
  · rw [if_neg ‹_›] at G
    split
    · rw [if_pos ‹_›] at G; exact gH.x G R
    · rw [if_neg ‹_›] at G
      split
      · rw [if_pos ‹_›] at G; exact gL.x G R
      · rw [if_neg ‹_›] at G
        split
        · rw [if_pos ‹_›] at G; exact gC.x G R
        · rw [if_neg ‹_›] at G; exact gS.x G R
def zL1 (h : Hp) (A : Nat) : Prop := (fld h A 2 = 0 ∧ fld h A 1 = -2) ∨ (365 < fld h A 1 ∧ ∃ n : Nat, sh h (fld h A 1) = some (25, n) ∧ fld h A 2 ≤ n ∧ 0 < n ∧ n ≤ 600 ∧ ∀ i : Nat, (i : Int) < fld h A 2 → zG A h (fld h (fld h A 1) i))
def zLs (h : Hp) : Prop := (∀ A ∈ zLis, zL1 h A) ∧ (∀ A ∈ zLis, ∀ B ∈ zLis, A ≠ B → 365 < fld h A 1 → fld h A 1 ≠ fld h B 1) ∧ ∀ i : Nat, i < 12 → fld h 15 i = 0 ∨ gS h (fld h 15 i)
/-- ints outside the fixed places are ints -/
def zDy (h : Hp) : Prop := ∀ (r : Int) (k n j : Nat), 365 < r → sh h r = some (k, n) → kty k j = 0 → -2147483648 ≤ fld h r j ∧ fld h r j ≤ 2147483647
def CI (h : Hp) : Prop := zI h ∧ zDy h ∧ zLs h
/-- a list's cells are as they were, and what stands in it is as good -/
theorem zL1.kp {ms : Zms} {c s : Int} {A : Nat} (H : zL1 h A) (R : zXR ms c s h h') (e1 : fld h' A 1 = fld h A 1) (e2 : fld h' A 2 = fld h A 2) (ed : 365 < fld h A 1 → fld h' (fld h A 1) = fld h (fld h A 1)) : zL1 h' A := by
  rcases H with ⟨a, b⟩ | ⟨a, n, b, c', c0, d, e⟩
  · exact Or.inl ⟨by rw [e2]; exact a, by rw [e1]; exact b⟩
  · refine Or.inr ⟨by rw [e1]; exact a, n, by rw [e1]; exact R.1 _ _ b, by rw [e2]; exact c', c0, d, fun i hi => ?_⟩
    rw [e2] at hi
    rw [e1, ed a]
    exact (e i hi).x R
theorem zLs.kp {ms : Zms} {c s : Int} (H : zLs h) (R : zXR ms c s h h') (e1 : ∀ A ∈ zLis, fld h' A 1 = fld h A 1 ∧ fld h' A 2 = fld h A 2) (ed : ∀ A ∈ zLis, 365 < fld h A 1 → fld h' (fld h A 1) = fld h (fld h A 1)) (ef : ∀ i : Nat, i < 12 → fld h' 15 i = fld h 15 i) : zLs h' := by
  obtain ⟨a, b, c'⟩ := H
  refine ⟨fun A hA => (a A hA).kp R (e1 A hA).1 (e1 A hA).2 (ed A hA), fun A hA B hB hne => ?_, fun i hi => ?_⟩
  · rw [(e1 A hA).1, (e1 B hB).1]
    exact b A hA B hB hne
  · rw [ef i hi]
    exact (c' i hi).imp id (fun z => z.x R)
theorem zL1.d25 {A : Nat} (H : zL1 h A) (ha : 365 < fld h A 1) : ∃ n, sh h (fld h A 1) = some (25, n) := by
  rcases H with ⟨a, b⟩ | ⟨a, n, b, -⟩
  · omega
  · exact ⟨n, b⟩
theorem CI.ne25 (C : CI h) {r : Int} {k n : Nat} (s : sh h r = some (k, n)) (h25 : k ≠ 25) : ∀ A ∈ zLis, 365 < fld h A 1 → fld h A 1 ≠ r := by
  intro A hA ha hz
  obtain ⟨m, hm⟩ := (C.2.2.1 A hA).d25 ha
  rw [hz, s] at hm
  cases hm
  exact h25 rfl
theorem CI.wdX {r x : Int} {j k n a j1 j2 : Nat} (C : CI h) (e : h' = wr h r j x) (hr : 365 < r) (s : sh h r = some (k, n)) (hf : zfin k j = false) (h25 : k ≠ 25) (ha : a = 1000 + k) (hj : j1 ≤ j ∧ j < j2) : zXR [(a, a, j1, j2)] 0 0 h h' := zXR.wd e hr s hf ha hj (C.ne25 s h25)
theorem CI.wc {r x : Int} {j : Nat} (C : CI h) (e : h' = wr h r j x) (I : zI h') (hr : 0 < r ∧ r ≤ 365) (hq : (r ≠ 2 ∧ r ≠ 3 ∧ r ≠ 4 ∧ r ≠ 5 ∧ r ≠ 14 ∧ r ≠ 20 ∧ r ≠ 21) ∧ r ≠ 15) : CI h' := by
  have R : zXR [(r.toNat, r.toNat, j, j + 1)] 0 0 h h' := zXR.wc e (by omega) ⟨hr.1, hr.2, Or.inl ⟨hq.1.2.2.1, hq.1.2.2.2.2.2.2⟩⟩ ⟨Nat.le_refl _, Nat.lt_succ_self _⟩
  have fo : ∀ (q : Int) (i : Nat), q ≠ r → fld h' q i = fld h q i := fun q i hne => by rw [e]; exact fld_wr (Or.inl hne)
  refine ⟨I, fun q k n i k1 k2 k3 => ?_, C.2.2.kp R (fun A hA => ?_) (fun A hA ha => ?_) (fun i hi => fo _ _ (Ne.symm hq.2))⟩
  · rw [fo q i (by omega)]
    rw [e, sh_wr] at k2
    exact C.2.1 q k n i k1 k2 k3
  · have hne : (A : Int) ≠ r := by
      unfold zLis at hA
      simp only [List.mem_cons, List.not_mem_nil, or_false] at hA
      omega
    exact ⟨fo _ _ hne, fo _ _ hne⟩
  · funext i
    exact fo _ _ (by omega)
theorem CI.wd {r x : Int} {j k n : Nat} (C : CI h) (e : h' = wr h r j x) (hr : 365 < r) (s : sh h r = some (k, n)) (hf : zfin k j = false) (h25 : k ≠ 25) (hx : -2147483648 ≤ x ∧ x ≤ 2147483647) : CI h' := by
  have R := C.wdX e hr s hf h25 rfl ⟨Nat.le_refl j, Nat.lt_succ_self j⟩
  have fo : ∀ (q : Int) (i : Nat), q ≠ r → fld h' q i = fld h q i := fun q i hne => by rw [e]; exact fld_wr (Or.inl hne)
  refine ⟨C.1.far (fun q k1 k2 => by rw [e, sh_wr]) (fun q i k1 k2 => fo q i (by omega)), fun q k' n' i k1 k2 k3 => ?_, C.2.2.kp R (fun A hA => ?_) (fun A hA ha => ?_) (fun i hi => fo _ _ (by omega))⟩
  · rw [e, sh_wr] at k2
    by_cases hq : q = r ∧ i = j
    · obtain ⟨rfl, rfl⟩ := hq
      rw [e]
      rcases fld_wr2 (h := h) (r := q) (i := i) (x := x) with z | z
      · rw [z]; exact hx
      · rw [z]; exact C.2.1 q k' n' i k1 k2 k3
    · rw [e, fld_wr (by omega)]
      exact C.2.1 q k' n' i k1 k2 k3
  · have hne : (A : Int) ≠ r := by
      unfold zLis at hA
      simp only [List.mem_cons, List.not_mem_nil, or_false] at hA
      omega
    exact ⟨fo _ _ hne, fo _ _ hne⟩
  · funext i
    refine fo _ _ (fun hz => ?_)
    obtain ⟨m, hm⟩ := (C.2.2.1 A hA).d25 ha
    rw [hz, s] at hm
    cases hm
    exact h25 rfl
/-! instructions at objects -/
theorem zwX_gi (C : CI h) {kd bn n : Nat} {r : Int} (e : (zkGet y pc nx kd bn 0 && Nat.beq (kty kd bn) 0) = true) (s : sh h r = some (kd, n)) (hr : 365 < r) (hb : Nat.blt bn n = true) (k : ∀ z, z = fld h r bn → -2147483648 ≤ z → z ≤ 2147483647 → zwW sc D y nx ls ((0, z) :: st) h Q) : zwW sc D y pc ls ((2, r) :: st) h Q := by
  rw [Bool.and_eq_true] at e
  have hb2 := C.2.1 r kd n bn hr s (Nat.eq_of_beq_eq_true e.2)
  exact zwW_get e.1 s hb (k _ rfl hb2.1 hb2.2)
theorem zwX_pi (C : CI h) {kd bn n : Nat} {r x : Int} (e : (zkPut y pc nx kd bn 0 && (Nat.blt bn n && (!zfin kd bn && Nat.blt kd 14))) = true) (s : sh h r = some (kd, n)) (hr : 365 < r) (hx : -2147483648 ≤ x ∧ x ≤ 2147483647) (k : ∀ h', h' = wr h r bn x → CI h' → zXR [(1000 + kd, 1000 + kd, bn, bn + 1)] 0 0 h h' → zwW sc D y nx ls st h' Q) : zwW sc D y pc ls ((0, x) :: (2, r) :: st) h Q := by
  simp only [Bool.and_eq_true, Bool.not_eq_true'] at e
  have hk : kd < 14 := Nat.le_of_ble_eq_true e.2.2.2
  exact zwW_put e.1 s e.2.1 rfl (fun h' e' => k h' e' (C.wd e' hr s e.2.2.1 (by omega) hx) (C.wdX e' hr s e.2.2.1 (by omega) rfl ⟨Nat.le_refl _, Nat.lt_succ_self _⟩))
theorem zwX_ai (C : CI h) {n : Nat} {r i : Int} (e : zwat y pc 32 nx 20 0 = true) (s : sh h r = some (20, n)) (hr : 365 < r) (hi : 0 ≤ i ∧ i < n) (k : ∀ z, z = fld h r i.toNat → -2147483648 ≤ z → z ≤ 2147483647 → zwW sc D y nx ls ((0, z) :: st) h Q) : zwW sc D y pc ls ((0, i) :: (2, r) :: st) h Q := by
  have hb2 := C.2.1 r 20 n i.toNat hr s rfl
  exact zwW_ald e s (t := 0) rfl hi.1 hi.2 (k _ rfl hb2.1 hb2.2)
theorem zwX_si (C : CI h) {n : Nat} {r i x : Int} (e : zwat y pc 41 nx 20 0 = true) (s : sh h r = some (20, n)) (hr : 365 < r) (hi : 0 ≤ i ∧ i < n) (hx : -2147483648 ≤ x ∧ x ≤ 2147483647) (hn5 : n ≤ 100000) (k : ∀ h', h' = wr h r i.toNat x → CI h' → zXR [(1020, 1020, 0, 100000)] 0 0 h h' → zwW sc D y nx ls st h' Q) : zwW sc D y pc ls ((0, x) :: (0, i) :: (2, r) :: st) h Q :=
  zwW_ast e s rfl hi.1 hi.2 rfl (fun h' e' => k h' e' (C.wd e' hr s rfl (by decide) hx) (C.wdX e' hr s rfl (by decide) rfl ⟨Nat.zero_le _, by omega⟩))
/-! new cells behind the old ones -/
def zOld (h h' : Hp) : Prop := h.length ≤ h'.length ∧ ∀ r : Int, r ≤ h.length → cel h' r = cel h r
theorem zOld.rf (h : Hp) : zOld h h := ⟨Nat.le_refl _, fun _ _ => rfl⟩
theorem zOld.tr (a : zOld h h1) (b : zOld h1 h2) : zOld h h2 := ⟨Nat.le_trans a.1 b.1, fun r hr => (b.2 r (by have := a.1; omega)).trans (a.2 r hr)⟩
theorem zOld.sp (a : zOld h h1) {r : Int} {q : Nat × Nat} (hs : sh h r = some q) : sh h1 r = some q := by
  unfold sh at hs ⊢
  have hr : r ≤ h.length := by
    cases hc : cel h r with
    | none => rw [hc] at hs; cases hs
    | some e => exact (cel_of hc).2.2
  rw [a.2 r hr]
  exact hs
theorem zOld.fl (a : zOld h h1) {r : Int} (hr : r ≤ h.length) : fld h1 r = fld h r := by
  funext j
  unfold fld
  rw [a.2 r hr]
theorem cel_app (l : List (Nat × List Int)) (r : Int) (hr : r ≤ h.length) : cel (h ++ l) r = cel h r := by
  unfold cel
  by_cases h0 : 0 < r
  · rw [if_pos h0, if_pos h0, List.getElem?_append_left (by omega)]
  · rw [if_neg h0, if_neg h0]
theorem zOld.app (l : List (Nat × List Int)) : zOld h (h ++ l) := ⟨by rw [List.length_append]; omega, fun r hr => cel_app l r hr⟩
theorem zOld.w {r x : Int} {j : Nat} (a : zOld h h1) (e : h2 = wr h1 r j x) (hr : h.length < r) : zOld h h2 := by
  subst e
  refine ⟨by rw [len_wr]; exact a.1, fun q hq => ?_⟩
  rw [← a.2 q hq]
  unfold wr
  cases hc : cel h1 r with
  | none => rfl
  | some e => exact (cel_set q (by rw [hc]; rfl)).trans (if_neg (by omega))
theorem zOld.xr (a : zOld h h1) (C : CI h) {c s : Nat} (hc : h1.length ≤ h.length + c) (hs : sz h1 ≤ sz h + s) (ms : Zms) : zXR ms c s h h1 := by
  have h365 : 365 ≤ h.length := by
    have := sh_pos (C.1.s (a1 := 365) (a2 := 365) (k := 20) (n := 8) (by decide +kernel) (r := 365) (by decide) (by decide))
    omega
  have f1 : fld h1 4 2 = fld h 4 2 := congrFun (a.fl (by omega)) 2
  have f2 : fld h1 21 2 = fld h 21 2 := congrFun (a.fl (by omega)) 2
  refine ⟨fun r q z => a.sp z, fun r j k1 k2 _ => congrFun (a.fl (by omega)) j, fun r k n j k1 k2 k3 => congrFun (a.fl ?_) j, a.1, by rw [f1, f2]; omega, by rw [f1, f2]; omega, fun r k n j k1 k2 k3 hn => congrFun (a.fl (sh_pos k2).2) j, fun A hA hn ha i => ?_⟩
  · exact (sh_pos k2).2
  · obtain ⟨m, hm⟩ := (C.2.2.1 A hA).d25 ha
    exact congrFun (a.fl (sh_pos hm).2) i
theorem CI.old (C : CI h) (a : zOld h h1) (Y : zDy h1) : CI h1 := by
  have h365 : 365 ≤ h.length := by
    have := sh_pos (C.1.s (a1 := 365) (a2 := 365) (k := 20) (n := 8) (by decide +kernel) (r := 365) (by decide) (by decide))
    omega
  have R := a.xr C (c := h1.length) (s := sz h1) (by omega) (by omega) []
  refine ⟨C.1.far (fun r k1 k2 => ?_) (fun r j k1 k2 => congrFun (a.fl (by omega)) j), Y, C.2.2.kp R (fun A hA => ?_) (fun A hA ha => ?_) (fun i hi => congrFun (a.fl (by omega)) i)⟩
  · unfold sh
    rw [a.2 r (by omega)]
  · have hA2 : (A : Int) ≤ 21 := by
      unfold zLis at hA
      simp only [List.mem_cons, List.not_mem_nil, or_false] at hA
      omega
    exact ⟨congrFun (a.fl (by omega)) 1, congrFun (a.fl (by omega)) 2⟩
  · obtain ⟨m, hm⟩ := (C.2.2.1 A hA).d25 ha
    exact a.fl (sh_pos hm).2
theorem zDy.w {r x : Int} {j : Nat} (Y : zDy h) (e : h' = wr h r j x) (hx : -2147483648 ≤ x ∧ x ≤ 2147483647) : zDy h' := by
  intro q k n i k1 k2 k3
  rw [e, sh_wr] at k2
  by_cases hq : q = r ∧ i = j
  · obtain ⟨rfl, rfl⟩ := hq
    rw [e]
    rcases fld_wr2 (h := h) (r := q) (i := i) (x := x) with z | z
    · rw [z]; exact hx
    · rw [z]; exact Y q k n i k1 k2 k3
  · rw [e, fld_wr (by omega)]
    exact Y q k n i k1 k2 k3
/-- a reference is written: it is no int -/
theorem zDy.wq {r x : Int} {j k n : Nat} (Y : zDy h) (e : h' = wr h r j x) (s : sh h r = some (k, n)) (hk : kty k j ≠ 0) : zDy h' := by
  intro q k' n' i k1 k2 k3
  rw [e, sh_wr] at k2
  by_cases hq : q = r ∧ i = j
  · obtain ⟨rfl, rfl⟩ := hq
    rw [s] at k2
    cases k2
    exact absurd k3 hk
  · rw [e, fld_wr (by omega)]
    exact Y q k' n' i k1 k2 k3
theorem cel_new (c : Nat × List Int) : cel (h ++ [c]) ((h.length + 1 : Nat) : Int) = some c := by
  unfold cel
  rw [if_pos (by omega), show (((h.length + 1 : Nat) : Int)).toNat - 1 = h.length by omega, List.getElem?_append_right (Nat.le_refl _), Nat.sub_self]
  rfl
theorem zDy.app {k : Nat} {l : List Int} (Y : zDy h) (hl : ∀ x ∈ l, -2147483648 ≤ x ∧ x ≤ 2147483647) : zDy (h ++ [(k, l)]) := by
  intro q k' n i k1 k2 k3
  by_cases hq : q ≤ h.length
  · rw [congrFun (zOld.app (h := h) [(k, l)] |>.fl hq) i]
    refine Y q k' n i k1 ?_ k3
    unfold sh at k2 ⊢
    rw [cel_app _ q hq] at k2
    exact k2
  · have := (sh_pos k2).2
    rw [List.length_append, List.length_singleton] at this
    obtain rfl : q = ((h.length + 1 : Nat) : Int) := by omega
    rw [fld_of (cel_new (h := h) (k, l)), List.getD_eq_getElem?_getD]
    cases hx : l[i]? with
    | none => exact (by first | decide | exact ⟨by decide, by decide⟩)
    | some x => exact hl x (List.mem_of_getElem? hx)
theorem sh_new (k : Nat) (l : List Int) : sh (h ++ [(k, l)]) ((h.length + 1 : Nat) : Int) = some (k, l.length) := sh_of (cel_new _)
theorem fld_new (k : Nat) (l : List Int) (j : Nat) : fld (h ++ [(k, l)]) ((h.length + 1 : Nat) : Int) j = l.getD j 0 := fld_of (cel_new _)
theorem zXR.dy {ms : Zms} {c s : Int} (R : zXR ms c s h h') {k n j j1 j2 : Nat} (e : zqN ms (1000 + k) (1000 + k) j1 j2 = true) {r : Int} (hr : 365 < r) (s' : sh h r = some (k, n)) (h25 : k ≠ 25) (hj : j1 ≤ j ∧ j < j2) : fld h' r j = fld h r j := by
  refine R.2.2.2.2.2.2.1 r k n j hr s' h25 (fun f hf hz => ?_)
  have e := List.all_eq_true.mp e f hf
  simp only [Bool.or_eq_true] at e
  rcases e with e | e | e | e
  · have := Nat.le_of_ble_eq_true e
    omega
  · have := Nat.le_of_ble_eq_true e
    omega
  · have := Nat.le_of_ble_eq_true e
    omega
  · have := Nat.le_of_ble_eq_true e
    omega
/-- a list that isn't touched -/
theorem zXR.li {ms : Zms} {c s : Int} (R : zXR ms c s h h') {A : Nat} (hA : A ∈ zLis) (e : ms.all (fun f => Nat.blt f.2.1 A || Nat.blt A f.1) = true) : (∀ j : Nat, fld h' A j = fld h A j) ∧ (365 < fld h A 1 → ∀ i : Nat, fld h' (fld h A 1) i = fld h (fld h A 1) i) := by
  have hn : ∀ f ∈ ms, ¬ (f.1 ≤ A ∧ A ≤ f.2.1) := by
    intro f hf hz
    have e := List.all_eq_true.mp e f hf
    rw [Bool.or_eq_true] at e
    rcases e with e | e
    · have := Nat.le_of_ble_eq_true e
      omega
    · have := Nat.le_of_ble_eq_true e
      omega
  have hA2 : 0 < (A : Int) ∧ (A : Int) ≤ 365 := by
    unfold zLis at hA
    simp only [List.mem_cons, List.not_mem_nil, or_false] at hA
    omega
  exact ⟨fun j => R.2.1 A j hA2.1 hA2.2 (fun f hf hz => hn f hf (by omega)), R.2.2.2.2.2.2.2 A hA hn⟩
theorem CI.len (C : CI h) : 365 ≤ h.length := by
  have := sh_pos (C.1.s (a1 := 365) (a2 := 365) (k := 20) (n := 8) (by decide +kernel) (r := 365) (by decide) (by decide))
  omega
end ZX
end
section
/-! the lists' own methods -/
section ZL
variable {sc : List Int} {D D' y pc nx : Nat} {ls st st' : List Vl} {h h' h1 h2 g : Hp} {Q : Option Vl → Hp → Prop}
theorem zLis_sh (C : CI h) {A : Nat} (hA : A ∈ zLis) : sh h (A : Int) = some (0, 3) := by
  unfold zLis at hA
  simp only [List.mem_cons, List.not_mem_nil, or_false] at hA
  rcases hA with rfl | rfl | rfl | rfl | rfl | rfl | rfl
  · exact C.1.s (a1 := 2) (a2 := 2) (by decide +kernel) (by decide) (by decide)
  · exact C.1.s (a1 := 3) (a2 := 3) (by decide +kernel) (by decide) (by decide)
  · exact C.1.s (a1 := 4) (a2 := 4) (by decide +kernel) (by decide) (by decide)
  · exact C.1.s (a1 := 5) (a2 := 5) (by decide +kernel) (by decide) (by decide)
  · exact C.1.s (a1 := 14) (a2 := 14) (by decide +kernel) (by decide) (by decide)
  · exact C.1.s (a1 := 20) (a2 := 20) (by decide +kernel) (by decide) (by decide)
  · exact C.1.s (a1 := 21) (a2 := 21) (by decide +kernel) (by decide) (by decide)
def zmx (A : Nat) : Int := if A = 2 ∨ A = 14 then 8 else if A = 3 then 20 else if A = 4 then 300 else if A = 5 then 200 else 6
theorem zLis_b (C : CI h) {A : Nat} (hA : A ∈ zLis) : 0 ≤ fld h (A : Int) 2 ∧ fld h (A : Int) 2 ≤ zmx A := by
  unfold zLis at hA
  simp only [List.mem_cons, List.not_mem_nil, or_false] at hA
  rcases hA with rfl | rfl | rfl | rfl | rfl | rfl | rfl
  · exact C.1.b (a1 := 2) (a2 := 2) (j1 := 2) (j2 := 3) (lo := 0) (hi := 8) (by decide +kernel) (by decide) (by decide) (by decide) (by decide)
  · exact C.1.b (a1 := 3) (a2 := 3) (j1 := 2) (j2 := 3) (lo := 0) (hi := 20) (by decide +kernel) (by decide) (by decide) (by decide) (by decide)
  · exact C.1.b (a1 := 4) (a2 := 4) (j1 := 2) (j2 := 3) (lo := 0) (hi := 300) (by decide +kernel) (by decide) (by decide) (by decide) (by decide)
  · exact C.1.b (a1 := 5) (a2 := 5) (j1 := 2) (j2 := 3) (lo := 0) (hi := 200) (by decide +kernel) (by decide) (by decide) (by decide) (by decide)
  · exact C.1.b (a1 := 14) (a2 := 14) (j1 := 2) (j2 := 3) (lo := 0) (hi := 8) (by decide +kernel) (by decide) (by decide) (by decide) (by decide)
  · exact C.1.b (a1 := 20) (a2 := 20) (j1 := 2) (j2 := 3) (lo := 0) (hi := 6) (by decide +kernel) (by decide) (by decide) (by decide) (by decide)
  · exact C.1.b (a1 := 21) (a2 := 21) (j1 := 2) (j2 := 3) (lo := 0) (hi := 6) (by decide +kernel) (by decide) (by decide) (by decide) (by decide)
/-- writes at a list's own cell -/
theorem zI.wl (I : zI h) {A : Nat} (hA : A ∈ zLis) {j : Nat} {x : Int} (hj : j < 3) (h0 : -2147483648 ≤ x ∧ x ≤ 2147483647) (h1 : j = 1 → -2 ≤ x) (h2 : j = 2 → 0 ≤ x ∧ x ≤ zmx A) : zI (wr h (A : Int) j x) := by
  have e : j = 0 ∨ j = 1 ∨ j = 2 := by omega
  unfold zLis at hA
  simp only [List.mem_cons, List.not_mem_nil, or_false] at hA
  rcases e with rfl | rfl | rfl
  · rcases hA with rfl | rfl | rfl | rfl | rfl | rfl | rfl
    · exact I.w (a1 := 2) (a2 := 2) (j1 := 0) (j2 := 1) (lo := -2147483648) (hi := 2147483647) (by decide +kernel) (by decide) (by decide) (by decide) (by decide) h0.1 h0.2
    · exact I.w (a1 := 3) (a2 := 3) (j1 := 0) (j2 := 1) (lo := -2147483648) (hi := 2147483647) (by decide +kernel) (by decide) (by decide) (by decide) (by decide) h0.1 h0.2
    · exact I.w (a1 := 4) (a2 := 4) (j1 := 0) (j2 := 1) (lo := -2147483648) (hi := 2147483647) (by decide +kernel) (by decide) (by decide) (by decide) (by decide) h0.1 h0.2
    · exact I.w (a1 := 5) (a2 := 5) (j1 := 0) (j2 := 1) (lo := -2147483648) (hi := 2147483647) (by decide +kernel) (by decide) (by decide) (by decide) (by decide) h0.1 h0.2
    · exact I.w (a1 := 14) (a2 := 14) (j1 := 0) (j2 := 1) (lo := -2147483648) (hi := 2147483647) (by decide +kernel) (by decide) (by decide) (by decide) (by decide) h0.1 h0.2
    · exact I.w (a1 := 20) (a2 := 20) (j1 := 0) (j2 := 1) (lo := -2147483648) (hi := 2147483647) (by decide +kernel) (by decide) (by decide) (by decide) (by decide) h0.1 h0.2
    · exact I.w (a1 := 21) (a2 := 21) (j1 := 0) (j2 := 1) (lo := -2147483648) (hi := 2147483647) (by decide +kernel) (by decide) (by decide) (by decide) (by decide) h0.1 h0.2
  · have h1 := h1 rfl
    rcases hA with rfl | rfl | rfl | rfl | rfl | rfl | rfl
    · exact I.w (a1 := 2) (a2 := 2) (j1 := 1) (j2 := 2) (lo := -2) (hi := 2147483647) (by decide +kernel) (by decide) (by decide) (by decide) (by decide) h1 h0.2
    · exact I.w (a1 := 3) (a2 := 3) (j1 := 1) (j2 := 2) (lo := -2) (hi := 2147483647) (by decide +kernel) (by decide) (by decide) (by decide) (by decide) h1 h0.2
    · exact I.w (a1 := 4) (a2 := 4) (j1 := 1) (j2 := 2) (lo := -2) (hi := 2147483647) (by decide +kernel) (by decide) (by decide) (by decide) (by decide) h1 h0.2
    · exact I.w (a1 := 5) (a2 := 5) (j1 := 1) (j2 := 2) (lo := -2) (hi := 2147483647) (by decide +kernel) (by decide) (by decide) (by decide) (by decide) h1 h0.2
    · exact I.w (a1 := 14) (a2 := 14) (j1 := 1) (j2 := 2) (lo := -2) (hi := 2147483647) (by decide +kernel) (by decide) (by decide) (by decide) (by decide) h1 h0.2
    · exact I.w (a1 := 20) (a2 := 20) (j1 := 1) (j2 := 2) (lo := -2) (hi := 2147483647) (by decide +kernel) (by decide) (by decide) (by decide) (by decide) h1 h0.2
    · exact I.w (a1 := 21) (a2 := 21) (j1 := 1) (j2 := 2) (lo := -2) (hi := 2147483647) (by decide +kernel) (by decide) (by decide) (by decide) (by decide) h1 h0.2
  · obtain ⟨k1, k2⟩ := h2 rfl
    rcases hA with rfl | rfl | rfl | rfl | rfl | rfl | rfl
    · exact I.w (a1 := 2) (a2 := 2) (j1 := 2) (j2 := 3) (lo := 0) (hi := 8) (by decide +kernel) (by decide) (by decide) (by decide) (by decide) k1 k2
    · exact I.w (a1 := 3) (a2 := 3) (j1 := 2) (j2 := 3) (lo := 0) (hi := 20) (by decide +kernel) (by decide) (by decide) (by decide) (by decide) k1 k2
    · exact I.w (a1 := 4) (a2 := 4) (j1 := 2) (j2 := 3) (lo := 0) (hi := 300) (by decide +kernel) (by decide) (by decide) (by decide) (by decide) k1 k2
    · exact I.w (a1 := 5) (a2 := 5) (j1 := 2) (j2 := 3) (lo := 0) (hi := 200) (by decide +kernel) (by decide) (by decide) (by decide) (by decide) k1 k2
    · exact I.w (a1 := 14) (a2 := 14) (j1 := 2) (j2 := 3) (lo := 0) (hi := 8) (by decide +kernel) (by decide) (by decide) (by decide) (by decide) k1 k2
    · exact I.w (a1 := 20) (a2 := 20) (j1 := 2) (j2 := 3) (lo := 0) (hi := 6) (by decide +kernel) (by decide) (by decide) (by decide) (by decide) k1 k2
    · exact I.w (a1 := 21) (a2 := 21) (j1 := 2) (j2 := 3) (lo := 0) (hi := 6) (by decide +kernel) (by decide) (by decide) (by decide) (by decide) k1 k2
theorem zLis_36 {A : Nat} (hA : A ∈ zLis) : 0 < (A : Int) ∧ (A : Int) ≤ 21 ∧ A ≠ 15 := by
  unfold zLis at hA
  simp only [List.mem_cons, List.not_mem_nil, or_false] at hA
  omega
/-- the count of changes -/
theorem CI.wm {A : Nat} (C : CI h) (hA : A ∈ zLis) {x : Int} (hx : -2147483648 ≤ x ∧ x ≤ 2147483647) (e : g = wr h (A : Int) 0 x) : CI g := by
  have hq := zLis_36 hA
  have R : zXR [(A, A, 0, 1)] 0 0 h g := zXR.wc e rfl ⟨hq.1, by omega, Or.inr (by decide)⟩ (by first | decide | exact ⟨by decide, by decide⟩)
  refine ⟨by rw [e]; exact C.1.wl hA (by decide) hx (by omega) (by omega), fun q k n i k1 k2 k3 => ?_, C.2.2.kp R (fun B hB => ?_) (fun B hB ha => ?_) (fun i hi => ?_)⟩
  · rw [e, sh_wr] at k2
    rw [e, fld_wr (Or.inl (by omega))]
    exact C.2.1 q k n i k1 k2 k3
  · exact ⟨by rw [e]; exact fld_wr (Or.inr (by decide)), by rw [e]; exact fld_wr (Or.inr (by decide))⟩
  · funext i
    rw [e]
    exact fld_wr (Or.inl (by omega))
  · rw [e]
    exact fld_wr (Or.inl (by omega))
/-- one more stands in a list -/
theorem CI.add {A : Nat} {d r s : Int} {n : Nat} (C : CI h) (hA : A ∈ zLis) (G : zG A h r) (hs : fld h A 2 = s) (hm : s < zmx A)
    (e1 : ∀ q z, sh h q = some z → sh g q = some z) (hlen : h.length ≤ g.length) (e2 : ∀ q : Int, q ≤ h.length → q ≠ A → q ≠ d → fld g q = fld h q) (e3 : fld g A 0 = fld h A 0 ∧ fld g A 1 = d ∧ fld g A 2 = s + 1)
    (hd : 365 < d ∧ d ≤ 2147483647) (hn : sh g d = some (25, n)) (hn2 : s + 1 ≤ n ∧ n ≤ 600) (hdd : d = fld h A 1 ∨ (h.length : Int) < d) (e4 : ∀ i : Nat, (i : Int) < s → fld g d i = fld h (fld h A 1) i) (e5 : fld g d s.toNat = r)
    (e6 : ∀ (q : Int) (k m : Nat), 365 < q → sh g q = some (k, m) → k ≠ 25 → q ≤ h.length ∧ sh h q = some (k, m)) (I : zI g) {cc ss : Int} (hcl : (g.length : Int) - (2 * fld g 4 2 + fld g 21 2) ≤ h.length - (2 * fld h 4 2 + fld h 21 2) + cc) (hcs : (sz g : Int) - (1007 * fld g 4 2 + 1000 * fld g 21 2) ≤ sz h - (1007 * fld h 4 2 + 1000 * fld h 21 2) + ss) :
    CI g ∧ zXR [(A, A, 0, 3)] cc ss h g := by
  have hq := zLis_36 hA
  have h365 := C.len
  have hb := zLis_b C hA
  have hd25 : ∀ (q : Int) (k m : Nat), sh h q = some (k, m) → k ≠ 25 → q ≠ d := by
    intro q k m hs' hk hz
    have := e1 q _ hs'
    rw [hz, hn] at this
    cases this
    exact hk rfl
  have R : zXR [(A, A, 0, 3)] cc ss h g := by
    refine ⟨e1, fun q j k1 k2 hne => ?_, fun q k m j k1 k2 k3 => ?_, hlen, hcl, hcs, fun q k m j k1 k2 k3 hne => ?_, fun B hB hne ha i => ?_⟩
    · have := hne _ List.mem_cons_self
      dsimp only at this
      by_cases hz : q = A
      · subst hz
        have hj : ¬ j < 3 := by omega
        have w1 := e1 A _ (zLis_sh C hA)
        obtain ⟨l1, c1, n1⟩ := sh_cel w1
        obtain ⟨l2, c2, n2⟩ := sh_cel (zLis_sh C hA)
        rw [fld_of c1, fld_of c2, List.getD_eq_getElem?_getD, List.getElem?_eq_none (by omega), List.getD_eq_getElem?_getD, List.getElem?_eq_none (by omega)]
      · rw [e2 q (by omega) hz (by omega)]
    · have hk25 : k ≠ 25 := by
        intro hz
        subst hz
        cases k3
      rw [e2 q (sh_pos k2).2 (by omega) (hd25 q k m k2 hk25)]
    · rw [e2 q (sh_pos k2).2 (by omega) (hd25 q k m k2 k3)]
    · obtain ⟨m, hm⟩ := (C.2.2.1 B hB).d25 ha
      have hBA : B ≠ A := fun hz => hne _ List.mem_cons_self ⟨Nat.le_of_eq hz.symm, Nat.le_of_eq hz⟩
      have hp := (sh_pos hm).2
      rw [e2 (fld h B 1) hp (by omega) (fun hz => ?_)]
      rcases hdd with hdd | hdd
      · exact C.2.2.2.1 B hB A hA hBA ha (hz.trans hdd)
      · omega
  refine ⟨⟨I, fun q k m j k1 k2 k3 => ?_, fun B hB => ?_, fun B hB B' hB' hne ha => ?_, fun i hi => ?_⟩, R⟩
  · have hk25 : k ≠ 25 := by
      intro hz
      subst hz
      cases k3
    obtain ⟨w1, w2⟩ := e6 q k m k1 k2 hk25
    rw [e2 q w1 (by omega) (hd25 q k m w2 hk25)]
    exact C.2.1 q k m j k1 w2 k3
  · by_cases hz : B = A
    · subst hz
      refine Or.inr ⟨by rw [e3.2.1]; exact hd.1, n, by rw [e3.2.1]; exact hn, by rw [e3.2.2]; omega, by omega, hn2.2, fun i hi => ?_⟩
      rw [e3.2.2] at hi
      rw [e3.2.1]
      by_cases hi2 : (i : Int) < s
      · rw [e4 i hi2]
        rcases C.2.2.1 B hA with ⟨a, b⟩ | ⟨a, n', b, c', c0, d', f⟩
        · omega
        · exact (f i (by omega)).x R
      · rw [show i = s.toNat by omega, e5]
        exact G.x R
    · have hqB := zLis_36 hB
      have w := e2 (B : Int) (by omega) (by omega) (by omega)
      refine (C.2.2.1 B hB).kp R (by rw [w]) (by rw [w]) (fun ha => ?_)
      obtain ⟨m, hm'⟩ := (C.2.2.1 B hB).d25 ha
      have hle := (sh_pos hm').2
      refine e2 _ hle (by omega) ?_
      intro hz2
      rcases hdd with hdd | hdd
      · exact C.2.2.2.1 B hB A hA hz ha (by rw [hz2]; exact hdd)
      · omega
  · have q1 := zLis_36 hB
    have q2 := zLis_36 hB'
    by_cases z1 : B = A
    · subst z1
      rw [e3.2.1, e2 (B' : Int) (by omega) (by omega) (by omega)]
      intro hz2
      by_cases ha' : 365 < fld h B' 1
      · obtain ⟨m, hm'⟩ := (C.2.2.1 B' hB').d25 ha'
        have hle := (sh_pos hm').2
        rcases hdd with hdd | hdd
        · exact C.2.2.2.1 B' hB' B hB (Ne.symm hne) ha' (by omega)
        · omega
      · omega
    · by_cases z2 : B' = A
      · subst z2
        have w := e2 (B : Int) (by omega) (by omega) (by omega)
        rw [w] at ha
        rw [e3.2.1, w]
        intro hz2
        obtain ⟨m, hm'⟩ := (C.2.2.1 B hB).d25 ha
        have hle := (sh_pos hm').2
        rcases hdd with hdd | hdd
        · exact C.2.2.2.1 B hB B' hB' hne ha (by omega)
        · omega
      · have w1 := e2 (B : Int) (by omega) (by omega) (by omega)
        have w2 := e2 (B' : Int) (by omega) (by omega) (by omega)
        rw [w1] at ha
        rw [w1, w2]
        exact C.2.2.2.1 B hB B' hB' hne ha
  · have w := e2 15 (by omega) (by omega) (by omega)
    rw [w]
    exact (C.2.2.2.2 i hi).imp id (fun z => z.x R)
end ZL
end
section
/-! lists: get, add, clear, over the mini machine's code -/
section ZA
variable {sc : List Int} {D D' y pc nx : Nat} {ls st st' : List Vl} {h h' h1 h2 g : Hp} {Q : Option Vl → Hp → Prop}
theorem zwW_copy {rs rd sp dp n : Int} {ks kd : Nat} {lsrc ld : List Int} (e : zwat y pc 47 nx 0 0 = true) (hs : cel h rs = some (ks, lsrc)) (hd : cel h rd = some (kd, ld)) (hk : (ks = 20 ∧ kd = 20) ∨ (ks = 25 ∧ kd = 25 ∧ oneK h lsrc sp.toNat n.toNat = true)) (hw : Nat.ble (wds st) 8 = true) (h1 : 0 ≤ n ∧ 0 ≤ dp ∧ 0 ≤ sp ∧ sp + n ≤ lsrc.length ∧ dp + n ≤ ld.length)
    (k : zwW sc D y nx ls st (h.set (rd.toNat - 1) (kd, cpyL lsrc ld sp.toNat dp.toNat n.toNat)) Q) : zwW sc D y pc ls ((0, n) :: (0, dp) :: (2, rd) :: (0, sp) :: (2, rs) :: st) h Q := by
  refine zwW_w1 e (by decide) (by decide) (show (match cel h rs, cel h rd with
      | some (ks, ls), some (kd, ld) => if ((ks = 20 ∧ kd = 20) ∨ (ks = 25 ∧ kd = 25 ∧ oneK h ls sp.toNat n.toNat = true)) ∧ wds st ≤ 8 ∧ 0 ≤ n ∧ 0 ≤ dp ∧ 0 ≤ sp ∧ sp + n ≤ ls.length ∧ dp + n ≤ ld.length then
          some (h.set (rd.toNat - 1) (kd, cpyL ls ld sp.toNat dp.toNat n.toNat), st) else none
      | _, _ => none) = _ from ?_) k
  rw [hs, hd]
  dsimp only
  rw [if_pos ⟨hk, Nat.le_of_ble_eq_true hw, h1⟩]
theorem set_app (l : Hp) (c c' : Nat × List Int) : (l ++ [c]).set l.length c' = l ++ [c'] := by
  rw [List.set_append_right _ _ (Nat.le_refl _), Nat.sub_self]
  rfl
theorem zG_sh {A : Nat} {r : Int} (G : zG A h r) : 365 < r ∧ ∃ k n, k < 14 ∧ sh h r = some (k, n) := by
  unfold zG at G
  split at G
  · exact ⟨G.1, 11, 17, by decide, G.2.1⟩
  · split at G
    · exact ⟨G.1, 4, 19, by decide, G.2.1⟩
    · split at G
      · exact ⟨G.1, 6, 7, by decide, G.2.1⟩
      · split at G
        · exact ⟨G.1, 1, 6, by decide, G.2.1⟩
        · exact ⟨G.1, 10, 3, by decide, G.2.1⟩
/-- the kind of what stands in a list -/
def zKd (A : Nat) : Nat := if A = 2 then 11 else if A = 3 ∨ A = 21 then 4 else if A = 4 ∨ A = 20 then 6 else if A = 5 then 1 else 10
theorem zG_kd {A : Nat} {r : Int} (G : zG A h r) : ∃ n, sh h r = some (zKd A, n) := by
  unfold zG at G
  unfold zKd
  split at G
  · rw [if_pos ‹_›]; exact ⟨17, G.2.1⟩
  · rw [if_neg ‹_›]
    split at G
    · rw [if_pos ‹_›]; exact ⟨19, G.2.1⟩
    · rw [if_neg ‹_›]
      split at G
      · rw [if_pos ‹_›]; exact ⟨7, G.2.1⟩
      · rw [if_neg ‹_›]
        split at G
        · rw [if_pos ‹_›]; exact ⟨6, G.2.1⟩
        · rw [if_neg ‹_›]; exact ⟨3, G.2.1⟩
theorem zKd_lt (A : Nat) : zKd A < 14 := by
  unfold zKd
  split
  · decide
  · split
    · decide
    · split
      · decide
      · split <;> decide
theorem kept25 {r : Int} {k n : Nat} (hr : 365 < r) (hk : k < 14) (s : sh h r = some (k, n)) : kept h 25 (2, r) = some r := by
  obtain ⟨l, hc, -⟩ := sh_cel s
  show (if (2 : Nat) = 2 then (if r = 0 then some 0 else match cel h r with
    | some (k, _) => if k < 14 then some r else none
    | none => none) else none) = some r
  rw [if_pos rfl, if_neg (by omega), hc]
  dsimp only
  rw [if_pos hk]
/-- the size of a list -/
theorem x96 (C : CI h) {A : Nat} (hA : A ∈ zLis) : zwC sc 1 96 [(2, (A : Int))] h (zwRt 0 (fun x g => h = g ∧ x = fld h A 2)) := by
  refine zwC_of (D := 0) 1 (by decide +kernel) rfl (ls := [(2, (A : Int))]) rfl ?_
  refine zwW_p [(1, 0, 2)] (q := 1) (ls' := [(2, (A : Int))]) (st' := [(2, (A : Int))]) (by decide +kernel) rfl ?_
  refine zwW_get (kd := 0) (bn := 2) (t := 0) (n := 3) (nx := 4) (by decide +kernel) (zLis_sh C hA) rfl ?_
  exact zwW_ret (nx := 5) (a := 0) (b := 0) (by decide +kernel) rfl (Or.inl rfl) ⟨rfl, rfl⟩
theorem x205 (C : CI h) {A : Nat} (hA : A ∈ zLis) {i : Int} (hi : 0 ≤ i ∧ i < fld h A 2) : zwC sc 1 205 [(2, (A : Int)), (0, i)] h (zwRt 2 (fun x g => h = g ∧ zG A h x ∧ x = fld h (fld h A 1) i.toNat)) := by
  rcases C.2.2.1 A hA with ⟨a, b⟩ | ⟨a, n, b, c, c0, d, e⟩
  · omega
  · refine zwC_of (D := 0) 2 (by decide +kernel) rfl (ls := [(2, (A : Int)), (0, i)]) rfl ?_
    refine zwW_p [(1, 0, 2)] (q := 1) (ls' := [(2, (A : Int)), (0, i)]) (st' := [(2, (A : Int))]) (by decide +kernel) rfl ?_
    refine zwW_get (kd := 0) (bn := 1) (t := 2) (n := 3) (nx := 4) (by decide +kernel) (zLis_sh C hA) rfl ?_
    refine zwW_p [(1, 1, 0)] (q := 5) (ls' := [(2, (A : Int)), (0, i)]) (st' := [(0, i), (2, fld h A 1)]) (by decide +kernel) rfl ?_
    refine zwW_ald (a := 24) (kd := 25) (n := n) (t := 2) (nx := 6) (by decide +kernel) b rfl hi.1 (by omega) ?_
    refine zwW_ret (nx := 7) (a := 0) (b := 2) (by decide +kernel) rfl (Or.inl rfl) ⟨rfl, ?_, rfl⟩
    exact e i.toNat (by omega)
theorem zmx_le (A : Nat) : zmx A ≤ 300 := by
  unfold zmx
  split
  · decide
  · split
    · decide
    · split
      · decide
      · split <;> decide
theorem x123 (C : CI h) {A : Nat} (hA : A ∈ zLis) {i : Int} (hi : 0 ≤ i ∧ i < fld h A 2) : zwC sc 4 123 [(2, (A : Int)), (0, i)] h (zwRt 2 (fun x g => h = g ∧ zG A h x ∧ x = fld h (fld h A 1) i.toNat)) := by
  have hb := zLis_b C hA
  have hz := zmx_le A
  refine zwC_of (D := 3) 2 (by decide +kernel) rfl (ls := [(2, (A : Int)), (0, i)]) rfl ?_
  refine zwW_p [(1, 1, 0), (1, 0, 2)] (q := 2) (ls' := [(2, (A : Int)), (0, i)]) (st' := [(2, (A : Int)), (0, i)]) (by decide +kernel) rfl ?_
  refine zwW_get (kd := 0) (bn := 2) (t := 0) (n := 3) (nx := 5) (by decide +kernel) (zLis_sh C hA) rfl ?_
  refine zwW_cs (k' := 204) (n := 2) (nx := 8) (as := [(0, i), (0, fld h A 2)]) (st' := []) (by decide +kernel) rfl (m204 h i (fld h A 2) (by omega) (by omega) (by omega)) rfl ?_
  rintro x _ ⟨rfl, f1, f2⟩
  refine zwW_p [(15, 0, 0), (1, 0, 2), (1, 1, 0)] (q := 11) (ls' := [(2, (A : Int)), (0, i)]) (st' := [(0, i), (2, (A : Int))]) (by decide +kernel) rfl ?_
  refine zwW_cv (op := 60) (k' := 205) (n := 1) (kd := 0) (m := 3) (nx := 14) (r := (A : Int)) (tl := [(0, i)]) (st' := []) (by decide +kernel) rfl (by decide +kernel) (zLis_sh C hA) (x205 C hA hi) rfl ?_
  rintro x _ ⟨rfl, f3⟩
  exact zwW_ret (nx := 15) (a := 0) (b := 2) (by decide +kernel) rfl (Or.inl rfl) ⟨rfl, f3⟩
/-- copies of a list's array -/
theorem oneK_to {l : List Int} {n K : Nat} (hK : K < 14) (H : ∀ i, i < n → ∃ m, sh h (l.getD i 0) = some (K, m)) : oneK h l 0 n = true := by
  unfold oneK
  rw [List.any_eq_true]
  refine ⟨K, List.mem_range.mpr hK, ?_⟩
  rw [List.all_eq_true]
  intro i hi
  obtain ⟨m, hm⟩ := H i (List.mem_range.mp hi)
  obtain ⟨l', hc, -⟩ := sh_cel hm
  rw [Nat.zero_add, hc]
  simp
theorem x288 {d n : Int} {m K : Nat} (hs : sh h d = some (25, m)) (hn : (m : Int) ≤ n ∧ n ≤ 1000) (hK : K < 14) (H : ∀ i, i < m → ∃ q, sh h (fld h d i) = some (K, q)) : zwC sc 1 288 [(2, d), (0, n), (2, -4)] h (zwRt 2 (fun x g => x = ((h.length + 1 : Nat) : Int) ∧ ∃ l, g = h ++ [(25, l)] ∧ l.length = n.toNat ∧ ∀ i, i < m → l.getD i 0 = fld h d i)) := by
  obtain ⟨ld, hc, rfl⟩ := sh_cel hs
  have hd := cel_of hc
  refine zwC_of (D := 0) 4 (by decide +kernel) rfl (ls := [(2, d), (0, n), (2, -4), (9, 0)]) rfl ?_
  refine zwW_p [(1, 2, 2)] (q := 1) (ls' := [(2, d), (0, n), (2, -4), (9, 0)]) (st' := [(2, -4)]) (by decide +kernel) rfl ?_
  refine zwW_ldcl (nx := 3) (by decide +kernel) ?_
  refine zwW_acmp (q := 13) (nx := 6) (a := 13) (b := 1) (by decide +kernel) rfl (Or.inr ⟨rfl, rfl⟩) (fun hq => absurd rfl hq) (fun _ => ?_)
  refine zwW_p [(1, 1, 0)] (q := 7) (ls' := [(2, d), (0, n), (2, -4), (9, 0)]) (st' := [(0, n)]) (by decide +kernel) rfl ?_
  refine zwW_newa (op := 44) (kd := 25) (a := 25) (nx := 10) (by decide +kernel) (Or.inr rfl) rfl (by omega) (by omega) ?_
  rintro _ r rfl rfl
  have hcd : cel (h ++ [(25, List.replicate n.toNat 0)]) d = some (25, ld) := by rw [cel_app _ d hd.2.2]; exact hc
  refine zwW_p [(24, 24, 0), (2, 3, 2), (1, 0, 2), (0, 0, 0), (1, 3, 2), (0, 0, 0), (1, 0, 2)] (q := 30) (ls' := [(2, d), (0, n), (2, -4), (2, ((h.length + 1 : Nat) : Int))]) (st' := [(2, d), (0, 0), (2, ((h.length + 1 : Nat) : Int)), (0, 0), (2, d)]) (by decide +kernel) rfl ?_
  refine zwW_len (nx := 31) (by decide +kernel) (sh_of hcd) rfl ?_
  refine zwW_p [(1, 1, 0)] (q := 32) (ls' := [(2, d), (0, n), (2, -4), (2, ((h.length + 1 : Nat) : Int))]) (st' := [(0, n), (0, (ld.length : Int)), (0, 0), (2, ((h.length + 1 : Nat) : Int)), (0, 0), (2, d)]) (by decide +kernel) rfl ?_
  refine zwW_min (nx := 35) (by decide +kernel) rfl ?_
  intro z ez
  have hz : z = (ld.length : Int) := by omega
  subst hz
  have hcx : cel (h ++ [(25, List.replicate n.toNat 0)]) ((h.length + 1 : Nat) : Int) = some (25, List.replicate n.toNat 0) := cel_new _
  refine zwW_copy (nx := 38) (by decide +kernel) hcd hcx (Or.inr ⟨rfl, rfl, ?_⟩) rfl ⟨by omega, by omega, by omega, by omega, by rw [List.length_replicate]; omega⟩ ?_
  · refine oneK_to (K := K) hK (fun i hi => ?_)
    obtain ⟨q, hq⟩ := H i (by omega)
    rw [fld_of hc] at hq
    exact ⟨q, zOld.sp (zOld.app _) hq⟩
  · rw [show (((h.length + 1 : Nat) : Int)).toNat - 1 = h.length by omega, set_app]
    refine zwW_p [(1, 3, 2)] (q := 39) (ls' := [(2, d), (0, n), (2, -4), (2, ((h.length + 1 : Nat) : Int))]) (st' := [(2, ((h.length + 1 : Nat) : Int))]) (by decide +kernel) rfl ?_
    refine zwW_ret (nx := 40) (a := 0) (b := 2) (by decide +kernel) rfl (Or.inl rfl) ⟨rfl, _, rfl, ?_, fun i hi => ?_⟩
    · rw [cpyL_len (by simp) (by rw [List.length_replicate]; simp; omega), List.length_replicate]
    · rw [List.getD_eq_getElem?_getD, cpyL_at (by simp) (by rw [List.length_replicate]; simp; omega), if_pos ⟨Nat.zero_le _, by simp; omega⟩, fld_of hc, List.getD_eq_getElem?_getD]
      simp
theorem x275 {d n : Int} {m K : Nat} (hs : sh h d = some (25, m)) (hn : (m : Int) ≤ n ∧ n ≤ 1000) (hK : K < 14) (H : ∀ i, i < m → ∃ q, sh h (fld h d i) = some (K, q)) : zwC sc 2 275 [(2, d), (0, n)] h (zwRt 2 (fun x g => x = ((h.length + 1 : Nat) : Int) ∧ ∃ l, g = h ++ [(25, l)] ∧ l.length = n.toNat ∧ ∀ i, i < m → l.getD i 0 = fld h d i)) := by
  refine zwC_of (D := 1) 2 (by decide +kernel) rfl (ls := [(2, d), (0, n)]) rfl ?_
  refine zwW_p [(1, 0, 2), (1, 1, 0), (1, 0, 2)] (q := 3) (ls' := [(2, d), (0, n)]) (st' := [(2, d), (0, n), (2, d)]) (by decide +kernel) rfl ?_
  refine zwW_gcls (nx := 6) (by decide +kernel) hs rfl ?_
  refine zwW_cs (k' := 288) (n := 3) (nx := 9) (as := [(2, d), (0, n), (2, -4)]) (st' := []) (by decide +kernel) rfl (x288 hs hn hK H) rfl ?_
  rintro x g hq
  exact zwW_ret (nx := 10) (a := 0) (b := 2) (by decide +kernel) rfl (Or.inl rfl) hq
/-- a list full (or empty) gets a larger array -/
def zGrown (h : Hp) (A : Nat) (x : Int) (g : Hp) : Prop := x = ((h.length + 1 : Nat) : Int) ∧ ∃ l : List Int, g = wr (h ++ [(25, l)]) A 1 x ∧ fld h A 2 + 1 ≤ l.length ∧ l.length ≤ 600 ∧ ∀ i : Nat, (i : Int) < fld h A 2 → l.getD i 0 = fld h (fld h A 1) i
theorem x257 (C : CI h) {A : Nat} (hA : A ∈ zLis) (hf : (fld h A 2 = 0 ∧ fld h A 1 = -2) ∨ (∃ n : Nat, sh h (fld h A 1) = some (25, n) ∧ fld h A 2 = n ∧ 0 < n ∧ ∀ i, i < n → ∃ q, sh h (fld h (fld h A 1) i) = some (zKd A, q))) (hl : h.length ≤ 2000000000) : zwC sc 3 257 [(2, (A : Int)), (0, fld h A 2 + 1)] h (zwRt 2 (zGrown h A)) := by
  have hb := zLis_b C hA
  have hz := zmx_le A
  have hs := zLis_sh C hA
  refine zwC_of (D := 2) 4 (by decide +kernel) rfl (ls := [(2, (A : Int)), (0, fld h A 2 + 1), (9, 0), (9, 0)]) rfl ?_
  refine zwW_p [(1, 0, 2)] (q := 1) (ls' := [(2, (A : Int)), (0, fld h A 2 + 1), (9, 0), (9, 0)]) (st' := [(2, (A : Int))]) (by decide +kernel) rfl ?_
  refine zwW_get (kd := 0) (bn := 1) (t := 2) (n := 3) (nx := 4) (by decide +kernel) hs rfl ?_
  rcases hf with ⟨e2, e1⟩ | ⟨n, hn, e2, hn0, hall⟩
  · rw [e1]
    refine zwW_elen (nx := 5) (by decide +kernel) ?_
    refine zwW_p [(2, 2, 0), (1, 2, 0)] (q := 7) (ls' := [(2, (A : Int)), (0, fld h A 2 + 1), (0, 0), (9, 0)]) (st' := [(0, 0)]) (by decide +kernel) rfl ?_
    refine zwif_gt (q := 20) (nx := 10) (by decide +kernel) (fun c => by omega) (fun c => ?_)
    refine zwW_p [(1, 0, 2)] (q := 11) (ls' := [(2, (A : Int)), (0, fld h A 2 + 1), (0, 0), (9, 0)]) (st' := [(2, (A : Int))]) (by decide +kernel) rfl ?_
    refine zwW_get (kd := 0) (bn := 1) (t := 2) (n := 3) (nx := 14) (by decide +kernel) hs rfl ?_
    rw [e1]
    refine zwW_p [(0, -2, 2)] (q := 17) (ls' := [(2, (A : Int)), (0, fld h A 2 + 1), (0, 0), (9, 0)]) (st' := [(2, -2), (2, -2)]) (by decide +kernel) rfl ?_
    refine zwac_eq (q := 45) (nx := 20) (by decide +kernel) (by decide) (fun _ => ?_) (fun hq => absurd rfl hq)
    refine zwW_p [(1, 0, 2), (0, 10, 0), (1, 1, 0)] (q := 49) (ls' := [(2, (A : Int)), (0, fld h A 2 + 1), (0, 0), (9, 0)]) (st' := [(0, fld h A 2 + 1), (0, 10), (2, (A : Int))]) (by decide +kernel) rfl ?_
    refine zwW_max (nx := 52) (by decide +kernel) rfl ?_
    intro z ez
    refine zwW_newa (op := 44) (kd := 25) (a := 25) (nx := 55) (by decide +kernel) (Or.inr rfl) rfl (by omega) (by omega) ?_
    rintro _ r rfl rfl
    refine zwW_p [(13, 0, 0)] (q := 56) (ls' := [(2, (A : Int)), (0, fld h A 2 + 1), (0, 0), (9, 0)]) (st' := [(2, ((h.length + 1 : Nat) : Int)), (2, (A : Int)), (2, ((h.length + 1 : Nat) : Int))]) (by decide +kernel) rfl ?_
    refine zwW_put (kd := 0) (bn := 1) (t := 2) (n := 3) (nx := 59) (by decide +kernel) (zOld.sp (zOld.app _) hs) rfl rfl ?_
    rintro g eg
    refine zwW_ret (nx := 60) (a := 0) (b := 2) (by decide +kernel) rfl (Or.inl rfl) ⟨rfl, _, eg, ?_, ?_, fun i hi => by omega⟩
    · rw [List.length_replicate]; omega
    · rw [List.length_replicate]; omega
  · refine zwW_len (nx := 5) (by decide +kernel) hn rfl ?_
    refine zwW_p [(2, 2, 0), (1, 2, 0)] (q := 7) (ls' := [(2, (A : Int)), (0, fld h A 2 + 1), (0, (n : Int)), (9, 0)]) (st' := [(0, (n : Int))]) (by decide +kernel) rfl ?_
    refine zwif_gt (q := 20) (nx := 10) (by decide +kernel) (fun c => ?_) (fun c => by omega)
    refine zwW_p [(1, 2, 0), (1, 1, 0), (1, 2, 0)] (q := 23) (ls' := [(2, (A : Int)), (0, fld h A 2 + 1), (0, (n : Int)), (9, 0)]) (st' := [(0, (n : Int)), (0, fld h A 2 + 1), (0, (n : Int))]) (by decide +kernel) rfl ?_
    refine zwW_sub (nx := 24) (by decide +kernel) (by omega) ?_
    refine zwW_p [(1, 2, 0), (0, 1, 0)] (q := 26) (ls' := [(2, (A : Int)), (0, fld h A 2 + 1), (0, (n : Int)), (9, 0)]) (st' := [(0, 1), (0, (n : Int)), (0, fld h A 2 + 1 - n), (0, (n : Int))]) (by decide +kernel) rfl ?_
    refine zwW_ib (a := 9) (nx := 27) (z := (n : Int) / 2) (by decide +kernel) rfl ?_
    refine zwW_cs (k' := 274) (n := 3) (nx := 30) (as := [(0, (n : Int)), (0, fld h A 2 + 1 - n), (0, (n : Int) / 2)]) (st' := []) (by decide +kernel) rfl (m274 h n (fld h A 2 + 1 - n) (n / 2) (by omega) (by omega) (by omega)) rfl ?_
    rintro x _ ⟨rfl, f1, f2⟩
    refine zwW_p [(2, 3, 0), (1, 0, 2), (1, 0, 2)] (q := 33) (ls' := [(2, (A : Int)), (0, fld h A 2 + 1), (0, (n : Int)), (0, x)]) (st' := [(2, (A : Int)), (2, (A : Int))]) (by decide +kernel) rfl ?_
    refine zwW_get (kd := 0) (bn := 1) (t := 2) (n := 3) (nx := 36) (by decide +kernel) hs rfl ?_
    refine zwW_p [(1, 3, 0)] (q := 37) (ls' := [(2, (A : Int)), (0, fld h A 2 + 1), (0, (n : Int)), (0, x)]) (st' := [(0, x), (2, fld h A 1), (2, (A : Int))]) (by decide +kernel) rfl ?_
    refine zwW_cs (k' := 275) (n := 2) (nx := 40) (as := [(2, fld h A 1), (0, x)]) (st' := [(2, (A : Int))]) (by decide +kernel) rfl (x275 hn (by omega) (zKd_lt A) hall) rfl ?_
    rintro r g ⟨hr, l, rfl, hl1, hl2⟩
    subst hr
    refine zwW_p [(13, 0, 0)] (q := 41) (ls' := [(2, (A : Int)), (0, fld h A 2 + 1), (0, (n : Int)), (0, x)]) (st' := [(2, ((h.length + 1 : Nat) : Int)), (2, (A : Int)), (2, ((h.length + 1 : Nat) : Int))]) (by decide +kernel) rfl ?_
    refine zwW_put (kd := 0) (bn := 1) (t := 2) (n := 3) (nx := 44) (by decide +kernel) (zOld.sp (zOld.app _) hs) rfl rfl ?_
    rintro g eg
    exact zwW_ret (nx := 45) (a := 0) (b := 2) (by decide +kernel) rfl (Or.inl rfl) ⟨rfl, l, eg, by omega, by omega, fun i hi => hl2 i (by omega)⟩
theorem x228 (C : CI h) {A : Nat} (hA : A ∈ zLis) (hf : (fld h A 2 = 0 ∧ fld h A 1 = -2) ∨ (∃ n : Nat, sh h (fld h A 1) = some (25, n) ∧ fld h A 2 = n ∧ 0 < n ∧ ∀ i, i < n → ∃ q, sh h (fld h (fld h A 1) i) = some (zKd A, q))) (hl : h.length ≤ 2000000000) : zwC sc 4 228 [(2, (A : Int))] h (zwRt 2 (zGrown h A)) := by
  have hb := zLis_b C hA
  have hz := zmx_le A
  have hs := zLis_sh C hA
  refine zwC_of (D := 3) 1 (by decide +kernel) rfl (ls := [(2, (A : Int))]) rfl ?_
  refine zwW_p [(1, 0, 2), (1, 0, 2)] (q := 2) (ls' := [(2, (A : Int))]) (st' := [(2, (A : Int)), (2, (A : Int))]) (by decide +kernel) rfl ?_
  refine zwW_get (kd := 0) (bn := 2) (t := 0) (n := 3) (nx := 5) (by decide +kernel) hs rfl ?_
  refine zwW_p [(0, 1, 0)] (q := 6) (ls' := [(2, (A : Int))]) (st' := [(0, 1), (0, fld h A 2), (2, (A : Int))]) (by decide +kernel) rfl ?_
  refine zwW_add (nx := 7) (by decide +kernel) (by omega) ?_
  refine zwW_cv (op := 60) (k' := 257) (n := 1) (kd := 0) (m := 3) (nx := 10) (r := (A : Int)) (tl := [(0, fld h A 2 + 1)]) (st' := []) (by decide +kernel) rfl (by decide +kernel) hs (x257 C hA hf hl) rfl ?_
  rintro x g hq
  exact zwW_ret (nx := 11) (a := 0) (b := 2) (by decide +kernel) rfl (Or.inl rfl) hq
end ZA
end
section
/-! lists: add and clear -/
section ZD
variable {sc : List Int} {D D' y pc nx : Nat} {ls st st' : List Vl} {h h' h1 h2 g : Hp} {Q : Option Vl → Hp → Prop}
theorem zLis_m (C : CI h) {A : Nat} (hA : A ∈ zLis) : -2147483648 ≤ fld h (A : Int) 0 ∧ fld h (A : Int) 0 ≤ 2147483647 := by
  unfold zLis at hA
  simp only [List.mem_cons, List.not_mem_nil, or_false] at hA
  rcases hA with rfl | rfl | rfl | rfl | rfl | rfl | rfl
  · exact C.1.b (a1 := 2) (a2 := 2) (j1 := 0) (j2 := 1) (lo := -2147483648) (hi := 2147483647) (by decide +kernel) (by decide) (by decide) (by decide) (by decide)
  · exact C.1.b (a1 := 3) (a2 := 3) (j1 := 0) (j2 := 1) (lo := -2147483648) (hi := 2147483647) (by decide +kernel) (by decide) (by decide) (by decide) (by decide)
  · exact C.1.b (a1 := 4) (a2 := 4) (j1 := 0) (j2 := 1) (lo := -2147483648) (hi := 2147483647) (by decide +kernel) (by decide) (by decide) (by decide) (by decide)
  · exact C.1.b (a1 := 5) (a2 := 5) (j1 := 0) (j2 := 1) (lo := -2147483648) (hi := 2147483647) (by decide +kernel) (by decide) (by decide) (by decide) (by decide)
  · exact C.1.b (a1 := 14) (a2 := 14) (j1 := 0) (j2 := 1) (lo := -2147483648) (hi := 2147483647) (by decide +kernel) (by decide) (by decide) (by decide) (by decide)
  · exact C.1.b (a1 := 20) (a2 := 20) (j1 := 0) (j2 := 1) (lo := -2147483648) (hi := 2147483647) (by decide +kernel) (by decide) (by decide) (by decide) (by decide)
  · exact C.1.b (a1 := 21) (a2 := 21) (j1 := 0) (j2 := 1) (lo := -2147483648) (hi := 2147483647) (by decide +kernel) (by decide) (by decide) (by decide) (by decide)
def zcc (A : Nat) : Int := if A = 4 then -1 else if A = 21 then 0 else 1
def zss (A : Nat) : Int := if A = 4 then -7 else if A = 21 then 0 else 1000
theorem zcc_ok {A : Nat} (e1 : fld g A 2 = fld h A 2 + 1) (e2 : ∀ q : Int, q = 4 ∨ q = 21 → q ≠ A → fld g q 2 = fld h q 2) (hl : g.length ≤ h.length + 1) (hz : sz g ≤ sz h + 600) :
    (g.length : Int) - (2 * fld g 4 2 + fld g 21 2) ≤ h.length - (2 * fld h 4 2 + fld h 21 2) + zcc A ∧ (sz g : Int) - (1007 * fld g 4 2 + 1000 * fld g 21 2) ≤ sz h - (1007 * fld h 4 2 + 1000 * fld h 21 2) + zss A := by
  unfold zcc zss
  by_cases a : A = 4
  · subst a
    have f := e2 21 (Or.inr rfl) (by decide)
    have e1 : fld g 4 2 = fld h 4 2 + 1 := e1
    rw [if_pos rfl, if_pos rfl, f, e1]
    omega
  · rw [if_neg a, if_neg a]
    have f := e2 4 (Or.inl rfl) (by omega)
    by_cases b : A = 21
    · subst b
      have e1 : fld g 21 2 = fld h 21 2 + 1 := e1
      rw [if_pos rfl, if_pos rfl, f, e1]
      omega
    · have f2 := e2 21 (Or.inr rfl) (by omega)
      rw [if_neg b, if_neg b, f, f2]
      omega
/-- one more in a list -/
def zAdded (h : Hp) (A : Nat) (r : Int) (g : Hp) : Prop := CI g ∧ zXR [(A, A, 0, 3)] (zcc A) (zss A) h g ∧ fld g A 2 = fld h A 2 + 1 ∧ (∀ i : Nat, (i : Int) < fld h A 2 → fld g (fld g A 1) i = fld h (fld h A 1) i) ∧ fld g (fld g A 1) (fld h A 2).toNat = r ∧ ∀ q : Int, q ≤ h.length → q ≠ A → q ≠ fld h A 1 → fld g q = fld h q
/-- the heap before the last two writes of add -/
def zPre (h : Hp) (A : Nat) (d : Int) (n : Nat) (g : Hp) : Prop :=
  (∀ q z, sh h q = some z → sh g q = some z) ∧ (∀ q : Int, q ≤ h.length → q ≠ A → fld g q = fld h q) ∧ (fld g A 0 = fld h A 0 ∧ fld g A 1 = d ∧ fld g A 2 = fld h A 2) ∧ (365 < d ∧ d ≤ 2147483647) ∧ sh g d = some (25, n) ∧ (fld h A 2 + 1 ≤ n ∧ n ≤ 600) ∧ (d = fld h A 1 ∨ (h.length : Int) < d) ∧ (∀ i : Nat, (i : Int) < fld h A 2 → fld g d i = fld h (fld h A 1) i) ∧
  (∀ (q : Int) (k m : Nat), 365 < q → sh g q = some (k, m) → k ≠ 25 → q ≤ h.length ∧ sh h q = some (k, m)) ∧ zI g ∧ (h.length ≤ g.length ∧ g.length ≤ h.length + 1) ∧ sz g ≤ sz h + 600
theorem zAdd_fin {A : Nat} {d r : Int} {n : Nat} (C : CI h) (hA : A ∈ zLis) (G : zG A h r) (hm : fld h A 2 < zmx A) (p : zPre h A d n h1) (e : g = wr (wr h1 d (fld h A 2).toNat r) A 2 (fld h A 2 + 1)) : zAdded h A r g := by
  obtain ⟨p1, p2, ⟨p3, p4, p5⟩, hd, hn, hn2, hdd, p6, p7, I, hl, hz⟩ := p
  have hq := zLis_36 hA
  have hb := zLis_b C hA
  have hne : (A : Int) ≠ d := by omega
  have hne2 : d ≠ (A : Int) := by omega
  have s1 : sh h1 (A : Int) = some (0, 3) := p1 _ _ (zLis_sh C hA)
  have w0 : fld g A 0 = fld h A 0 := by rw [e, fld_wr (Or.inr (by decide)), fld_wr (Or.inl hne), p3]
  have w1 : fld g A 1 = d := by rw [e, fld_wr (Or.inr (by decide)), fld_wr (Or.inl hne), p4]
  have w2 : fld g A 2 = fld h A 2 + 1 := by rw [e]; exact fld_wr_eq (by rw [sh_wr]; exact s1) (by decide)
  have w3 : ∀ i : Nat, (i : Int) < fld h A 2 → fld g d i = fld h (fld h A 1) i := fun i hi => by rw [e, fld_wr (Or.inl hne2), fld_wr (Or.inr (by omega))]; exact p6 i hi
  have w4 : fld g d (fld h A 2).toNat = r := by rw [e, fld_wr (Or.inl hne2)]; exact fld_wr_eq hn (by omega)
  have w5 : ∀ q : Int, q ≤ h.length → q ≠ A → q ≠ d → fld g q = fld h q := fun q k1 k2 k3 => by
    rw [← p2 q k1 k2, e]
    funext j
    rw [fld_wr (Or.inl k2), fld_wr (Or.inl k3)]
  have l1 : g.length = h1.length := by rw [e, len_wr, len_wr]
  have l2 : sz g = sz h1 := by rw [e, sz_wr, sz_wr]
  have hlen := C.len
  have cc := zcc_ok (h := h) (g := g) (A := A) w2 (fun q k1 k2 => congrFun (w5 q (by omega) k2 (by omega)) 2) (by omega) (by omega)
  have Ig : zI g := by
    rw [e]
    refine zI.wl (I.far (fun q k1 k2 => by rw [sh_wr]) (fun q j k1 k2 => fld_wr (Or.inl (by omega)))) hA (by decide) (by have := zmx_le A; omega) (by omega) (by omega)
  obtain ⟨Cg, R⟩ := CI.add (g := g) (d := d) (n := n) (r := r) C hA G rfl hm (fun q z hs => by rw [e, sh_wr, sh_wr]; exact p1 q z hs) (by omega) w5 ⟨w0, w1, w2⟩ hd (by rw [e, sh_wr, sh_wr]; exact hn) hn2 hdd w3 w4 (fun q k m k1 k2 k3 => by rw [e, sh_wr, sh_wr] at k2; exact p7 q k m k1 k2 k3) Ig cc.1 cc.2
  refine ⟨Cg, R, w2, by rw [w1]; exact w3, by rw [w1]; exact w4, fun q k1 k2 k3 => w5 q k1 k2 ?_⟩
  omega
theorem x181t {A : Nat} {d r : Int} {n : Nat} (C : CI h) (hA : A ∈ zLis) (G : zG A h r) (hm : fld h A 2 < zmx A) (p : zPre h A d n h1) : zwW sc 4 181 11 [(2, (A : Int)), (2, r), (2, d), (0, fld h A 2)] [] h1 (zwRv (zAdded h A r)) := by
  have hb := zLis_b C hA
  have hz := zmx_le A
  obtain ⟨hr, k, m, hk, hs⟩ := zG_sh G
  refine zwW_p [(1, 2, 2), (1, 3, 0), (1, 1, 2)] (q := 14) (ls' := [(2, (A : Int)), (2, r), (2, d), (0, fld h A 2)]) (st' := [(2, r), (0, fld h A 2), (2, d)]) (by decide +kernel) rfl ?_
  refine zwW_ast (a := 24) (kd := 25) (n := n) (nx := 15) (by decide +kernel) p.2.2.2.2.1 rfl hb.1 (by have := p.2.2.2.2.2.1; omega) (kept25 hr hk (p.1 _ _ hs)) ?_
  rintro g1 e1
  refine zwW_p [(1, 0, 2), (1, 3, 0), (0, 1, 0)] (q := 18) (ls' := [(2, (A : Int)), (2, r), (2, d), (0, fld h A 2)]) (st' := [(0, 1), (0, fld h A 2), (2, (A : Int))]) (by decide +kernel) rfl ?_
  refine zwW_add (nx := 19) (by decide +kernel) (by omega) ?_
  refine zwW_put (kd := 0) (bn := 2) (t := 0) (n := 3) (nx := 22) (by decide +kernel) (by rw [e1, sh_wr]; exact p.1 _ _ (zLis_sh C hA)) rfl rfl ?_
  rintro g2 e2
  exact zwW_retv (nx := 23) (a := 0) (b := 0) (by decide +kernel) (zAdd_fin C hA G hm p (by rw [e2, e1]))
theorem zGrown.pre {A : Nat} {x : Int} (C : CI h) (hA : A ∈ zLis) (hl : h.length ≤ 2000000000) (p : zGrown h A x g) : ∃ n, zPre h A x n g := by
  obtain ⟨hx, l, e, a, b, c⟩ := p
  have hq := zLis_36 hA
  have hlen := C.len
  have hO : zOld h (h ++ [(25, l)]) := zOld.app _
  have s0 := hO.sp (zLis_sh C hA)
  have hne : x ≠ (A : Int) := by omega
  refine ⟨l.length, fun q z hs => by rw [e, sh_wr]; exact hO.sp hs, fun q k1 k2 => ?_, ⟨?_, ?_, ?_⟩, by omega, ?_, ⟨a, b⟩, Or.inr (by omega), fun i hi => ?_, fun q k m k1 k2 k3 => ?_, ?_, ?_, ?_⟩
  · funext j
    rw [e, fld_wr (Or.inl k2), hO.fl k1]
  · rw [e, fld_wr (Or.inr (by decide)), hO.fl (by omega)]
  · rw [e]; exact fld_wr_eq s0 (by decide)
  · rw [e, fld_wr (Or.inr (by decide)), hO.fl (by omega)]
  · rw [e, sh_wr, hx]; exact sh_new 25 l
  · rw [e, fld_wr (Or.inl hne), hx, fld_new]; exact c i hi
  · rw [e, sh_wr] at k2
    by_cases hle : q ≤ h.length
    · refine ⟨hle, ?_⟩
      unfold sh at k2 ⊢
      rw [cel_app _ q hle] at k2
      exact k2
    · have := (sh_pos k2).2
      rw [List.length_append, List.length_singleton] at this
      obtain rfl : q = ((h.length + 1 : Nat) : Int) := by omega
      rw [sh_new] at k2
      cases k2
      exact absurd rfl k3
  · rw [e]
    refine zI.wl (C.1.far (fun q k1 k2 => ?_) (fun q j k1 k2 => congrFun (hO.fl (by omega)) j)) hA (by decide) (by omega) (by omega) (by omega)
    unfold sh
    rw [cel_app _ q (by omega)]
  · rw [e, len_wr, List.length_append, List.length_singleton]; omega
  · rw [e, sz_wr, sz_app]; show sz h + sz [(25, l)] ≤ _; unfold sz; simp; omega
theorem x181 {A : Nat} {r : Int} (C : CI h) (hA : A ∈ zLis) (G : zG A h r) (hm : fld h A 2 < zmx A) (hl : h.length ≤ 2000000000) : zwC sc 5 181 [(2, (A : Int)), (2, r), (2, fld h A 1), (0, fld h A 2)] h (zwRv (zAdded h A r)) := by
  have hb := zLis_b C hA
  have hz := zmx_le A
  have hs := zLis_sh C hA
  have hq := zLis_36 hA
  refine zwC_of (D := 4) 4 (by decide +kernel) rfl (ls := [(2, (A : Int)), (2, r), (2, fld h A 1), (0, fld h A 2)]) rfl ?_
  refine zwW_p [(1, 3, 0), (1, 2, 2)] (q := 2) (ls' := [(2, (A : Int)), (2, r), (2, fld h A 1), (0, fld h A 2)]) (st' := [(2, fld h A 1), (0, fld h A 2)]) (by decide +kernel) rfl ?_
  have grow : ((fld h A 2 = 0 ∧ fld h A 1 = -2) ∨ (∃ n : Nat, sh h (fld h A 1) = some (25, n) ∧ fld h A 2 = n ∧ 0 < n ∧ ∀ i, i < n → ∃ q, sh h (fld h (fld h A 1) i) = some (zKd A, q))) → zwW sc 4 181 6 [(2, (A : Int)), (2, r), (2, fld h A 1), (0, fld h A 2)] [] h (zwRv (zAdded h A r)) := by
    intro hf
    refine zwW_p [(1, 0, 2)] (q := 7) (ls' := [(2, (A : Int)), (2, r), (2, fld h A 1), (0, fld h A 2)]) (st' := [(2, (A : Int))]) (by decide +kernel) rfl ?_
    refine zwW_cv (op := 60) (k' := 228) (n := 0) (kd := 0) (m := 3) (nx := 10) (r := (A : Int)) (tl := []) (st' := []) (by decide +kernel) rfl (by decide +kernel) hs (x228 C hA hf hl) rfl ?_
    rintro x g hp
    obtain ⟨n, p⟩ := hp.pre C hA hl
    refine zwW_p [(2, 2, 2)] (q := 11) (ls' := [(2, (A : Int)), (2, r), (2, x), (0, fld h A 2)]) (st' := []) (by decide +kernel) rfl ?_
    exact x181t C hA G hm p
  rcases C.2.2.1 A hA with ⟨a, b⟩ | ⟨a, n, b, c, c0, d, e⟩
  · have grow := grow (Or.inl ⟨a, b⟩)
    rw [b] at grow ⊢
    rw [a] at grow ⊢
    refine zwW_elen (nx := 3) (by decide +kernel) ?_
    exact zwic_ne (q := 11) (nx := 6) (by decide +kernel) (fun c => absurd rfl c) (fun _ => grow)
  · refine zwW_len (nx := 3) (by decide +kernel) b rfl ?_
    refine zwic_ne (q := 11) (nx := 6) (by decide +kernel) (fun cne => ?_) (fun ceq => ?_)
    · have hlt : (n : Int) ≤ 600 := by omega
      have hd := C.1.b (h := h) (r := (A : Int)) (j := 1) (a1 := A) (a2 := A) (j1 := 1) (j2 := 2) (lo := -2) (hi := 2147483647) (by
        have hA' := hA
        unfold zLis at hA'
        simp only [List.mem_cons, List.not_mem_nil, or_false] at hA'
        rcases hA' with rfl | rfl | rfl | rfl | rfl | rfl | rfl <;> decide +kernel) (Int.le_refl _) (Int.le_refl _) (by decide) (by decide)
      refine x181t (n := n) C hA G hm ⟨fun _ _ hz => hz, fun _ _ _ => rfl, ⟨rfl, rfl, rfl⟩, ⟨a, hd.2⟩, b, ⟨by omega, d⟩, Or.inl rfl, fun _ _ => rfl, fun q k m k1 k2 k3 => ⟨(sh_pos k2).2, k2⟩, C.1, ⟨Nat.le_refl _, Nat.le_succ _⟩, Nat.le_add_right _ _⟩
    · refine grow (Or.inr ⟨n, b, by omega, c0, fun i hi => zG_kd (e i (by omega))⟩)
theorem zqI_one (A a b : Nat) : zqI [(A, A, a, b)] [(A, A, a, b)] = true := by
  unfold zqI zqM
  simp
theorem x100 {A : Nat} {r : Int} (C : CI h) (hA : A ∈ zLis) (G : zG A h r) (hm : fld h A 2 < zmx A) (hl : h.length ≤ 2000000000) : zwC sc 6 100 [(2, (A : Int)), (2, r)] h (zwRt 0 (fun x g => x = 1 ∧ zAdded h A r g)) := by
  have hs := zLis_sh C hA
  have hq := zLis_36 hA
  have hmb := zLis_m C hA
  refine zwC_of (D := 5) 2 (by decide +kernel) rfl (ls := [(2, (A : Int)), (2, r)]) rfl ?_
  refine zwW_p [(1, 0, 2), (12, 0, 0)] (q := 2) (ls' := [(2, (A : Int)), (2, r)]) (st' := [(2, (A : Int)), (2, (A : Int))]) (by decide +kernel) rfl ?_
  refine zwW_get (kd := 0) (bn := 0) (t := 0) (n := 3) (nx := 5) (by decide +kernel) hs rfl ?_
  refine zwW_p [(0, 1, 0)] (q := 6) (ls' := [(2, (A : Int)), (2, r)]) (st' := [(0, 1), (0, fld h A 0), (2, (A : Int))]) (by decide +kernel) rfl ?_
  refine zwW_any2 (a := 0) (nx := 7) (by decide +kernel) rfl hmb (Or.inr (by first | decide | exact ⟨by decide, by decide⟩)) ?_
  intro z l1 l2
  refine zwW_put (kd := 0) (bn := 0) (t := 0) (n := 3) (nx := 10) (by decide +kernel) hs rfl rfl ?_
  rintro g e
  have Cg : CI g := C.wm hA ⟨l1, l2⟩ e
  have R : zXR [(A, A, 0, 3)] 0 0 h g := zXR.wc e rfl ⟨by omega, by omega, Or.inr (by decide)⟩ (by first | decide | exact ⟨by decide, by decide⟩)
  have f1 : fld g A 1 = fld h A 1 := by rw [e]; exact fld_wr (Or.inr (by decide))
  have f2 : fld g A 2 = fld h A 2 := by rw [e]; exact fld_wr (Or.inr (by decide))
  have hsg := zLis_sh Cg hA
  refine zwW_p [(1, 0, 2), (1, 1, 2), (1, 0, 2)] (q := 13) (ls' := [(2, (A : Int)), (2, r)]) (st' := [(2, (A : Int)), (2, r), (2, (A : Int))]) (by decide +kernel) rfl ?_
  refine zwW_get (kd := 0) (bn := 1) (t := 2) (n := 3) (nx := 16) (by decide +kernel) hsg rfl ?_
  refine zwW_p [(1, 0, 2)] (q := 17) (ls' := [(2, (A : Int)), (2, r)]) (st' := [(2, (A : Int)), (2, fld g A 1), (2, r), (2, (A : Int))]) (by decide +kernel) rfl ?_
  refine zwW_get (kd := 0) (bn := 2) (t := 0) (n := 3) (nx := 20) (by decide +kernel) hsg rfl ?_
  refine zwW_cvv (op := 60) (k' := 181) (n := 3) (kd := 0) (m := 3) (nx := 23) (r := (A : Int)) (tl := [(2, r), (2, fld g A 1), (0, fld g A 2)]) (st' := []) (by decide +kernel) rfl (by decide +kernel) hsg (x181 Cg hA (G.x R) (by omega) (by rw [e, len_wr]; exact hl)) rfl ?_
  rintro g2 ⟨a, b, c, d, e', f⟩
  refine zwW_p [(0, 1, 0)] (q := 24) (ls' := [(2, (A : Int)), (2, r)]) (st' := [(0, 1)]) (by decide +kernel) rfl ?_
  have hne : ∀ i : Nat, (i : Int) < fld h A 2 → fld g (fld h A 1) i = fld h (fld h A 1) i := by
    intro i hi
    rw [e]
    refine fld_wr (Or.inl ?_)
    rcases C.2.2.1 A hA with ⟨a, b⟩ | ⟨a, -⟩ <;> omega
  refine zwW_ret (nx := 25) (a := 1) (b := 0) (by decide +kernel) rfl (Or.inr (Or.inl ⟨rfl, by omega⟩)) ⟨rfl, a, R.tr b (zqI_one A 0 3) (by omega) (by omega), by omega, fun i hi => ?_, ?_, fun q k1 k2 k3 => ?_⟩
  · rw [d i (by omega), f1, hne i hi]
  · rw [← f2]; exact e'
  · rw [f q (by rw [e, len_wr]; exact k1) k2 (by omega)]
    funext j
    rw [e, fld_wr (Or.inl k2)]
/-- nothing stands in a list: its array is written -/
theorem CI.wn {A i : Nat} {n : Nat} (C : CI h) (hA : A ∈ zLis) (h0 : fld h A 2 = 0) (hd : 365 < fld h A 1) (s : sh h (fld h A 1) = some (25, n)) (e : g = wr h (fld h A 1) i 0) : CI g ∧ zXR [(A, A, 0, 3)] 0 0 h g := by
  have fo : ∀ q : Int, q ≠ fld h A 1 → fld g q = fld h q := fun q hne => by rw [e]; funext j; exact fld_wr (Or.inl hne)
  have hq := zLis_36 hA
  have f4 : fld g 4 2 = fld h 4 2 := congrFun (fo 4 (by omega)) 2
  have f21 : fld g 21 2 = fld h 21 2 := congrFun (fo 21 (by omega)) 2
  have ne25 : ∀ (q : Int) (k m : Nat), sh h q = some (k, m) → k ≠ 25 → q ≠ fld h A 1 := fun q k m k2 k3 hz => by
    rw [hz, s] at k2
    cases k2
    exact k3 rfl
  have R : zXR [(A, A, 0, 3)] 0 0 h g := by
    refine ⟨fun q z k2 => by rw [e, sh_wr]; exact k2, fun q j k1 k2 hn => congrFun (fo q (by omega)) j, fun q k m j k1 k2 k3 => congrFun (fo q (ne25 q k m k2 ?_)) j, by rw [e, len_wr]; exact Nat.le_refl _, by rw [f4, f21, e, len_wr]; omega, by rw [f4, f21, e, sz_wr]; omega, fun q k m j k1 k2 k3 hn => congrFun (fo q (ne25 q k m k2 k3)) j, fun B hB hn ha j => congrFun (fo _ (C.2.2.2.1 B hB A hA (fun hz => hn _ List.mem_cons_self ⟨Nat.le_of_eq hz.symm, Nat.le_of_eq hz⟩) ha)) j⟩
    intro hz
    subst hz
    cases k3
  refine ⟨⟨C.1.far (fun q k1 k2 => by rw [e, sh_wr]) (fun q j k1 k2 => congrFun (fo q (by omega)) j), C.2.1.wq e s (by unfold kty; simp), fun B hB => ?_, fun B hB B' hB' hne ha => ?_, fun j hj => ?_⟩, R⟩
  · have q2 := zLis_36 hB
    have w := fo (B : Int) (by omega)
    by_cases z : B = A
    · subst z
      rcases C.2.2.1 B hB with ⟨a, b⟩ | ⟨a, n', b, c', c0, d', f⟩
      · omega
      · refine Or.inr ⟨by rw [w]; exact a, n', by rw [w]; exact R.1 _ _ b, by rw [w]; exact c', c0, d', fun i hi => ?_⟩
        rw [w, h0] at hi
        omega
    · refine (C.2.2.1 B hB).kp R (congrFun w 1) (congrFun w 2) (fun ha => fo _ ?_)
      exact C.2.2.2.1 B hB A hA z ha
  · have q2 := zLis_36 hB
    have q3 := zLis_36 hB'
    rw [fo (B : Int) (by omega)] at ha ⊢
    rw [fo (B' : Int) (by omega)]
    exact C.2.2.2.1 B hB B' hB' hne ha
  · rw [fo 15 (by omega)]
    exact (C.2.2.2.2 j hj).imp id (fun z => z.x R)
/-- a list's size is put to 0 -/
theorem CI.wz {A : Nat} (C : CI h) (hA : A ∈ zLis) (hA2 : A = 20 ∨ A = 21) (e : g = wr h A 2 0) : CI g ∧ zXR [(A, A, 0, 3)] 6 6000 h g := by
  have hq := zLis_36 hA
  have hb := zLis_b C hA
  have hm : zmx A = 6 := by rcases hA2 with rfl | rfl <;> decide
  have s := zLis_sh C hA
  have fo : ∀ q : Int, q ≠ A → fld g q = fld h q := fun q hne => by rw [e]; funext j; exact fld_wr (Or.inl hne)
  have f1 : fld g A 1 = fld h A 1 := by rw [e]; exact fld_wr (Or.inr (by decide))
  have f2 : fld g A 2 = 0 := by rw [e]; exact fld_wr_eq s (by decide)
  have f4 : fld g 4 2 = fld h 4 2 := congrFun (fo 4 (by omega)) 2
  have f21 : 0 ≤ fld g 21 2 ∧ fld h 21 2 ≤ fld g 21 2 + 6 := by
    rcases hA2 with rfl | rfl
    · rw [congrFun (fo 21 (by decide)) 2]
      have := zLis_b C (A := 21) (by decide)
      exact ⟨this.1, by omega⟩
    · have f2 : fld g 21 2 = 0 := f2
      have hb : 0 ≤ fld h 21 2 ∧ fld h 21 2 ≤ zmx 21 := hb
      omega
  have R : zXR [(A, A, 0, 3)] 6 6000 h g := by
    refine ⟨fun q z hz => by rw [e, sh_wr]; exact hz, fun q j k1 k2 hn => ?_, fun q k n j k1 k2 k3 => congrFun (fo q (by omega)) j, by rw [e, len_wr]; exact Nat.le_refl _, ?_, ?_, fun q k n j k1 k2 k3 hn => congrFun (fo q (by omega)) j, fun B hB hn ha j => congrFun (fo _ (by omega)) j⟩
    · have := hn _ List.mem_cons_self
      dsimp only at this
      rw [e]
      exact fld_wr (by omega)
    · have : g.length = h.length := by rw [e, len_wr]
      omega
    · have : sz g = sz h := by rw [e, sz_wr]
      omega
  refine ⟨⟨by rw [e]; exact zI.wl C.1 hA (by decide) (by decide) (by decide) (fun _ => ⟨by decide, by omega⟩), fun q k n i k1 k2 k3 => ?_, fun B hB => ?_, fun B hB B' hB' hne ha => ?_, fun j hj => ?_⟩, R⟩
  · rw [e, sh_wr] at k2
    rw [fo q (by omega)]
    exact C.2.1 q k n i k1 k2 k3
  · have q2 := zLis_36 hB
    by_cases z : B = A
    · subst z
      rcases C.2.2.1 B hB with ⟨a, b⟩ | ⟨a, n', b, c', c0, d', f⟩
      · exact Or.inl ⟨f2, by rw [f1]; exact b⟩
      · refine Or.inr ⟨by rw [f1]; exact a, n', by rw [f1]; exact R.1 _ _ b, by rw [f2]; omega, c0, d', fun i hi => by omega⟩
    · have w := fo (B : Int) (by omega)
      exact (C.2.2.1 B hB).kp R (congrFun w 1) (congrFun w 2) (fun ha => fo _ (by omega))
  · have k1 : ∀ B : Nat, fld g B 1 = fld h B 1 := fun B => by
      by_cases z : B = A
      · subst z; exact f1
      · exact congrFun (fo _ (by omega)) 1
    rw [k1 B] at ha ⊢
    rw [k1 B']
    exact C.2.2.2.1 B hB B' hB' hne ha
  · rw [fo 15 (by omega)]
    exact (C.2.2.2.2 j hj).imp id (fun z => z.x R)
def zClr (h : Hp) (A : Nat) (g : Hp) : Prop := CI g ∧ zXR [(A, A, 0, 3)] 6 6000 h g ∧ fld g A 2 = 0 ∧ ∀ q : Int, q ≤ h.length → q ≠ A → q ≠ fld h A 1 → fld g q = fld h q
theorem x141 {A : Nat} (C : CI h) (hA : A ∈ zLis) (hA2 : A = 20 ∨ A = 21) : zwC sc 1 141 [(2, (A : Int))] h (zwRv (zClr h A)) := by
  have hs := zLis_sh C hA
  have hq := zLis_36 hA
  have hmb := zLis_m C hA
  have hb := zLis_b C hA
  have hz := zmx_le A
  refine zwC_of (D := 0) 4 (by decide +kernel) rfl (ls := [(2, (A : Int)), (9, 0), (9, 0), (9, 0)]) rfl ?_
  refine zwW_p [(1, 0, 2), (12, 0, 0)] (q := 2) (ls' := [(2, (A : Int)), (9, 0), (9, 0), (9, 0)]) (st' := [(2, (A : Int)), (2, (A : Int))]) (by decide +kernel) rfl ?_
  refine zwW_get (kd := 0) (bn := 0) (t := 0) (n := 3) (nx := 5) (by decide +kernel) hs rfl ?_
  refine zwW_p [(0, 1, 0)] (q := 6) (ls' := [(2, (A : Int)), (9, 0), (9, 0), (9, 0)]) (st' := [(0, 1), (0, fld h A 0), (2, (A : Int))]) (by decide +kernel) rfl ?_
  refine zwW_any2 (a := 0) (nx := 7) (by decide +kernel) rfl hmb (Or.inr (by first | decide | exact ⟨by decide, by decide⟩)) ?_
  intro z l1 l2
  refine zwW_put (kd := 0) (bn := 0) (t := 0) (n := 3) (nx := 10) (by decide +kernel) hs rfl rfl ?_
  rintro g e
  have Cg : CI g := C.wm hA ⟨l1, l2⟩ e
  have R : zXR [(A, A, 0, 3)] 0 0 h g := zXR.wc e rfl ⟨by omega, by omega, Or.inr (by decide)⟩ (by first | decide | exact ⟨by decide, by decide⟩)
  have f1 : fld g A 1 = fld h A 1 := by rw [e]; exact fld_wr (Or.inr (by decide))
  have f2 : fld g A 2 = fld h A 2 := by rw [e]; exact fld_wr (Or.inr (by decide))
  have f3 : ∀ q : Int, q ≠ A → fld g q = fld h q := fun q hne => by rw [e]; funext j; exact fld_wr (Or.inl hne)
  have hsg := zLis_sh Cg hA
  refine zwW_p [(1, 0, 2)] (q := 11) (ls' := [(2, (A : Int)), (9, 0), (9, 0), (9, 0)]) (st' := [(2, (A : Int))]) (by decide +kernel) rfl ?_
  refine zwW_get (kd := 0) (bn := 1) (t := 2) (n := 3) (nx := 14) (by decide +kernel) hsg rfl ?_
  rw [f1]
  refine zwW_p [(2, 1, 2), (1, 0, 2)] (q := 16) (ls' := [(2, (A : Int)), (2, fld h A 1), (9, 0), (9, 0)]) (st' := [(2, (A : Int))]) (by decide +kernel) rfl ?_
  refine zwW_get (kd := 0) (bn := 2) (t := 0) (n := 3) (nx := 19) (by decide +kernel) hsg rfl ?_
  rw [f2]
  refine zwW_p [(2, 2, 0), (1, 0, 2), (0, 0, 0), (13, 0, 0)] (q := 23) (ls' := [(2, (A : Int)), (2, fld h A 1), (0, fld h A 2), (9, 0)]) (st' := [(0, 0), (2, (A : Int)), (0, 0)]) (by decide +kernel) rfl ?_
  refine zwW_put (kd := 0) (bn := 2) (t := 0) (n := 3) (nx := 26) (by decide +kernel) hsg rfl rfl ?_
  rintro g2 e2
  obtain ⟨C2, R2⟩ := Cg.wz hA hA2 e2
  have R3 := R.tr R2 (zqI_one A 0 3) (c2 := 6) (s2 := 6000) (by omega) (by omega)
  have v1 : fld g2 A 1 = fld h A 1 := by rw [e2, ← f1]; exact fld_wr (Or.inr (by decide))
  have v2 : fld g2 A 2 = 0 := by rw [e2]; exact fld_wr_eq hsg (by decide)
  have v3 : ∀ q : Int, q ≠ A → fld g2 q = fld h q := fun q hne => by rw [← f3 q hne, e2]; funext j; exact fld_wr (Or.inl hne)
  refine zwW_p [(2, 3, 0)] (q := 27) (ls' := [(2, (A : Int)), (2, fld h A 1), (0, fld h A 2), (0, 0)]) (st' := []) (by decide +kernel) rfl ?_
  have L : ∀ (n : Nat) (i : Int) (g : Hp), n = (fld h A 2 - i).toNat → 0 ≤ i → zClr h A g → fld g A 1 = fld h A 1 → zwW sc 0 141 27 [(2, (A : Int)), (2, fld h A 1), (0, fld h A 2), (0, i)] [] g (zwRv (zClr h A)) := by
    intro n
    induction n using Nat.strongRecOn with
    | ind n IH =>
      intro i g hn hi K k1
      refine zwW_p [(1, 3, 0), (1, 2, 0)] (q := 29) (ls' := [(2, (A : Int)), (2, fld h A 1), (0, fld h A 2), (0, i)]) (st' := [(0, fld h A 2), (0, i)]) (by decide +kernel) rfl ?_
      refine zwic_ge (q := 42) (nx := 32) (by decide +kernel) (fun c => zwW_retv (nx := 43) (a := 0) (b := 0) (by decide +kernel) K) (fun c => ?_)
      refine zwW_p [(1, 1, 2), (1, 3, 0), (0, 0, 2)] (q := 35) (ls' := [(2, (A : Int)), (2, fld h A 1), (0, fld h A 2), (0, i)]) (st' := [(2, 0), (0, i), (2, fld h A 1)]) (by decide +kernel) rfl ?_
      rcases C.2.2.1 A hA with ⟨a, b⟩ | ⟨a, m, b, c', c0, d', f⟩
      · omega
      · have bs := K.2.1.1 _ _ b
        refine zwW_ast (a := 24) (kd := 25) (n := m) (x := 0) (nx := 36) (by decide +kernel) bs rfl hi (by omega) rfl ?_
        rintro g3 e3
        obtain ⟨C3, R3⟩ := K.1.wn (g := g3) (i := i.toNat) (n := m) hA K.2.2.1 (by rw [k1]; exact a) (by rw [k1]; exact bs) (by rw [k1]; exact e3)
        refine zwW_inc (i := 3) (c := 1) (x := i) (nx := 39) (by decide +kernel) rfl (by omega) (ls' := [(2, (A : Int)), (2, fld h A 1), (0, fld h A 2), (0, i + 1)]) rfl ?_
        refine zwW_p [(24, 27, 0)] (q := 27) (ls' := [(2, (A : Int)), (2, fld h A 1), (0, fld h A 2), (0, i + 1)]) (st' := []) (by decide +kernel) rfl ?_
        refine IH (fld h A 2 - (i + 1)).toNat (by omega) (i + 1) g3 rfl (by omega) ⟨C3, K.2.1.tr R3 (zqI_one A 0 3) (by omega) (by omega), ?_, fun q k1 k2 k3 => ?_⟩ ?_
        · rw [e3, fld_wr (Or.inl (by omega))]; exact K.2.2.1
        · rw [← K.2.2.2 q k1 k2 k3, e3]; funext j; exact fld_wr (Or.inl k3)
        · rw [e3, fld_wr (Or.inl (by omega))]; exact k1
  refine L _ 0 g2 rfl (by omega) ⟨C2, R3, v2, fun q k1 k2 k3 => v3 q k2⟩ v1
end ZD
end
section
/-! arrays as a whole: fill, copies; sheets in force -/
section ZF
variable {sc : List Int} {D D' y pc nx : Nat} {ls st st' : List Vl} {h h' h1 h2 g : Hp} {Q : Option Vl → Hp → Prop}
theorem zXR.hl {ms : Zms} {c s : Int} (R : zXR ms c s h g) (C : CI h) (C' : CI g) (hc : c ≤ 1000) {N : Nat} (hl : h.length ≤ N) : g.length ≤ N + 3000 := by
  have a := R.2.2.2.2.1
  have b1 : 0 ≤ fld h 4 2 ∧ fld h 4 2 ≤ zmx 4 := zLis_b C (A := 4) (by decide)
  have b2 : 0 ≤ fld h 21 2 ∧ fld h 21 2 ≤ zmx 21 := zLis_b C (A := 21) (by decide)
  have b3 : 0 ≤ fld g 4 2 ∧ fld g 4 2 ≤ zmx 4 := zLis_b C' (A := 4) (by decide)
  have b4 : 0 ≤ fld g 21 2 ∧ fld g 21 2 ≤ zmx 21 := zLis_b C' (A := 21) (by decide)
  have e1 : zmx 4 = 300 := by decide
  have e2 : zmx 21 = 6 := by decide
  omega
theorem zOld.X (a : zOld h h1) (C : CI h) : zXR [] h1.length (sz h1) h h1 := a.xr C (by omega) (by omega) []
theorem x180 {P : Hp → Prop} {d v : Int} {n : Nat} (s : sh h d = some (20, n)) (hn : n ≤ 1000) (h0 : P h) (hP : ∀ (g : Hp) (j : Nat), P g → sh g d = some (20, n) → j < n → P (wr g d j v)) : zwC sc 1 180 [(2, d), (0, v)] h (zwRv (fun g => P g ∧ sh g d = some (20, n) ∧ ∀ j : Nat, j < n → fld g d j = v)) := by
  refine zwC_of (D := 0) 4 (by decide +kernel) rfl (ls := [(2, d), (0, v), (9, 0), (9, 0)]) rfl ?_
  refine zwW_p [(0, 0, 0), (2, 2, 0), (1, 0, 2)] (q := 3) (ls' := [(2, d), (0, v), (0, 0), (9, 0)]) (st' := [(2, d)]) (by decide +kernel) rfl ?_
  refine zwW_len (nx := 4) (by decide +kernel) s rfl ?_
  refine zwW_p [(2, 3, 0)] (q := 5) (ls' := [(2, d), (0, v), (0, 0), (0, (n : Int))]) (st' := []) (by decide +kernel) rfl ?_
  have L : ∀ (m : Nat) (i : Int) (g : Hp), m = ((n : Int) - i).toNat → 0 ≤ i → P g → sh g d = some (20, n) → (∀ j : Nat, (j : Int) < i → fld g d j = v) → zwW sc 0 180 5 [(2, d), (0, v), (0, i), (0, (n : Int))] [] g (zwRv (fun g => P g ∧ sh g d = some (20, n) ∧ ∀ j : Nat, j < n → fld g d j = v)) := by
    intro m
    induction m using Nat.strongRecOn with
    | ind m IH =>
      intro i g hm hi p s hf
      refine zwW_p [(1, 2, 0), (1, 3, 0)] (q := 7) (ls' := [(2, d), (0, v), (0, i), (0, (n : Int))]) (st' := [(0, (n : Int)), (0, i)]) (by decide +kernel) rfl ?_
      refine zwic_ge (q := 20) (nx := 10) (by decide +kernel) (fun c => zwW_retv (nx := 21) (a := 0) (b := 0) (by decide +kernel) ⟨p, s, fun j hj => hf j (by omega)⟩) (fun c => ?_)
      refine zwW_p [(1, 0, 2), (1, 2, 0), (1, 1, 0)] (q := 13) (ls' := [(2, d), (0, v), (0, i), (0, (n : Int))]) (st' := [(0, v), (0, i), (2, d)]) (by decide +kernel) rfl ?_
      refine zwW_ast (a := 20) (kd := 20) (n := n) (x := v) (nx := 14) (by decide +kernel) s rfl hi (by omega) rfl ?_
      rintro g2 e2
      refine zwW_inc (i := 2) (c := 1) (x := i) (nx := 17) (by decide +kernel) rfl (by omega) (ls' := [(2, d), (0, v), (0, i + 1), (0, (n : Int))]) rfl ?_
      refine zwW_p [(24, 5, 0)] (q := 5) (ls' := [(2, d), (0, v), (0, i + 1), (0, (n : Int))]) (st' := []) (by decide +kernel) rfl ?_
      refine IH ((n : Int) - (i + 1)).toNat (by omega) (i + 1) g2 rfl (by omega) (by rw [e2]; exact hP g _ p s (by omega)) (by rw [e2, sh_wr]; exact s) (fun j hj => ?_)
      rw [e2]
      by_cases hq : j = i.toNat
      · rw [hq]
        exact fld_wr_eq s (by omega)
      · rw [fld_wr (Or.inr hq)]
        exact hf j (by omega)
  exact L _ 0 h rfl (by omega) h0 s (fun j hj => by omega)
theorem x180_12 (C : CI h) {v : Int} (hv : -2147483648 ≤ v ∧ v ≤ 2147483647) : zwC sc 1 180 [(2, 12), (0, v)] h (zwRv (fun g => CI g ∧ zXR [(12, 12, 0, 5)] 0 0 h g ∧ ∀ j : Nat, j < 5 → fld g 12 j = v)) :=
  zwC_to (x180 (P := fun g => CI g ∧ zXR [(12, 12, 0, 5)] 0 0 h g) (C.1.s (a1 := 12) (a2 := 12) (by decide +kernel) (by decide) (by decide)) (by decide) ⟨C, (zXR.rf _ h).le (by decide) (by decide)⟩ (fun g j p s hj => ⟨p.1.wc rfl (p.1.1.w (a1 := 12) (a2 := 12) (j1 := 0) (j2 := 5) (lo := -2147483648) (hi := 2147483647) (by decide +kernel) (by decide) (by decide) (by omega) hj hv.1 hv.2) (by decide) (by decide), p.2.tr (zXR.wc (a1 := 12) (j1 := 0) (j2 := 5) rfl rfl ⟨by decide, by decide, Or.inl (by decide)⟩ ⟨by omega, hj⟩) (by decide) (by decide) (by decide)⟩)) (by
    rintro r g ⟨hr, hq⟩
    exact ⟨hr, hq.1.1, hq.1.2, hq.2.2⟩)
theorem x180_17 (C : CI h) {v : Int} (hv : -2147483648 ≤ v ∧ v ≤ 2147483647) : zwC sc 1 180 [(2, 17), (0, v)] h (zwRv (fun g => CI g ∧ zXR [(17, 17, 0, 13)] 0 0 h g ∧ ∀ j : Nat, j < 13 → fld g 17 j = v)) :=
  zwC_to (x180 (P := fun g => CI g ∧ zXR [(17, 17, 0, 13)] 0 0 h g) (C.1.s (a1 := 17) (a2 := 17) (by decide +kernel) (by decide) (by decide)) (by decide) ⟨C, (zXR.rf _ h).le (by decide) (by decide)⟩ (fun g j p s hj => ⟨p.1.wc rfl (p.1.1.w (a1 := 17) (a2 := 17) (j1 := 0) (j2 := 13) (lo := -2147483648) (hi := 2147483647) (by decide +kernel) (by decide) (by decide) (by omega) hj hv.1 hv.2) (by decide) (by decide), p.2.tr (zXR.wc (a1 := 17) (j1 := 0) (j2 := 13) rfl rfl ⟨by decide, by decide, Or.inl (by decide)⟩ ⟨by omega, hj⟩) (by decide) (by decide) (by decide)⟩)) (by
    rintro r g ⟨hr, hq⟩
    exact ⟨hr, hq.1.1, hq.1.2, hq.2.2⟩)
theorem x180_24 (C : CI h) {v : Int} (hv : -2147483648 ≤ v ∧ v ≤ 2147483647) : zwC sc 1 180 [(2, 24), (0, v)] h (zwRv (fun g => CI g ∧ zXR [(24, 24, 0, 6)] 0 0 h g ∧ ∀ j : Nat, j < 6 → fld g 24 j = v)) :=
  zwC_to (x180 (P := fun g => CI g ∧ zXR [(24, 24, 0, 6)] 0 0 h g) (C.1.s (a1 := 24) (a2 := 24) (by decide +kernel) (by decide) (by decide)) (by decide) ⟨C, (zXR.rf _ h).le (by decide) (by decide)⟩ (fun g j p s hj => ⟨p.1.wc rfl (p.1.1.w (a1 := 24) (a2 := 24) (j1 := 0) (j2 := 6) (lo := -2147483648) (hi := 2147483647) (by decide +kernel) (by decide) (by decide) (by omega) hj hv.1 hv.2) (by decide) (by decide), p.2.tr (zXR.wc (a1 := 24) (j1 := 0) (j2 := 6) rfl rfl ⟨by decide, by decide, Or.inl (by decide)⟩ ⟨by omega, hj⟩) (by decide) (by decide) (by decide)⟩)) (by
    rintro r g ⟨hr, hq⟩
    exact ⟨hr, hq.1.1, hq.1.2, hq.2.2⟩)
/-- one fixed cell is written anew -/
theorem zI.cell (I : zI h) {B n : Nat} {lo hi : Int} (e : zqW B B 0 n lo hi = true) (hs : ∀ q, sh g q = sh h q) (ho : ∀ q : Int, q ≠ B → fld g q = fld h q) (hb : ∀ j : Nat, j < n → lo ≤ fld g B j ∧ fld g B j ≤ hi) (hc : ∀ j : Nat, n ≤ j → fld g B j = fld h B j) : zI g := by
  unfold zqW at e
  rw [Bool.and_eq_true, List.all_eq_true, List.all_eq_true] at e
  obtain ⟨e1, e2⟩ := e
  refine ⟨fun q hq r' k1 k2 => by rw [hs]; exact I.1 q hq r' k1 k2, fun q hq r' j' k1 k2 k3 k4 => ?_, fun q hq j' k1 => ?_⟩
  · have hI := I.2.1 q hq r' j' k1 k2 k3 k4
    by_cases hz : r' ≠ (B : Int)
    · rw [ho r' hz]; exact hI
    · obtain rfl : r' = (B : Int) := by omega
      by_cases hj : j' < n
      · have hb := hb j' hj
        have e1 := e1 q hq
        simp only [Bool.or_eq_true, Bool.and_eq_true, decide_eq_true_eq] at e1
        rcases e1 with e1 | e1 | e1 | e1 | ⟨e1, e3⟩
        · have := Nat.le_of_ble_eq_true e1
          omega
        · have := Nat.le_of_ble_eq_true e1
          omega
        · have := Nat.le_of_ble_eq_true e1
          omega
        · have := Nat.le_of_ble_eq_true e1
          omega
        · omega
      · rw [hc j' (by omega)]; exact hI
  · have e2 := e2 q hq
    rw [Bool.or_eq_true] at e2
    have : (q.1 : Int) ≠ (B : Int) := by
      rcases e2 with e2 | e2
      · have := Nat.le_of_ble_eq_true e2
        omega
      · have := Nat.le_of_ble_eq_true e2
        omega
    rw [ho _ this]
    exact I.2.2 q hq j' k1
theorem CI.cell (C : CI h) {B n : Nat} {lo hi : Int} (e : zqW B B 0 n lo hi = true) (hB : (0 < B ∧ B ≤ 365) ∧ (B ≠ 2 ∧ B ≠ 3 ∧ B ≠ 4 ∧ B ≠ 5 ∧ B ≠ 14 ∧ B ≠ 20 ∧ B ≠ 21) ∧ B ≠ 15) (hs : ∀ q, sh g q = sh h q) (hl : g.length = h.length ∧ sz g = sz h) (ho : ∀ q : Int, q ≠ B → fld g q = fld h q) (hb : ∀ j : Nat, j < n → lo ≤ fld g B j ∧ fld g B j ≤ hi) (hc : ∀ j : Nat, n ≤ j → fld g B j = fld h B j) : CI g ∧ zXR [(B, B, 0, n)] 0 0 h g := by
  have f4 : fld g 4 2 = fld h 4 2 := by rw [ho 4 (by omega)]
  have f21 : fld g 21 2 = fld h 21 2 := by rw [ho 21 (by omega)]
  have R : zXR [(B, B, 0, n)] 0 0 h g := by
    refine ⟨fun q z hz => by rw [hs]; exact hz, fun q j k1 k2 hn => ?_, fun q k m j k1 k2 k3 => congrFun (ho q (by omega)) j, by omega, by omega, by omega, fun q k m j k1 k2 k3 hn => congrFun (ho q (by omega)) j, fun A hA hn ha j => congrFun (ho _ (by omega)) j⟩
    by_cases hz : q = (B : Int)
    · subst hz
      have := hn _ List.mem_cons_self
      dsimp only at this
      exact hc j (by omega)
    · rw [ho q hz]
  refine ⟨⟨C.1.cell e hs ho hb hc, fun q k m i k1 k2 k3 => ?_, C.2.2.kp R (fun A hA => ?_) (fun A hA ha => ho _ (by omega)) (fun i hi => by rw [ho 15 (by omega)])⟩, R⟩
  · rw [hs] at k2
    rw [ho q (by omega)]
    exact C.2.1 q k m i k1 k2 k3
  · have hne : (A : Int) ≠ (B : Int) := by
      unfold zLis at hA
      simp only [List.mem_cons, List.not_mem_nil, or_false] at hA
      omega
    rw [ho _ hne]
    exact ⟨rfl, rfl⟩
/-- a fixed array of ints into another one of its length -/
theorem zwX_copy (C : CI h) {A B n : Nat} (e : zwat y pc 47 nx 0 0 = true) (eA : zqB A A 0 n (-2147483648) 2147483647 = true) (eB : zqW B B 0 n (-2147483648) 2147483647 = true) (sA : sh h (A : Int) = some (20, n)) (sB : sh h (B : Int) = some (20, n)) (hB : (0 < B ∧ B ≤ 365) ∧ (B ≠ 2 ∧ B ≠ 3 ∧ B ≠ 4 ∧ B ≠ 5 ∧ B ≠ 14 ∧ B ≠ 20 ∧ B ≠ 21) ∧ B ≠ 15) (hw : Nat.ble (wds st) 8 = true)
    (k : ∀ g, CI g → zXR [(B, B, 0, n)] 0 0 h g → (∀ j : Nat, j < n → fld g B j = fld h A j) → (∀ q : Int, q ≠ B → fld g q = fld h q) → zwW sc D y nx ls st g Q) : zwW sc D y pc ls ((0, (n : Int)) :: (0, 0) :: (2, (B : Int)) :: (0, 0) :: (2, (A : Int)) :: st) h Q := by
  obtain ⟨la, ca, na⟩ := sh_cel sA
  obtain ⟨lb, cb, nb⟩ := sh_cel sB
  refine zwW_copy e ca cb (Or.inl ⟨rfl, rfl⟩) hw ⟨by omega, by omega, by omega, by omega, by omega⟩ ?_
  have hlen : (cpyL la lb (Int.toNat 0) (Int.toNat 0) (Int.toNat (n : Int))).length = n := by
    rw [cpyL_len (by simp; omega) (by simp; omega), nb]
  have hcel : ∀ q, cel (h.set ((B : Int).toNat - 1) (20, cpyL la lb (Int.toNat 0) (Int.toNat 0) (Int.toNat (n : Int)))) q = if q = (B : Int) then some (20, cpyL la lb (Int.toNat 0) (Int.toNat 0) (Int.toNat (n : Int))) else cel h q := fun q => cel_set q (by rw [cb]; rfl)
  have hs : ∀ q, sh (h.set ((B : Int).toNat - 1) (20, cpyL la lb (Int.toNat 0) (Int.toNat 0) (Int.toNat (n : Int)))) q = sh h q := by
    intro q
    by_cases hz : q = (B : Int)
    · subst hz
      rw [sB]
      unfold sh
      rw [hcel, if_pos rfl]
      show some (20, _) = some (20, n)
      rw [hlen]
    · unfold sh
      rw [hcel, if_neg hz]
  have ho : ∀ q : Int, q ≠ B → fld (h.set ((B : Int).toNat - 1) (20, cpyL la lb (Int.toNat 0) (Int.toNat 0) (Int.toNat (n : Int)))) q = fld h q := by
    intro q hz
    funext j
    unfold fld
    rw [hcel, if_neg hz]
  have hB' : ∀ j : Nat, fld (h.set ((B : Int).toNat - 1) (20, cpyL la lb (Int.toNat 0) (Int.toNat 0) (Int.toNat (n : Int)))) B j = (cpyL la lb (Int.toNat 0) (Int.toNat 0) (Int.toNat (n : Int))).getD j 0 := by
    intro j
    unfold fld
    rw [hcel, if_pos rfl]
  have hf : ∀ j : Nat, j < n → fld (h.set ((B : Int).toNat - 1) (20, cpyL la lb (Int.toNat 0) (Int.toNat 0) (Int.toNat (n : Int)))) B j = fld h A j := by
    intro j hj
    rw [hB', fld_of ca, List.getD_eq_getElem?_getD, cpyL_at (by simp; omega) (by simp; omega), if_pos ⟨Nat.zero_le _, by simp; omega⟩, List.getD_eq_getElem?_getD]
    simp
  have hsz : sz (h.set ((B : Int).toNat - 1) (20, cpyL la lb (Int.toNat 0) (Int.toNat 0) (Int.toNat (n : Int)))) = sz h := by
    have := cel_of cb
    refine sz_set (e := (20, lb)) ?_ (by rw [hlen, nb])
    unfold cel at cb
    rw [if_pos (by omega)] at cb
    exact cb
  obtain ⟨Cg, R⟩ := C.cell eB hB hs ⟨List.length_set, hsz⟩ ho (fun j hj => by rw [hf j hj]; exact C.1.b eA (Int.le_refl _) (Int.le_refl _) (Nat.zero_le _) hj) (fun j hj => by
    rw [hB', fld_of cb, List.getD_eq_getElem?_getD, List.getElem?_eq_none (by omega), List.getD_eq_getElem?_getD, List.getElem?_eq_none (by omega)])
  exact k _ Cg R hf ho
/-- a sheet is in force -/
theorem CI.ws {i : Nat} {r : Int} (C : CI h) (G : gS h r) (hi : i < 12) (hl : h.length ≤ 2000000000) (e : g = wr h 15 i r) : CI g ∧ zXR [(15, 15, 0, 12)] 0 0 h g := by
  have R : zXR [(15, 15, 0, 12)] 0 0 h g := zXR.wc e rfl ⟨by decide, by decide, Or.inl (by decide)⟩ ⟨Nat.zero_le _, hi⟩
  have hr := sh_pos G.2.1
  have s : sh h 15 = some (24, 12) := C.1.s (a1 := 15) (a2 := 15) (by decide +kernel) (by decide) (by decide)
  have fo : ∀ q : Int, q ≠ 15 → fld g q = fld h q := fun q hne => by rw [e]; funext j; exact fld_wr (Or.inl hne)
  refine ⟨⟨by rw [e]; exact C.1.w (a1 := 15) (a2 := 15) (j1 := 0) (j2 := 12) (lo := 0) (hi := 2147483647) (by decide +kernel) (by decide) (by decide) (Nat.zero_le _) hi (by omega) (by omega), fun q k n j k1 k2 k3 => ?_, ?_, ?_, fun j hj => ?_⟩, R⟩
  · rw [e, sh_wr] at k2
    rw [fo q (by omega)]
    exact C.2.1 q k n j k1 k2 k3
  · intro A hA
    have hq := zLis_36 hA
    have w := fo (A : Int) (by omega)
    exact (C.2.2.1 A hA).kp R (by rw [w]) (by rw [w]) (fun ha => fo _ (by omega))
  · intro A hA B hB hne
    have q1 := zLis_36 hA
    have q2 := zLis_36 hB
    rw [fo (A : Int) (by omega), fo (B : Int) (by omega)]
    exact C.2.2.2.1 A hA B hB hne
  · by_cases hz : j = i
    · subst hz
      right
      rw [e, fld_wr_eq s hj, ← e]
      exact G.x R
    · rw [e, fld_wr (Or.inr hz), ← e]
      exact (C.2.2.2.2 j hj).imp id (fun z => z.x R)
/-- copies of an array of ints -/
theorem zwW_clone {r : Int} {l : List Int} (e : zwat y pc 48 nx 0 0 = true) (hc : cel h r = some (20, l)) (hw : Nat.ble (wds st) 8 = true) (k : zwW sc D y nx ls ((2, ((h.length + 1 : Nat) : Int)) :: st) (h ++ [(20, l)]) Q) : zwW sc D y pc ls ((2, r) :: st) h Q := by
  refine zwW_w1 e (by decide) (by decide) (show (match cel h r with
      | some (kd, l) => if kd = 20 ∧ wds st ≤ 8 then some (h ++ [(kd, l)], (2, ((h.length + 1 : Nat) : Int)) :: st) else none
      | none => none) = _ from ?_) k
  rw [hc]
  dsimp only
  rw [if_pos ⟨rfl, Nat.le_of_ble_eq_true hw⟩]
/-- a new array with the first n ints of another one -/
def zCpd (h : Hp) (d n x : Int) (g : Hp) : Prop := x = ((h.length + 1 : Nat) : Int) ∧ ∃ l : List Int, g = h ++ [(20, l)] ∧ (l.length : Int) = n ∧ ∀ i : Nat, (i : Int) < n → l.getD i 0 = fld h d i
theorem x202 {d n : Int} {m : Nat} (s : sh h d = some (20, m)) (hn : 0 ≤ n ∧ n ≤ m) (hm : m ≤ 1000) : zwC sc 1 202 [(2, d), (0, n)] h (zwRt 2 (zCpd h d n)) := by
  obtain ⟨l, hc, hl⟩ := sh_cel s
  refine zwC_of (D := 0) 3 (by decide +kernel) rfl (ls := [(2, d), (0, n), (9, 0)]) rfl ?_
  refine zwW_p [(1, 1, 0), (1, 0, 2)] (q := 2) (ls' := [(2, d), (0, n), (9, 0)]) (st' := [(2, d), (0, n)]) (by decide +kernel) rfl ?_
  refine zwW_len (nx := 3) (by decide +kernel) s rfl ?_
  refine zwic_ne (q := 14) (nx := 6) (by decide +kernel) (fun c => ?_) (fun c => ?_)
  · refine zwW_p [(1, 1, 0)] (q := 15) (ls' := [(2, d), (0, n), (9, 0)]) (st' := [(0, n)]) (by decide +kernel) rfl ?_
    refine zwW_newa (op := 43) (kd := 20) (a := 20) (nx := 17) (by decide +kernel) (Or.inl rfl) rfl (by omega) (by omega) ?_
    rintro _ r rfl rfl
    refine zwW_p [(2, 2, 2), (1, 0, 2), (0, 0, 0), (1, 2, 2), (0, 0, 0), (1, 0, 2)] (q := 23) (ls' := [(2, d), (0, n), (2, ((h.length + 1 : Nat) : Int))]) (st' := [(2, d), (0, 0), (2, ((h.length + 1 : Nat) : Int)), (0, 0), (2, d)]) (by decide +kernel) rfl ?_
    have hc2 : cel (h ++ [(20, List.replicate n.toNat 0)]) d = some (20, l) := by rw [cel_app _ d (cel_of hc).2.2]; exact hc
    refine zwW_len (n := m) (nx := 24) (by decide +kernel) (by rw [← hl]; exact sh_of hc2) rfl ?_
    refine zwW_p [(1, 1, 0)] (q := 25) (ls' := [(2, d), (0, n), (2, ((h.length + 1 : Nat) : Int))]) (st' := [(0, n), (0, (m : Int)), (0, 0), (2, ((h.length + 1 : Nat) : Int)), (0, 0), (2, d)]) (by decide +kernel) rfl ?_
    refine zwW_min (nx := 28) (by decide +kernel) rfl ?_
    intro z ez
    obtain rfl : z = n := by omega
    refine zwW_copy (nx := 31) (by decide +kernel) hc2 (cel_new _) (Or.inl ⟨rfl, rfl⟩) rfl ⟨by omega, by omega, by omega, by omega, by rw [List.length_replicate]; omega⟩ ?_
    rw [show (((h.length + 1 : Nat) : Int)).toNat - 1 = h.length by omega, set_app]
    refine zwW_p [(1, 2, 2)] (q := 32) (ls' := [(2, d), (0, z), (2, ((h.length + 1 : Nat) : Int))]) (st' := [(2, ((h.length + 1 : Nat) : Int))]) (by decide +kernel) rfl ?_
    refine zwW_ret (nx := 33) (a := 0) (b := 2) (by decide +kernel) rfl (Or.inl rfl) ⟨rfl, _, rfl, ?_, fun i hi => ?_⟩
    · rw [cpyL_len (by simp; omega) (by rw [List.length_replicate]; simp), List.length_replicate]; omega
    · rw [List.getD_eq_getElem?_getD, cpyL_at (by simp; omega) (by rw [List.length_replicate]; simp), if_pos ⟨Nat.zero_le _, by simp; omega⟩, fld_of hc, List.getD_eq_getElem?_getD]
      simp
  · refine zwW_p [(1, 0, 2)] (q := 7) (ls' := [(2, d), (0, n), (9, 0)]) (st' := [(2, d)]) (by decide +kernel) rfl ?_
    refine zwW_clone (nx := 10) (by decide +kernel) hc rfl ?_
    refine zwW_cast (a := 20) (kd := 20) (n := m) (nx := 13) (by decide +kernel) rfl (Or.inr (by rw [← hl]; exact sh_new 20 l)) ?_
    refine zwW_ret (nx := 14) (a := 0) (b := 2) (by decide +kernel) rfl (Or.inl rfl) ⟨rfl, l, rfl, by omega, fun i hi => ?_⟩
    rw [fld_of hc]
end ZF
theorem zshl_le {t : Int} (ht : 0 ≤ t ∧ t ≤ 8) : 1 ≤ i_shl 1 t ∧ i_shl 1 t ≤ 256 := by
  have : t = 0 ∨ t = 1 ∨ t = 2 ∨ t = 3 ∨ t = 4 ∨ t = 5 ∨ t = 6 ∨ t = 7 ∨ t = 8 := by omega
  rcases this with rfl | rfl | rfl | rfl | rfl | rfl | rfl | rfl | rfl <;> decide
theorem zt100 {b : Int} (hb : -2147483648 ≤ b ∧ b ≤ 2147483647) : (0 ≤ b ∧ w32 (b.tdiv 100) = b / 100 ∧ b.tmod 100 = b % 100) ∨ (b < 0 ∧ w32 (b.tdiv 100) ≤ 0 ∧ b.tmod 100 ≤ 0) := by
  by_cases h : 0 ≤ b
  · left
    rw [zw_tdiv h, zw_tmod h]
    exact ⟨h, w32_id (by first | omega | exact ⟨by omega, by omega⟩), rfl⟩
  · right
    obtain ⟨n, rfl⟩ : ∃ n : Int, b = -n := ⟨-b, by omega⟩
    have hn : 0 ≤ n := by omega
    have e1 : (-n).tdiv 100 = -(n / 100) := by rw [Int.neg_tdiv, zw_tdiv hn]
    have e2 : (-n).tmod 100 = -(n % 100) := by rw [Int.neg_tmod, zw_tmod hn]
    rw [e1, e2]
    refine ⟨by omega, ?_, by omega⟩
    rw [w32_id ⟨by omega, by omega⟩]
    omega
end
section
/-! contracts of methods -/
-- java/lang/StringLatin1.canEncode(I)Z
theorem m289 {sc : List Int} (h : Hp) (a : Int) (q_a : -2147483648 ≤ a ∧ a ≤ 2147483647) : zwC sc 1 289 [(0, a)] h (zwRt 0 (fun x g => h = g ∧ ((x = 1 ∧ (0 ≤ a ∧ a ≤ 255)) ∨ (x = 0 ∧ (a < 0 ∨ 255 < a))))) := by
  refine zwC_of (D := 0) 1 (by decide +kernel) rfl (ls := [(0, a)]) rfl ?_
  refine zwW_p [(1, 0, 0)] (q := 1) (ls' := [(0, a)]) (st' := [(0, a)]) (by decide +kernel) rfl ?_
  refine zwif_lt (q := 15) (nx := 4) (by decide +kernel) (fun c1 => ?_) (fun c1 => ?_)
  · refine zwW_p [(0, 0, 0)] (q := 16) (ls' := [(0, a)]) (st' := [(0, 0)]) (by decide +kernel) rfl ?_
    refine zwW_ret (nx := 17) (a := 1) (b := 0) (by decide +kernel) rfl (Or.inr (Or.inl ⟨rfl, Or.inl rfl⟩)) ?_
    exact ⟨rfl, Or.inr ⟨rfl, by omega⟩⟩
  · refine zwW_p [(1, 0, 0), (0, 255, 0)] (q := 8) (ls' := [(0, a)]) (st' := [(0, 255), (0, a)]) (by decide +kernel) rfl ?_
    refine zwic_gt (q := 15) (nx := 11) (by decide +kernel) (fun c2 => ?_) (fun c2 => ?_)
    · refine zwW_p [(0, 0, 0)] (q := 16) (ls' := [(0, a)]) (st' := [(0, 0)]) (by decide +kernel) rfl ?_
      refine zwW_ret (nx := 17) (a := 1) (b := 0) (by decide +kernel) rfl (Or.inr (Or.inl ⟨rfl, Or.inl rfl⟩)) ?_
      exact ⟨rfl, Or.inr ⟨rfl, by omega⟩⟩
    · refine zwW_p [(0, 1, 0), (24, 16, 0)] (q := 16) (ls' := [(0, a)]) (st' := [(0, 1)]) (by decide +kernel) rfl ?_
      refine zwW_ret (nx := 17) (a := 1) (b := 0) (by decide +kernel) rfl (Or.inr (Or.inl ⟨rfl, Or.inr rfl⟩)) ?_
      exact ⟨rfl, Or.inl ⟨rfl, by omega⟩⟩
-- java/lang/StringLatin1.indexOfChar([BIII)I
theorem m290 {sc : List Int} (h : Hp) (w a b c : Int) (q_a : -2147483648 ≤ a ∧ a ≤ 2147483647) (hw : -33 < w ∧ w ≤ -10) (p1 : 0 ≤ b ∧ b ≤ 200) (p2 : c ≤ (zby w).length ∧ -1 ≤ c ∧ c ≤ 200) : zwC sc 1 290 [(2, (w - 90)), (0, a), (0, b), (0, c)] h (zwRt 0 (fun x g => h = g ∧ (-2147483648 ≤ x ∧ x ≤ 2147483647) ∧ (-1 ≤ x ∧ x ≤ 200))) := by
  refine zwC_of (D := 0) 6 (by decide +kernel) rfl (ls := [(2, (w - 90)), (0, a), (0, b), (0, c), (9, 0), (9, 0)]) rfl ?_
  refine zwW_p [(1, 1, 0)] (q := 1) (ls' := [(2, (w - 90)), (0, a), (0, b), (0, c), (9, 0), (9, 0)]) (st' := [(0, a)]) (by decide +kernel) rfl ?_
  refine zwW_i2b (nx := 2) (by decide +kernel) ?_
  refine zwW_p [(2, 4, 0), (1, 2, 0), (2, 5, 0)] (q := 7) (ls' := [(2, (w - 90)), (0, a), (0, b), (0, c), (0, (i_byt a)), (0, b)]) (st' := []) (by decide +kernel) rfl ?_
  have L1 : ∀ (n : Nat) (iL1 : Int), n = ((1000 - iL1)).toNat → (0 ≤ iL1 ∧ iL1 ≤ 200) → zwW sc (0) 290 7 [(2, (w - 90)), (0, a), (0, b), (0, c), (0, (i_byt a)), (0, iL1)] [] h (zwRt 0 (fun x g => h = g ∧ (-2147483648 ≤ x ∧ x ≤ 2147483647) ∧ (-1 ≤ x ∧ x ≤ 200))) := by
    intro n
    induction n using Nat.strongRecOn with
    | ind n IHL1 =>
      intro iL1 hnL1 iL1_0
      refine zwW_p [(1, 5, 0), (1, 3, 0)] (q := 10) (ls' := [(2, (w - 90)), (0, a), (0, b), (0, c), (0, (i_byt a)), (0, iL1)]) (st' := [(0, c), (0, iL1)]) (by decide +kernel) rfl ?_
      refine zwic_ge (q := 31) (nx := 13) (by decide +kernel) (fun c2 => ?_) (fun c2 => ?_)
      · refine zwW_p [(0, -1, 0)] (q := 32) (ls' := [(2, (w - 90)), (0, a), (0, b), (0, c), (0, (i_byt a)), (0, iL1)]) (st' := [(0, -1)]) (by decide +kernel) rfl ?_
        refine zwW_ret (nx := 33) (a := 0) (b := 0) (by decide +kernel) rfl (Or.inl rfl) ?_
        exact ⟨rfl, by omega, by omega⟩
      · refine zwW_p [(1, 0, 2), (1, 5, 0)] (q := 16) (ls' := [(2, (w - 90)), (0, a), (0, b), (0, c), (0, (i_byt a)), (0, iL1)]) (st' := [(0, iL1), (2, (w - 90))]) (by decide +kernel) rfl ?_
        refine zwW_tld (w := w) (nx := 17) (by decide +kernel) rfl (by first | omega | exact ⟨by omega, by omega⟩) (by first | omega | exact ⟨by omega, by omega⟩) ?_
        have B16 := zby_at (w := w) (by first | omega | exact ⟨by omega, by omega⟩) (i := iL1.toNat) (by omega)
        refine zwW_p [(1, 4, 0)] (q := 19) (ls' := [(2, (w - 90)), (0, a), (0, b), (0, c), (0, (i_byt a)), (0, iL1)]) (st' := [(0, (i_byt a)), (0, ((zby w).getD iL1.toNat 0))]) (by decide +kernel) rfl ?_
        refine zwic_ne (q := 25) (nx := 22) (by decide +kernel) (fun c3 => ?_) (fun c3 => ?_)
        · refine zwW_inc (i := 5) (c := 1) (x := iL1) (nx := 28) (by decide +kernel) rfl (by first | omega | exact ⟨by omega, by omega⟩) (ls' := [(2, (w - 90)), (0, a), (0, b), (0, c), (0, (i_byt a)), (0, (iL1 + 1))]) rfl ?_
          refine zwW_p [(24, 7, 0)] (q := 7) (ls' := [(2, (w - 90)), (0, a), (0, b), (0, c), (0, (i_byt a)), (0, (iL1 + 1))]) (st' := []) (by decide +kernel) rfl ?_
          exact IHL1 ((1000 - (iL1 + 1))).toNat (by omega) (iL1 + 1) rfl (by omega)
        · refine zwW_p [(1, 5, 0)] (q := 24) (ls' := [(2, (w - 90)), (0, a), (0, b), (0, c), (0, (i_byt a)), (0, iL1)]) (st' := [(0, iL1)]) (by decide +kernel) rfl ?_
          refine zwW_ret (nx := 25) (a := 0) (b := 0) (by decide +kernel) rfl (Or.inl rfl) ?_
          exact ⟨rfl, by omega, by omega⟩
  exact L1 _ b rfl (by omega)
-- java/lang/StringLatin1.indexOf([BIII)I
theorem m278 {sc : List Int} (h : Hp) (w a b c : Int) (q_a : -2147483648 ≤ a ∧ a ≤ 2147483647) (hw : -33 < w ∧ w ≤ -10) (p1 : 0 ≤ b ∧ b ≤ 200) (p2 : c = (zby w).length ∧ c ≤ 200) : zwC sc 2 278 [(2, (w - 90)), (0, a), (0, b), (0, c)] h (zwRt 0 (fun x g => h = g ∧ (-2147483648 ≤ x ∧ x ≤ 2147483647) ∧ (-1 ≤ x ∧ x ≤ 200))) := by
  refine zwC_of (D := 1) 4 (by decide +kernel) rfl (ls := [(2, (w - 90)), (0, a), (0, b), (0, c)]) rfl ?_
  refine zwW_p [(1, 1, 0)] (q := 1) (ls' := [(2, (w - 90)), (0, a), (0, b), (0, c)]) (st' := [(0, a)]) (by decide +kernel) rfl ?_
  refine zwW_cs (k' := 289) (n := 1) (nx := 4) (as := [(0, a)]) (st' := []) (by decide +kernel) rfl (m289 h a (by omega)) rfl ?_
  rintro x _ ⟨rfl, ⟨rfl, c1⟩ | ⟨rfl, c1⟩⟩
  · refine zwif_ne (q := 9) (nx := 7) (by decide +kernel) (fun c2 => ?_) (fun c2 => ?_)
    · refine zwW_p [(1, 2, 0), (0, 0, 0)] (q := 11) (ls' := [(2, (w - 90)), (0, a), (0, b), (0, c)]) (st' := [(0, 0), (0, b)]) (by decide +kernel) rfl ?_
      refine zwW_max (nx := 14) (by decide +kernel) rfl ?_
      intro v3 ev3
      refine zwW_p [(2, 2, 0), (1, 3, 0), (1, 0, 2)] (q := 17) (ls' := [(2, (w - 90)), (0, a), (0, v3), (0, c)]) (st' := [(2, (w - 90)), (0, c)]) (by decide +kernel) rfl ?_
      refine zwW_tlen (w := w) (nx := 18) (by decide +kernel) rfl (by first | omega | exact ⟨by omega, by omega⟩) ?_
      have B17 := zby_le (w := w) (by first | omega | exact ⟨by omega, by omega⟩)
      refine zwW_min (nx := 21) (by decide +kernel) rfl ?_
      intro v4 ev4
      refine zwW_p [(2, 3, 0), (1, 2, 0), (1, 3, 0)] (q := 24) (ls' := [(2, (w - 90)), (0, a), (0, v3), (0, v4)]) (st' := [(0, v4), (0, v3)]) (by decide +kernel) rfl ?_
      refine zwic_lt (q := 29) (nx := 27) (by decide +kernel) (fun c5 => ?_) (fun c5 => ?_)
      · refine zwW_p [(1, 0, 2), (1, 1, 0), (1, 2, 0), (1, 3, 0)] (q := 33) (ls' := [(2, (w - 90)), (0, a), (0, v3), (0, v4)]) (st' := [(0, v4), (0, v3), (0, a), (2, (w - 90))]) (by decide +kernel) rfl ?_
        refine zwW_cs (k' := 290) (n := 4) (nx := 36) (as := [(2, (w - 90)), (0, a), (0, v3), (0, v4)]) (st' := []) (by decide +kernel) rfl (m290 h w a v3 v4 (by omega) (by omega) (by omega) (by omega)) rfl ?_
        rintro v6 _ ⟨rfl, f7, f8⟩
        refine zwW_ret (nx := 37) (a := 0) (b := 0) (by decide +kernel) rfl (Or.inl rfl) ?_
        exact ⟨rfl, by omega, by omega⟩
      · refine zwW_p [(0, -1, 0)] (q := 28) (ls' := [(2, (w - 90)), (0, a), (0, v3), (0, v4)]) (st' := [(0, -1)]) (by decide +kernel) rfl ?_
        refine zwW_ret (nx := 29) (a := 0) (b := 0) (by decide +kernel) rfl (Or.inl rfl) ?_
        exact ⟨rfl, by omega, by omega⟩
    · exfalso; omega
  · refine zwif_ne (q := 9) (nx := 7) (by decide +kernel) (fun c9 => ?_) (fun c9 => ?_)
    · exfalso; omega
    · refine zwW_p [(0, -1, 0)] (q := 8) (ls' := [(2, (w - 90)), (0, a), (0, b), (0, c)]) (st' := [(0, -1)]) (by decide +kernel) rfl ?_
      refine zwW_ret (nx := 9) (a := 0) (b := 0) (by decide +kernel) rfl (Or.inl rfl) ?_
      exact ⟨rfl, by omega, by omega⟩
-- java/lang/String.indexOf(II)I
theorem m261 {sc : List Int} (h : Hp) (w a b : Int) (q_a : -2147483648 ≤ a ∧ a ≤ 2147483647) (hw : -33 < w ∧ w ≤ -10) (p1 : 0 ≤ b ∧ b ≤ 200) : zwC sc 3 261 [(2, w), (0, a), (0, b)] h (zwRt 0 (fun x g => h = g ∧ (-2147483648 ≤ x ∧ x ≤ 2147483647) ∧ (-1 ≤ x ∧ x ≤ 200))) := by
  refine zwC_of (D := 2) 3 (by decide +kernel) rfl (ls := [(2, w), (0, a), (0, b)]) rfl ?_
  refine zwW_p [(1, 0, 2)] (q := 1) (ls' := [(2, w), (0, a), (0, b)]) (st' := [(2, w)]) (by decide +kernel) rfl ?_
  refine zwW_cst (op := 60) (k' := 277) (n := 0) (nx := 4) (w := w) (tl := []) (st' := []) (by decide +kernel) rfl (by decide +kernel) (by first | omega | exact ⟨by omega, by omega⟩) rfl (m277 h w (by omega)) ?_
  rintro x _ ⟨rfl, rfl⟩
  refine zwif_eq (q := 23) (nx := 7) (by decide +kernel) (fun c1 => ?_) (fun c1 => ?_)
  · exfalso; omega
  · refine zwW_p [(1, 0, 2)] (q := 8) (ls' := [(2, w), (0, a), (0, b)]) (st' := [(2, w)]) (by decide +kernel) rfl ?_
    refine zwW_sval (nx := 11) (by decide +kernel) (by first | omega | exact ⟨by omega, by omega⟩) ?_
    refine zwW_p [(1, 1, 0), (1, 2, 0), (1, 0, 2)] (q := 14) (ls' := [(2, w), (0, a), (0, b)]) (st' := [(2, w), (0, b), (0, a), (2, (w - 90))]) (by decide +kernel) rfl ?_
    refine zwW_cst (op := 60) (k' := 265) (n := 0) (nx := 17) (w := w) (tl := []) (st' := [(0, b), (0, a), (2, (w - 90))]) (by decide +kernel) rfl (by decide +kernel) (by first | omega | exact ⟨by omega, by omega⟩) rfl (m265 h w (by omega)) ?_
    rintro v2 _ ⟨rfl, f3, f4, f5⟩
    refine zwW_cs (k' := 278) (n := 4) (nx := 20) (as := [(2, (w - 90)), (0, a), (0, b), (0, v2)]) (st' := []) (by decide +kernel) rfl (m278 h w a b v2 (by omega) (by omega) (by omega) (by omega)) rfl ?_
    rintro v6 _ ⟨rfl, f7, f8⟩
    refine zwW_p [(24, 36, 0)] (q := 36) (ls' := [(2, w), (0, a), (0, b)]) (st' := [(0, v6)]) (by decide +kernel) rfl ?_
    refine zwW_ret (nx := 37) (a := 0) (b := 0) (by decide +kernel) rfl (Or.inl rfl) ?_
    exact ⟨rfl, by omega, by omega⟩
-- java/lang/String.indexOf(I)I
theorem m240 {sc : List Int} (h : Hp) (w a : Int) (q_a : -2147483648 ≤ a ∧ a ≤ 2147483647) (hw : -33 < w ∧ w ≤ -10) : zwC sc 4 240 [(2, w), (0, a)] h (zwRt 0 (fun x g => h = g ∧ (-2147483648 ≤ x ∧ x ≤ 2147483647) ∧ (-1 ≤ x ∧ x ≤ 200))) := by
  refine zwC_of (D := 3) 2 (by decide +kernel) rfl (ls := [(2, w), (0, a)]) rfl ?_
  refine zwW_p [(1, 0, 2), (1, 1, 0), (0, 0, 0)] (q := 3) (ls' := [(2, w), (0, a)]) (st' := [(0, 0), (0, a), (2, w)]) (by decide +kernel) rfl ?_
  refine zwW_cst (op := 60) (k' := 261) (n := 2) (nx := 6) (w := w) (tl := [(0, a), (0, 0)]) (st' := []) (by decide +kernel) rfl (by decide +kernel) (by first | omega | exact ⟨by omega, by omega⟩) rfl (m261 h w a 0 (by omega) (by omega) (by omega)) ?_
  rintro v1 _ ⟨rfl, f2, f3⟩
  refine zwW_ret (nx := 7) (a := 0) (b := 0) (by decide +kernel) rfl (Or.inl rfl) ?_
  exact ⟨rfl, by omega, by omega⟩
-- java/lang/Integer.bitCount(I)I
theorem m210 {sc : List Int} (h : Hp) (a : Int) (q_a : -2147483648 ≤ a ∧ a ≤ 2147483647) : zwC sc 1 210 [(0, a)] h (zwRt 0 (fun x g => h = g ∧ (-2147483648 ≤ x ∧ x ≤ 2147483647))) := by
  refine zwC_of (D := 0) 1 (by decide +kernel) rfl (ls := [(0, a)]) rfl ?_
  refine zwW_p [(1, 0, 0), (1, 0, 0), (0, 1, 0)] (q := 3) (ls' := [(0, a)]) (st' := [(0, 1), (0, a), (0, a)]) (by decide +kernel) rfl ?_
  refine zwW_any2 (a := 10) (nx := 4) (by decide +kernel) rfl (by first | omega | exact ⟨by omega, by omega⟩) (Or.inr (by first | decide | exact ⟨by decide, by decide⟩)) ?_
  intro v1 lv1 uv1
  refine zwW_p [(0, 1431655765, 0)] (q := 7) (ls' := [(0, a)]) (st' := [(0, 1431655765), (0, v1), (0, a)]) (by decide +kernel) rfl ?_
  refine zwW_any2 (a := 5) (nx := 8) (by decide +kernel) rfl (by first | omega | exact ⟨by omega, by omega⟩) (Or.inr (by first | decide | exact ⟨by decide, by decide⟩)) ?_
  intro v2 lv2 uv2
  refine zwW_sbw (nx := 9) (by decide +kernel) ?_
  intro v3 ev3 lv3 uv3
  refine zwW_p [(2, 0, 0), (1, 0, 0), (0, 858993459, 0)] (q := 14) (ls' := [(0, v3)]) (st' := [(0, 858993459), (0, v3)]) (by decide +kernel) rfl ?_
  refine zwW_any2 (a := 5) (nx := 15) (by decide +kernel) rfl (by first | omega | exact ⟨by omega, by omega⟩) (Or.inr (by first | decide | exact ⟨by decide, by decide⟩)) ?_
  intro v4 lv4 uv4
  refine zwW_p [(1, 0, 0), (0, 2, 0)] (q := 17) (ls' := [(0, v3)]) (st' := [(0, 2), (0, v3), (0, v4)]) (by decide +kernel) rfl ?_
  refine zwW_any2 (a := 10) (nx := 18) (by decide +kernel) rfl (by first | omega | exact ⟨by omega, by omega⟩) (Or.inr (by first | decide | exact ⟨by decide, by decide⟩)) ?_
  intro v5 lv5 uv5
  refine zwW_p [(0, 858993459, 0)] (q := 21) (ls' := [(0, v3)]) (st' := [(0, 858993459), (0, v5), (0, v4)]) (by decide +kernel) rfl ?_
  refine zwW_any2 (a := 5) (nx := 22) (by decide +kernel) rfl (by first | omega | exact ⟨by omega, by omega⟩) (Or.inr (by first | decide | exact ⟨by decide, by decide⟩)) ?_
  intro v6 lv6 uv6
  refine zwW_adw (nx := 23) (by decide +kernel) ?_
  intro v7 ev7 lv7 uv7
  refine zwW_p [(2, 0, 0), (1, 0, 0), (1, 0, 0), (0, 4, 0)] (q := 27) (ls' := [(0, v7)]) (st' := [(0, 4), (0, v7), (0, v7)]) (by decide +kernel) rfl ?_
  refine zwW_any2 (a := 10) (nx := 28) (by decide +kernel) rfl (by first | omega | exact ⟨by omega, by omega⟩) (Or.inr (by first | decide | exact ⟨by decide, by decide⟩)) ?_
  intro v8 lv8 uv8
  refine zwW_adw (nx := 29) (by decide +kernel) ?_
  intro v9 ev9 lv9 uv9
  refine zwW_p [(0, 252645135, 0)] (q := 32) (ls' := [(0, v7)]) (st' := [(0, 252645135), (0, v9)]) (by decide +kernel) rfl ?_
  refine zwW_any2 (a := 5) (nx := 33) (by decide +kernel) rfl (by first | omega | exact ⟨by omega, by omega⟩) (Or.inr (by first | decide | exact ⟨by decide, by decide⟩)) ?_
  intro v10 lv10 uv10
  refine zwW_p [(2, 0, 0), (1, 0, 0), (1, 0, 0), (0, 8, 0)] (q := 38) (ls' := [(0, v10)]) (st' := [(0, 8), (0, v10), (0, v10)]) (by decide +kernel) rfl ?_
  refine zwW_any2 (a := 10) (nx := 39) (by decide +kernel) rfl (by first | omega | exact ⟨by omega, by omega⟩) (Or.inr (by first | decide | exact ⟨by decide, by decide⟩)) ?_
  intro v11 lv11 uv11
  refine zwW_adw (nx := 40) (by decide +kernel) ?_
  intro v12 ev12 lv12 uv12
  refine zwW_p [(2, 0, 0), (1, 0, 0), (1, 0, 0), (0, 16, 0)] (q := 45) (ls' := [(0, v12)]) (st' := [(0, 16), (0, v12), (0, v12)]) (by decide +kernel) rfl ?_
  refine zwW_any2 (a := 10) (nx := 46) (by decide +kernel) rfl (by first | omega | exact ⟨by omega, by omega⟩) (Or.inr (by first | decide | exact ⟨by decide, by decide⟩)) ?_
  intro v13 lv13 uv13
  refine zwW_adw (nx := 47) (by decide +kernel) ?_
  intro v14 ev14 lv14 uv14
  refine zwW_p [(2, 0, 0), (1, 0, 0), (0, 63, 0)] (q := 51) (ls' := [(0, v14)]) (st' := [(0, 63), (0, v14)]) (by decide +kernel) rfl ?_
  refine zwW_any2 (a := 5) (nx := 52) (by decide +kernel) rfl (by first | omega | exact ⟨by omega, by omega⟩) (Or.inr (by first | decide | exact ⟨by decide, by decide⟩)) ?_
  intro v15 lv15 uv15
  refine zwW_ret (nx := 53) (a := 0) (b := 0) (by decide +kernel) rfl (Or.inl rfl) ?_
  exact ⟨rfl, by omega⟩
end
section
/-! the lists one by one -/
section ZQ
variable {sc : List Int} {h : Hp}
theorem kept24 {r : Int} (G : gS h r) : kept h 24 (2, r) = some r := by
  obtain ⟨l, hc, -⟩ := sh_cel G.2.1
  unfold kept
  rw [if_neg (by decide), if_neg (by decide), if_neg (by decide), if_neg (by decide), if_pos rfl, if_pos rfl, hc]
  rfl
theorem zLb_2 (C : CI h) : 0 ≤ fld h 2 2 ∧ fld h 2 2 ≤ 8 := zLis_b C (A := 2) (by decide)
theorem x96_2 (C : CI h) : zwC sc 1 96 [(2, 2)] h (zwRt 0 (fun x g => h = g ∧ x = fld h 2 2)) := x96 C (A := 2) (by decide)
theorem x123_2 (C : CI h) {i : Int} (hi : 0 ≤ i ∧ i < fld h 2 2) : zwC sc 4 123 [(2, 2), (0, i)] h (zwRt 2 (fun x g => h = g ∧ gV h x ∧ x = fld h (fld h 2 1) i.toNat)) := x123 C (A := 2) (by decide) hi
theorem x100_2 (C : CI h) {r : Int} (G : gV h r) (hm : fld h 2 2 < 8) (hl : h.length ≤ 2000000000) : zwC sc 6 100 [(2, 2), (2, r)] h (zwRt 0 (fun x g => x = 1 ∧ zAdded h 2 r g)) := x100 C (A := 2) (by decide) G hm hl
theorem zLb_3 (C : CI h) : 0 ≤ fld h 3 2 ∧ fld h 3 2 ≤ 20 := zLis_b C (A := 3) (by decide)
theorem x96_3 (C : CI h) : zwC sc 1 96 [(2, 3)] h (zwRt 0 (fun x g => h = g ∧ x = fld h 3 2)) := x96 C (A := 3) (by decide)
theorem x123_3 (C : CI h) {i : Int} (hi : 0 ≤ i ∧ i < fld h 3 2) : zwC sc 4 123 [(2, 3), (0, i)] h (zwRt 2 (fun x g => h = g ∧ gH h x ∧ x = fld h (fld h 3 1) i.toNat)) := x123 C (A := 3) (by decide) hi
theorem x100_3 (C : CI h) {r : Int} (G : gH h r) (hm : fld h 3 2 < 20) (hl : h.length ≤ 2000000000) : zwC sc 6 100 [(2, 3), (2, r)] h (zwRt 0 (fun x g => x = 1 ∧ zAdded h 3 r g)) := x100 C (A := 3) (by decide) G hm hl
theorem zLb_4 (C : CI h) : 0 ≤ fld h 4 2 ∧ fld h 4 2 ≤ 300 := zLis_b C (A := 4) (by decide)
theorem x96_4 (C : CI h) : zwC sc 1 96 [(2, 4)] h (zwRt 0 (fun x g => h = g ∧ x = fld h 4 2)) := x96 C (A := 4) (by decide)
theorem x123_4 (C : CI h) {i : Int} (hi : 0 ≤ i ∧ i < fld h 4 2) : zwC sc 4 123 [(2, 4), (0, i)] h (zwRt 2 (fun x g => h = g ∧ gL h x ∧ x = fld h (fld h 4 1) i.toNat)) := x123 C (A := 4) (by decide) hi
theorem x100_4 (C : CI h) {r : Int} (G : gL h r) (hm : fld h 4 2 < 300) (hl : h.length ≤ 2000000000) : zwC sc 6 100 [(2, 4), (2, r)] h (zwRt 0 (fun x g => x = 1 ∧ zAdded h 4 r g)) := x100 C (A := 4) (by decide) G hm hl
theorem zLb_5 (C : CI h) : 0 ≤ fld h 5 2 ∧ fld h 5 2 ≤ 200 := zLis_b C (A := 5) (by decide)
theorem x96_5 (C : CI h) : zwC sc 1 96 [(2, 5)] h (zwRt 0 (fun x g => h = g ∧ x = fld h 5 2)) := x96 C (A := 5) (by decide)
theorem x123_5 (C : CI h) {i : Int} (hi : 0 ≤ i ∧ i < fld h 5 2) : zwC sc 4 123 [(2, 5), (0, i)] h (zwRt 2 (fun x g => h = g ∧ gC h x ∧ x = fld h (fld h 5 1) i.toNat)) := x123 C (A := 5) (by decide) hi
theorem x100_5 (C : CI h) {r : Int} (G : gC h r) (hm : fld h 5 2 < 200) (hl : h.length ≤ 2000000000) : zwC sc 6 100 [(2, 5), (2, r)] h (zwRt 0 (fun x g => x = 1 ∧ zAdded h 5 r g)) := x100 C (A := 5) (by decide) G hm hl
theorem zLb_14 (C : CI h) : 0 ≤ fld h 14 2 ∧ fld h 14 2 ≤ 8 := zLis_b C (A := 14) (by decide)
theorem x96_14 (C : CI h) : zwC sc 1 96 [(2, 14)] h (zwRt 0 (fun x g => h = g ∧ x = fld h 14 2)) := x96 C (A := 14) (by decide)
theorem x123_14 (C : CI h) {i : Int} (hi : 0 ≤ i ∧ i < fld h 14 2) : zwC sc 4 123 [(2, 14), (0, i)] h (zwRt 2 (fun x g => h = g ∧ gS h x ∧ x = fld h (fld h 14 1) i.toNat)) := x123 C (A := 14) (by decide) hi
theorem x100_14 (C : CI h) {r : Int} (G : gS h r) (hm : fld h 14 2 < 8) (hl : h.length ≤ 2000000000) : zwC sc 6 100 [(2, 14), (2, r)] h (zwRt 0 (fun x g => x = 1 ∧ zAdded h 14 r g)) := x100 C (A := 14) (by decide) G hm hl
theorem zLb_20 (C : CI h) : 0 ≤ fld h 20 2 ∧ fld h 20 2 ≤ 6 := zLis_b C (A := 20) (by decide)
theorem x96_20 (C : CI h) : zwC sc 1 96 [(2, 20)] h (zwRt 0 (fun x g => h = g ∧ x = fld h 20 2)) := x96 C (A := 20) (by decide)
theorem x123_20 (C : CI h) {i : Int} (hi : 0 ≤ i ∧ i < fld h 20 2) : zwC sc 4 123 [(2, 20), (0, i)] h (zwRt 2 (fun x g => h = g ∧ gL h x ∧ x = fld h (fld h 20 1) i.toNat)) := x123 C (A := 20) (by decide) hi
theorem x100_20 (C : CI h) {r : Int} (G : gL h r) (hm : fld h 20 2 < 6) (hl : h.length ≤ 2000000000) : zwC sc 6 100 [(2, 20), (2, r)] h (zwRt 0 (fun x g => x = 1 ∧ zAdded h 20 r g)) := x100 C (A := 20) (by decide) G hm hl
theorem x141_20 (C : CI h) : zwC sc 1 141 [(2, 20)] h (zwRv (zClr h 20)) := x141 C (A := 20) (by decide) (by decide)
theorem zLb_21 (C : CI h) : 0 ≤ fld h 21 2 ∧ fld h 21 2 ≤ 6 := zLis_b C (A := 21) (by decide)
theorem x96_21 (C : CI h) : zwC sc 1 96 [(2, 21)] h (zwRt 0 (fun x g => h = g ∧ x = fld h 21 2)) := x96 C (A := 21) (by decide)
theorem x123_21 (C : CI h) {i : Int} (hi : 0 ≤ i ∧ i < fld h 21 2) : zwC sc 4 123 [(2, 21), (0, i)] h (zwRt 2 (fun x g => h = g ∧ gH h x ∧ x = fld h (fld h 21 1) i.toNat)) := x123 C (A := 21) (by decide) hi
theorem x100_21 (C : CI h) {r : Int} (G : gH h r) (hm : fld h 21 2 < 6) (hl : h.length ≤ 2000000000) : zwC sc 6 100 [(2, 21), (2, r)] h (zwRt 0 (fun x g => x = 1 ∧ zAdded h 21 r g)) := x100 C (A := 21) (by decide) G hm hl
theorem x141_21 (C : CI h) : zwC sc 1 141 [(2, 21)] h (zwRv (zClr h 21)) := x141 C (A := 21) (by decide) (by decide)
end ZQ
end
section
/-! roads: the least days, measured village by village -/
section ZRO
variable {h h' g : Hp} {W L M : Nat → Nat → Int}
def zLa (h : Hp) (a b : Nat) : Int := fld h 7 (8 * a + b)
def zLe (h : Hp) (a b : Nat) : Int := fld h 8 (8 * a + b)
/-- what is laid: nothing to itself, 1000000 without a road -/
def zLd (h : Hp) : Prop := ∀ a b : Nat, a < 8 → b < 8 → 0 ≤ zLa h a b ∧ zLa h a b ≤ 1000000 ∧ (a = b → zLa h a b = 0)
/-- L: the least days by villages below n -/
def zFw (W L : Nat → Nat → Int) (n : Nat) : Prop :=
  (∀ a b : Nat, a < 8 → b < 8 → 0 ≤ L a b ∧ L a b ≤ W a b ∧ W a b ≤ 1000000) ∧ (∀ a : Nat, a < 8 → L a a = 0) ∧
  (∀ a b c : Nat, a < 8 → b < 8 → c < n → c < 8 → L a b ≤ L a c + L c b) ∧
  (∀ a b : Nat, a < 8 → b < 8 → a ≠ b → L a b < 1000000 → ∃ c : Nat, c < 8 ∧ c ≠ b ∧ W c b < 1000000 ∧ L a c + W c b ≤ L a b)
theorem zFw_start (H : zLd h) (e : ∀ a b : Nat, a < 8 → b < 8 → zLe h a b = zLa h a b) : zFw (zLa h) (zLe h) 0 := by
  refine ⟨fun a b ha hb => ?_, fun a ha => ?_, fun a b c _ _ hc => by omega, fun a b ha hb hne hl => ⟨a, ha, hne, ?_, ?_⟩⟩
  · have := H a b ha hb
    rw [e a b ha hb]
    omega
  · rw [e a a ha ha]
    exact (H a a ha ha).2.2 rfl
  · rw [← e a b ha hb]; exact hl
  · rw [e a a ha ha, e a b ha hb, (H a a ha ha).2.2 rfl]
    omega
/-- up to row f, place t, stage n is done -/
def zCu (L : Nat → Nat → Int) (n f t : Nat) (M : Nat → Nat → Int) : Prop := ∀ a b : Nat, a < 8 → b < 8 → M a b = if a < f ∨ (a = f ∧ b < t) then min (L a b) (L a n + L n b) else L a b
theorem zCu.start (n : Nat) : zCu L n 0 0 L := by
  intro a b _ _
  rw [if_neg (by omega)]
theorem zCu.row {n f t : Nat} (H : zCu L n f t M) (ht : 8 ≤ t) : zCu L n (f + 1) 0 M := by
  intro a b ha hb
  rw [H a b ha hb]
  by_cases z : a < f ∨ (a = f ∧ b < t)
  · rw [if_pos z, if_pos (by omega)]
  · rw [if_neg z, if_neg (by omega)]
theorem zCu.w {n f t i : Nat} {x : Int} {k : Nat} (H : zCu L n f t (zLe h)) (hn : n < 8) (hf : f < 8) (ht : t < 8) (h0 : L n n = 0) (hp : ∀ a b : Nat, a < 8 → b < 8 → 0 ≤ L a b) (e : h' = wr h 8 i x) (hi : i = 8 * f + t) (s : sh h 8 = some (k, 64)) (hx : x = min (zLe h f t) (zLe h f n + zLe h n t)) : zCu L n f (t + 1) (zLe h') := by
  have c1 : zLe h f t = L f t := by rw [H f t hf ht, if_neg (by omega)]
  have c2 : zLe h f n = L f n := by
    rw [H f n hf hn]
    split
    · rw [h0]; omega
    · rfl
  have c3 : zLe h n t = L n t := by
    rw [H n t hn ht]
    split
    · rw [h0]; omega
    · rfl
  rw [c1, c2, c3] at hx
  intro a b ha hb
  by_cases z : a = f ∧ b = t
  · obtain ⟨rfl, rfl⟩ := z
    rw [if_pos (by omega), ← hx]
    show fld h' 8 (8 * a + b) = x
    rw [← hi, e]
    exact fld_wr_eq s (by omega)
  · have w : zLe h' a b = zLe h a b := by
      show fld h' 8 (8 * a + b) = fld h 8 (8 * a + b)
      rw [e]
      exact fld_wr (Or.inr (by omega))
    rw [w, H a b ha hb]
    by_cases q : a < f ∨ (a = f ∧ b < t)
    · rw [if_pos q, if_pos (by omega)]
    · rw [if_neg q, if_neg (by omega)]
theorem zFw.next {n f : Nat} (F : zFw W L n) (hn : n < 8) (H : zCu L n f 0 M) (hf : 8 ≤ f) : zFw W M (n + 1) := by
  obtain ⟨F1, F2, F3, F4⟩ := F
  have m : ∀ a b : Nat, a < 8 → b < 8 → M a b = min (L a b) (L a n + L n b) := fun a b ha hb => by rw [H a b ha hb, if_pos (by omega)]
  refine ⟨fun a b ha hb => ?_, fun a ha => ?_, fun a b c ha hb hc hc8 => ?_, fun a b ha hb hne hl => ?_⟩
  · have := F1 a b ha hb
    have := F1 a n ha hn
    have := F1 n b hn hb
    rw [m a b ha hb]
    omega
  · have := F1 a n ha hn
    have := F1 n a hn ha
    rw [m a a ha ha, F2 a ha]
    omega
  · rw [m a b ha hb, m a c ha hc8, m c b hc8 hb]
    have p1 := F1 a n ha hn
    have p2 := F1 n b hn hb
    have p3 := F2 n hn
    by_cases q : c = n
    · subst q
      rw [p3]
      omega
    · have t1 := F3 a b c ha hb (by omega) hc8
      have t2 := F3 n b c hn hb (by omega) hc8
      have t3 := F3 a n c ha hn (by omega) hc8
      have t4 := F3 n n c hn hn (by omega) hc8
      omega
  · rw [m a b ha hb] at hl
    by_cases q : L a b ≤ L a n + L n b
    · obtain ⟨c, c1, c2, c3, c4⟩ := F4 a b ha hb hne (by omega)
      refine ⟨c, c1, c2, c3, ?_⟩
      rw [m a c ha c1, m a b ha hb]
      omega
    · have nb : n ≠ b := by
        intro z
        subst z
        rw [F2 n hn] at q
        omega
      have p1 := F1 a n ha hn
      obtain ⟨c, c1, c2, c3, c4⟩ := F4 n b hn hb nb (by omega)
      refine ⟨c, c1, c2, c3, ?_⟩
      rw [m a c ha c1, m a b ha hb]
      omega
/-- what is laid, behind two writes -/
theorem zLd.w {h1 h2 : Hp} {a b i j k k2 : Nat} {x : Int} (H : zLd h) (ha : a < 8) (hb : b < 8) (hne : a ≠ b) (hx : 1 ≤ x ∧ x ≤ 9) (e1 : h1 = wr h 7 i x) (e2 : h2 = wr h1 7 j x) (hi : i = 8 * a + b) (hj : j = 8 * b + a) (s1 : sh h 7 = some (k, 64)) (s2 : sh h1 7 = some (k2, 64)) : zLd h2 ∧ ∀ p q : Nat, p < 8 → q < 8 → zLa h2 p q = if (p = a ∧ q = b) ∨ (p = b ∧ q = a) then x else zLa h p q := by
  have w : ∀ p q : Nat, p < 8 → q < 8 → zLa h2 p q = if (p = a ∧ q = b) ∨ (p = b ∧ q = a) then x else zLa h p q := by
    intro p q hp hq
    show fld h2 7 (8 * p + q) = _
    by_cases z2 : p = b ∧ q = a
    · obtain ⟨rfl, rfl⟩ := z2
      rw [if_pos (Or.inr ⟨rfl, rfl⟩), ← hj, e2]
      exact fld_wr_eq s2 (by omega)
    · rw [e2, fld_wr (Or.inr (by omega))]
      by_cases z1 : p = a ∧ q = b
      · obtain ⟨rfl, rfl⟩ := z1
        rw [if_pos (Or.inl ⟨rfl, rfl⟩), ← hi, e1]
        exact fld_wr_eq s1 (by omega)
      · rw [e1, fld_wr (Or.inr (by omega)), if_neg (by omega)]
        rfl
  refine ⟨fun p q hp hq => ?_, w⟩
  rw [w p q hp hq]
  split
  · omega
  · exact H p q hp hq
end ZRO
section ZRO2
variable {h h' h1 g : Hp} {W W' L M : Nat → Nat → Int}
theorem zFw.cg {n : Nat} (F : zFw W L n) (e : ∀ a b : Nat, a < 8 → b < 8 → W' a b = W a b) : zFw W' L n := by
  obtain ⟨F1, F2, F3, F4⟩ := F
  refine ⟨fun a b ha hb => by rw [e a b ha hb]; exact F1 a b ha hb, F2, F3, fun a b ha hb hne hl => ?_⟩
  obtain ⟨c, c1, c2, c3, c4⟩ := F4 a b ha hb hne hl
  exact ⟨c, c1, c2, by rw [e c b c1 hb]; exact c3, by rw [e c b c1 hb]; exact c4⟩
theorem zFw.cg2 {n : Nat} (F : zFw W L n) (e : ∀ a b : Nat, a < 8 → b < 8 → M a b = L a b) (hn : n ≤ 8) : zFw W M n := by
  obtain ⟨F1, F2, F3, F4⟩ := F
  refine ⟨fun a b ha hb => by rw [e a b ha hb]; exact F1 a b ha hb, fun a ha => by rw [e a a ha ha]; exact F2 a ha, fun a b c ha hb hc hc8 => by rw [e a b ha hb, e a c ha hc8, e c b hc8 hb]; exact F3 a b c ha hb hc hc8, fun a b ha hb hne hl => ?_⟩
  rw [e a b ha hb] at hl
  obtain ⟨c, c1, c2, c3, c4⟩ := F4 a b ha hb hne hl
  exact ⟨c, c1, c2, c3, by rw [e a b ha hb, e a c ha c1]; exact c4⟩
theorem zFw.cb {n f t : Nat} (F : zFw W L n) (H : zCu L n f t M) (hn : n < 8) {a b : Nat} (ha : a < 8) (hb : b < 8) : 0 ≤ M a b ∧ M a b ≤ 1000000 := by
  have p1 := F.1 a b ha hb
  have p2 := F.1 a n ha hn
  have p3 := F.1 n b hn hb
  rw [H a b ha hb]
  split <;> omega
/-- far: the least days, -1 without a way -/
def zDa (h : Hp) (a b : Nat) : Int := if zLe h a b < 1000000 then zLe h a b else -1
/-- the model's days and what is laid -/
def zDm (h : Hp) : Prop := ∀ a b : Nat, a < 8 → b < 8 → (zLa h a b = if a = b then 0 else if fld h (48 + (a : Int)) b = 0 then 1000000 else fld h (48 + (a : Int)) b) ∧ (fld h (48 + (a : Int)) b ≠ 0 → a ≠ b ∧ (a : Int) < fld h 37 1 ∧ (b : Int) < fld h 37 1 ∧ 1 ≤ fld h (48 + (a : Int)) b ∧ fld h (48 + (a : Int)) b ≤ 9)
def zRO (h : Hp) : Prop := zLd h ∧ zFw (zLa h) (zLe h) 8 ∧ zDm h
end ZRO2
end
section
/-! constructors -/
section ZN
variable {sc : List Int} {D D' y pc nx : Nat} {ls st st' : List Vl} {h h' h0 h1 h2 g : Hp} {Q : Option Vl → Hp → Prop}
/-- a fresh object: what stands in it, how much is new -/
def zFr (h0 h : Hp) (r : Int) (kd : Nat) (l : List Int) (c s : Nat) : Prop := zOld h0 h ∧ zDy h ∧ cel h r = some (kd, l) ∧ h.length = h0.length + c ∧ sz h = sz h0 + s
theorem zFr.start (C : CI h) {kd n : Nat} : zFr h (h ++ [(kd, List.replicate n 0)]) ((h.length + 1 : Nat) : Int) kd (List.replicate n 0) 1 n := by
  refine ⟨zOld.app _, C.2.1.app (fun x hx => by rw [List.eq_of_mem_replicate hx]; decide), cel_new _, by rw [List.length_append, List.length_singleton], ?_⟩
  rw [sz_app]
  unfold sz
  simp
theorem zwX_fp {kd bn t tv c s : Nat} {r x : Int} {l : List Int} (e : zkPut y pc nx kd bn t = true) (F : zFr h0 h r kd l c s) (hr : h0.length < r) (hb : Nat.blt bn l.length = true) (ht : keptF t (tv, x) = some x) (hx : t ≠ 0 ∨ (-2147483648 ≤ x ∧ x ≤ 2147483647)) (k : ∀ g, zFr h0 g r kd (l.set bn x) c s → (∀ q : Int, q ≠ r → cel g q = cel h q) → zwW sc D y nx ls st g Q) : zwW sc D y pc ls ((tv, x) :: (2, r) :: st) h Q := by
  obtain ⟨O, Y, hc, h3, h4⟩ := F
  refine zwW_put e (sh_of hc) hb ht (fun g eg => ?_)
  have hg := wr_of (i := bn) (x := x) hc
  have hcel : ∀ q, cel g q = if q = r then some (kd, l.set bn x) else cel h q := fun q => by rw [eg, hg]; exact cel_set q (by rw [hc]; rfl)
  refine k g ⟨O.w eg hr, ?_, by rw [hcel, if_pos rfl], by rw [eg, len_wr]; exact h3, by rw [eg, sz_wr]; exact h4⟩ (fun q hq => by rw [hcel, if_neg hq])
  rcases hx with hx | hx
  · exact Y.wq eg (sh_of hc) (by rw [(zkPut_of e).2]; exact hx)
  · exact Y.w eg hx
theorem zFr.fin {r : Int} {kd c s : Nat} {l : List Int} (C : CI h0) (F : zFr h0 g r kd l c s) : CI g ∧ zXR [] c s h0 g := ⟨C.old F.1 F.2.1, F.1.xr C (by have := F.2.2.2.1; omega) (by have := F.2.2.2.2; omega) []⟩
theorem x108 {sc : List Int} (h0 : Hp) (C : CI h0) (a v b : Int) (q_a : -2147483648 ≤ a ∧ a ≤ 2147483647) (q_b : 0 ≤ b ∧ b ≤ 2147483647) (G : gV h0 v) : zwC sc 1 108 [(2, ((h0.length + 1 : Nat) : Int)), (0, a), (2, v), (0, b)] (h0 ++ [(4, List.replicate 19 0)]) (zwRv (fun g => CI g ∧ zXR [] 1 19 h0 g ∧ gH g ((h0.length + 1 : Nat) : Int) ∧ cel g ((h0.length + 1 : Nat) : Int) = some (4, [a, v, b / 1000, b / 100 % 10, b / 10 % 10, b % 10, 0, 10, 0, 0, 0, 0, 0, 0, 0, 0, 0, 0, 0]))) := by
  have F := zFr.start C (kd := 4) (n := 19)
  have hlen := C.len
  obtain ⟨r, er⟩ : ∃ r, r = ((h0.length + 1 : Nat) : Int) := ⟨_, rfl⟩
  rw [← er] at F ⊢
  have hr : (h0.length : Int) < r := by omega
  refine zwC_of (D := 0) 4 (by decide +kernel) rfl (ls := [(2, r), (0, a), (2, v), (0, b)]) rfl ?_
  refine zwW_p [(1, 0, 2)] (q := 1) (ls' := [(2, r), (0, a), (2, v), (0, b)]) (st' := [(2, r)]) (by decide +kernel) rfl ?_
  refine zwW_obj (nx := 4) (by decide +kernel) (by omega) rfl ?_
  refine zwW_p [(1, 0, 2), (0, 10, 0)] (q := 7) (ls' := [(2, r), (0, a), (2, v), (0, b)]) (st' := [(0, 10), (2, r)]) (by decide +kernel) rfl ?_
  refine zwX_fp (kd := 4) (bn := 7) (t := 0) (nx := 10) (by decide +kernel) F hr rfl rfl (Or.inr (by decide)) ?_
  intro g1 F o
  refine zwW_p [(1, 0, 2), (1, 1, 0)] (q := 12) (ls' := [(2, r), (0, a), (2, v), (0, b)]) (st' := [(0, a), (2, r)]) (by decide +kernel) rfl ?_
  refine zwX_fp (kd := 4) (bn := 0) (t := 0) (nx := 15) (by decide +kernel) F hr rfl rfl (Or.inr q_a) ?_
  intro g2 F o
  refine zwW_p [(1, 0, 2), (1, 2, 2)] (q := 17) (ls' := [(2, r), (0, a), (2, v), (0, b)]) (st' := [(2, v), (2, r)]) (by decide +kernel) rfl ?_
  refine zwX_fp (kd := 4) (bn := 1) (t := 2) (nx := 20) (by decide +kernel) F hr rfl rfl (Or.inl (by decide)) ?_
  intro g3 F o
  refine zwW_p [(1, 0, 2), (1, 3, 0), (0, 1000, 0)] (q := 25) (ls' := [(2, r), (0, a), (2, v), (0, b)]) (st' := [(0, 1000), (0, b), (2, r)]) (by decide +kernel) rfl ?_
  refine zwW_div (nx := 26) (by decide +kernel) (by omega) (by omega) (by omega) ?_
  refine zwX_fp (kd := 4) (bn := 2) (t := 0) (nx := 29) (by decide +kernel) F hr rfl rfl (Or.inr (by first | omega | exact ⟨by omega, by omega⟩)) ?_
  intro g4 F o
  refine zwW_p [(1, 0, 2), (1, 3, 0), (0, 100, 0)] (q := 33) (ls' := [(2, r), (0, a), (2, v), (0, b)]) (st' := [(0, 100), (0, b), (2, r)]) (by decide +kernel) rfl ?_
  refine zwW_div (nx := 34) (by decide +kernel) (by omega) (by omega) (by omega) ?_
  refine zwW_p [(0, 10, 0)] (q := 36) (ls' := [(2, r), (0, a), (2, v), (0, b)]) (st' := [(0, 10), (0, b / 100), (2, r)]) (by decide +kernel) rfl ?_
  refine zwW_rem (nx := 37) (by decide +kernel) (by omega) (by omega) ?_
  refine zwX_fp (kd := 4) (bn := 3) (t := 0) (nx := 40) (by decide +kernel) F hr rfl rfl (Or.inr (by first | omega | exact ⟨by omega, by omega⟩)) ?_
  intro g5 F o
  refine zwW_p [(1, 0, 2), (1, 3, 0), (0, 10, 0)] (q := 44) (ls' := [(2, r), (0, a), (2, v), (0, b)]) (st' := [(0, 10), (0, b), (2, r)]) (by decide +kernel) rfl ?_
  refine zwW_div (nx := 45) (by decide +kernel) (by omega) (by omega) (by omega) ?_
  refine zwW_p [(0, 10, 0)] (q := 47) (ls' := [(2, r), (0, a), (2, v), (0, b)]) (st' := [(0, 10), (0, b / 10), (2, r)]) (by decide +kernel) rfl ?_
  refine zwW_rem (nx := 48) (by decide +kernel) (by omega) (by omega) ?_
  refine zwX_fp (kd := 4) (bn := 4) (t := 0) (nx := 51) (by decide +kernel) F hr rfl rfl (Or.inr (by first | omega | exact ⟨by omega, by omega⟩)) ?_
  intro g6 F o
  refine zwW_p [(1, 0, 2), (1, 3, 0), (0, 10, 0)] (q := 55) (ls' := [(2, r), (0, a), (2, v), (0, b)]) (st' := [(0, 10), (0, b), (2, r)]) (by decide +kernel) rfl ?_
  refine zwW_rem (nx := 56) (by decide +kernel) (by omega) (by omega) ?_
  refine zwX_fp (kd := 4) (bn := 5) (t := 0) (nx := 59) (by decide +kernel) F hr rfl rfl (Or.inr (by first | omega | exact ⟨by omega, by omega⟩)) ?_
  intro g7 F o
  obtain ⟨Cg, R⟩ := F.fin C
  have hc : cel g7 r = some (4, [a, v, b / 1000, b / 100 % 10, b / 10 % 10, b % 10, 0, 10, 0, 0, 0, 0, 0, 0, 0, 0, 0, 0, 0]) := F.2.2.1
  refine zwW_retv (nx := 60) (a := 0) (b := 0) (by decide +kernel) ⟨Cg, R, ⟨by omega, sh_of hc, ?_⟩, hc⟩
  rw [fld_of hc]
  exact G.x R
theorem x231 {sc : List Int} (h0 : Hp) (C : CI h0) (a v b d : Int) (q_a : -2147483648 ≤ a ∧ a ≤ 2147483647) (q_b : -2147483648 ≤ b ∧ b ≤ 2147483647) (q_d : -2147483648 ≤ d ∧ d ≤ 2147483647) (G : gH h0 v) (S : ∀ g, zOld h0 g → CI g → zwC sc 1 169 [(2, v)] g (zwRt 0 (fun x g' => g = g' ∧ (-2147483648 ≤ x ∧ x ≤ 2147483647)))) : zwC sc 2 231 [(2, ((h0.length + 1 : Nat) : Int)), (0, a), (2, v), (0, b), (0, d)] (h0 ++ [(6, List.replicate 7 0)]) (zwRv (fun g => CI g ∧ zXR [] 1 7 h0 g ∧ gL g ((h0.length + 1 : Nat) : Int) ∧ ∃ z, cel g ((h0.length + 1 : Nat) : Int) = some (6, [a, v, b, fld h0 v 7, z, d, d]))) := by
  have F := zFr.start C (kd := 6) (n := 7)
  have hlen := C.len
  obtain ⟨r, er⟩ : ∃ r, r = ((h0.length + 1 : Nat) : Int) := ⟨_, rfl⟩
  rw [← er] at F ⊢
  have hr : (h0.length : Int) < r := by omega
  have hv := sh_pos G.2.1
  have hvr : v ≠ r := by omega
  have hb := C.2.1 v 4 19 7 G.1 G.2.1 rfl
  refine zwC_of (D := 1) 5 (by decide +kernel) rfl (ls := [(2, r), (0, a), (2, v), (0, b), (0, d)]) rfl ?_
  refine zwW_p [(1, 0, 2)] (q := 1) (ls' := [(2, r), (0, a), (2, v), (0, b), (0, d)]) (st' := [(2, r)]) (by decide +kernel) rfl ?_
  refine zwW_obj (nx := 4) (by decide +kernel) (by omega) rfl ?_
  refine zwW_p [(1, 0, 2), (1, 1, 0)] (q := 6) (ls' := [(2, r), (0, a), (2, v), (0, b), (0, d)]) (st' := [(0, a), (2, r)]) (by decide +kernel) rfl ?_
  refine zwX_fp (kd := 6) (bn := 0) (t := 0) (nx := 9) (by decide +kernel) F hr rfl rfl (Or.inr q_a) ?_
  intro g1 F o
  refine zwW_p [(1, 0, 2), (1, 2, 2)] (q := 11) (ls' := [(2, r), (0, a), (2, v), (0, b), (0, d)]) (st' := [(2, v), (2, r)]) (by decide +kernel) rfl ?_
  refine zwX_fp (kd := 6) (bn := 1) (t := 2) (nx := 14) (by decide +kernel) F hr rfl rfl (Or.inl (by decide)) ?_
  intro g2 F o
  refine zwW_p [(1, 0, 2), (1, 3, 0)] (q := 16) (ls' := [(2, r), (0, a), (2, v), (0, b), (0, d)]) (st' := [(0, b), (2, r)]) (by decide +kernel) rfl ?_
  refine zwX_fp (kd := 6) (bn := 2) (t := 0) (nx := 19) (by decide +kernel) F hr rfl rfl (Or.inr q_b) ?_
  intro g3 F o
  refine zwW_p [(1, 0, 2), (1, 4, 0)] (q := 22) (ls' := [(2, r), (0, a), (2, v), (0, b), (0, d)]) (st' := [(0, d), (2, r)]) (by decide +kernel) rfl ?_
  refine zwX_fp (kd := 6) (bn := 5) (t := 0) (nx := 25) (by decide +kernel) F hr rfl rfl (Or.inr q_d) ?_
  intro g4 F o
  refine zwW_p [(1, 0, 2), (1, 2, 2)] (q := 27) (ls' := [(2, r), (0, a), (2, v), (0, b), (0, d)]) (st' := [(2, v), (2, r)]) (by decide +kernel) rfl ?_
  refine zwW_get (kd := 4) (bn := 7) (t := 0) (n := 19) (nx := 30) (by decide +kernel) (F.1.sp G.2.1) rfl ?_
  rw [F.1.fl hv.2]
  refine zwX_fp (kd := 6) (bn := 3) (t := 0) (nx := 33) (by decide +kernel) F hr rfl rfl (Or.inr hb) ?_
  intro g5 F o
  refine zwW_p [(1, 0, 2), (1, 2, 2)] (q := 35) (ls' := [(2, r), (0, a), (2, v), (0, b), (0, d)]) (st' := [(2, v), (2, r)]) (by decide +kernel) rfl ?_
  refine zwW_cv (op := 60) (k' := 169) (n := 0) (kd := 4) (m := 19) (nx := 38) (r := v) (tl := []) (st' := [(2, r)]) (by decide +kernel) rfl (by decide +kernel) (F.1.sp G.2.1) (S g5 F.1 (C.old F.1 F.2.1)) rfl ?_
  rintro z _ ⟨rfl, hz⟩
  refine zwX_fp (kd := 6) (bn := 4) (t := 0) (nx := 41) (by decide +kernel) F hr rfl rfl (Or.inr hz) ?_
  intro g6 F o
  refine zwW_p [(1, 0, 2), (1, 4, 0)] (q := 44) (ls' := [(2, r), (0, a), (2, v), (0, b), (0, d)]) (st' := [(0, d), (2, r)]) (by decide +kernel) rfl ?_
  refine zwX_fp (kd := 6) (bn := 6) (t := 0) (nx := 47) (by decide +kernel) F hr rfl rfl (Or.inr q_d) ?_
  intro g7 F o
  obtain ⟨Cg, R⟩ := F.fin C
  have hc : cel g7 r = some (6, [a, v, b, fld h0 v 7, z, d, d]) := F.2.2.1
  refine zwW_retv (nx := 48) (a := 0) (b := 0) (by decide +kernel) ⟨Cg, R, ⟨by omega, sh_of hc, ?_⟩, z, hc⟩
  rw [fld_of hc]
  exact G.x R
theorem x135 {sc : List Int} (h0 : Hp) (C : CI h0) (v w a b d : Int) (q_a : -2147483648 ≤ a ∧ a ≤ 2147483647) (q_b : -2147483648 ≤ b ∧ b ≤ 2147483647) (G : gL h0 v) (H : gH h0 w) (q_d : d = 0 ∨ d = 1) : zwC sc 1 135 [(2, ((h0.length + 1 : Nat) : Int)), (2, v), (2, w), (0, a), (0, b), (0, d)] (h0 ++ [(1, List.replicate 6 0)]) (zwRv (fun g => CI g ∧ zXR [] 1 6 h0 g ∧ gC g ((h0.length + 1 : Nat) : Int) ∧ cel g ((h0.length + 1 : Nat) : Int) = some (1, [v, w, a, b, d, -1]))) := by
  have F := zFr.start C (kd := 1) (n := 6)
  have hlen := C.len
  obtain ⟨r, er⟩ : ∃ r, r = ((h0.length + 1 : Nat) : Int) := ⟨_, rfl⟩
  rw [← er] at F ⊢
  have hr : (h0.length : Int) < r := by omega
  refine zwC_of (D := 0) 6 (by decide +kernel) rfl (ls := [(2, r), (2, v), (2, w), (0, a), (0, b), (0, d)]) rfl ?_
  refine zwW_p [(1, 0, 2)] (q := 1) (ls' := [(2, r), (2, v), (2, w), (0, a), (0, b), (0, d)]) (st' := [(2, r)]) (by decide +kernel) rfl ?_
  refine zwW_obj (nx := 4) (by decide +kernel) (by omega) rfl ?_
  refine zwW_p [(1, 0, 2), (0, -1, 0)] (q := 6) (ls' := [(2, r), (2, v), (2, w), (0, a), (0, b), (0, d)]) (st' := [(0, -1), (2, r)]) (by decide +kernel) rfl ?_
  refine zwX_fp (kd := 1) (bn := 5) (t := 0) (nx := 9) (by decide +kernel) F hr rfl rfl (Or.inr (by decide)) ?_
  intro g1 F o
  refine zwW_p [(1, 0, 2), (1, 1, 2)] (q := 11) (ls' := [(2, r), (2, v), (2, w), (0, a), (0, b), (0, d)]) (st' := [(2, v), (2, r)]) (by decide +kernel) rfl ?_
  refine zwX_fp (kd := 1) (bn := 0) (t := 2) (nx := 14) (by decide +kernel) F hr rfl rfl (Or.inl (by decide)) ?_
  intro g2 F o
  refine zwW_p [(1, 0, 2), (1, 2, 2)] (q := 16) (ls' := [(2, r), (2, v), (2, w), (0, a), (0, b), (0, d)]) (st' := [(2, w), (2, r)]) (by decide +kernel) rfl ?_
  refine zwX_fp (kd := 1) (bn := 1) (t := 2) (nx := 19) (by decide +kernel) F hr rfl rfl (Or.inl (by decide)) ?_
  intro g3 F o
  refine zwW_p [(1, 0, 2), (1, 3, 0)] (q := 21) (ls' := [(2, r), (2, v), (2, w), (0, a), (0, b), (0, d)]) (st' := [(0, a), (2, r)]) (by decide +kernel) rfl ?_
  refine zwX_fp (kd := 1) (bn := 2) (t := 0) (nx := 24) (by decide +kernel) F hr rfl rfl (Or.inr q_a) ?_
  intro g4 F o
  refine zwW_p [(1, 0, 2), (1, 4, 0)] (q := 27) (ls' := [(2, r), (2, v), (2, w), (0, a), (0, b), (0, d)]) (st' := [(0, b), (2, r)]) (by decide +kernel) rfl ?_
  refine zwX_fp (kd := 1) (bn := 3) (t := 0) (nx := 30) (by decide +kernel) F hr rfl rfl (Or.inr q_b) ?_
  intro g5 F o
  refine zwW_p [(1, 0, 2), (1, 5, 0)] (q := 33) (ls' := [(2, r), (2, v), (2, w), (0, a), (0, b), (0, d)]) (st' := [(0, d), (2, r)]) (by decide +kernel) rfl ?_
  refine zwX_fp (kd := 1) (bn := 4) (t := 4) (nx := 36) (by decide +kernel) F hr rfl (by rcases q_d with rfl | rfl <;> rfl) (Or.inl (by decide)) ?_
  intro g6 F o
  obtain ⟨Cg, R⟩ := F.fin C
  have hc : cel g6 r = some (1, [v, w, a, b, d, -1]) := F.2.2.1
  refine zwW_retv (nx := 37) (a := 0) (b := 0) (by decide +kernel) ⟨Cg, R, ⟨by omega, sh_of hc, ?_, ?_⟩, hc⟩
  · rw [fld_of hc]; exact G.x R
  · rw [fld_of hc]; exact H.x R
theorem x203 {sc : List Int} (h0 h : Hp) (C : CI h0) (r a v w : Int) {c s n : Nat} (F : zFr h0 h r 10 (List.replicate 3 0) c s) (hr : h0.length < r) (q_a : -2147483648 ≤ a ∧ a ≤ 2147483647) (hv : 365 < v ∧ sh h v = some (20, n) ∧ v ≠ r) (hw : 365 < w ∧ sh h w = some (20, 5) ∧ w ≠ r) : zwC sc 1 203 [(2, r), (0, a), (2, v), (2, w)] h (zwRv (fun g => CI g ∧ zXR [] c s h0 g ∧ gS g r ∧ cel g r = some (10, [a, v, w]) ∧ ∀ q : Int, q ≠ r → cel g q = cel h q)) := by
  have hlen := C.len
  refine zwC_of (D := 0) 4 (by decide +kernel) rfl (ls := [(2, r), (0, a), (2, v), (2, w)]) rfl ?_
  refine zwW_p [(1, 0, 2)] (q := 1) (ls' := [(2, r), (0, a), (2, v), (2, w)]) (st' := [(2, r)]) (by decide +kernel) rfl ?_
  refine zwW_obj (nx := 4) (by decide +kernel) (by omega) rfl ?_
  refine zwW_p [(1, 0, 2), (1, 1, 0)] (q := 6) (ls' := [(2, r), (0, a), (2, v), (2, w)]) (st' := [(0, a), (2, r)]) (by decide +kernel) rfl ?_
  refine zwX_fp (kd := 10) (bn := 0) (t := 0) (nx := 9) (by decide +kernel) F hr rfl rfl (Or.inr q_a) ?_
  intro g1 F o1
  refine zwW_p [(1, 0, 2), (1, 2, 2)] (q := 11) (ls' := [(2, r), (0, a), (2, v), (2, w)]) (st' := [(2, v), (2, r)]) (by decide +kernel) rfl ?_
  refine zwX_fp (kd := 10) (bn := 1) (t := 2) (nx := 14) (by decide +kernel) F hr rfl rfl (Or.inl (by decide)) ?_
  intro g2 F o2
  refine zwW_p [(1, 0, 2), (1, 3, 2)] (q := 16) (ls' := [(2, r), (0, a), (2, v), (2, w)]) (st' := [(2, w), (2, r)]) (by decide +kernel) rfl ?_
  refine zwX_fp (kd := 10) (bn := 2) (t := 2) (nx := 19) (by decide +kernel) F hr rfl rfl (Or.inl (by decide)) ?_
  intro g3 F o3
  obtain ⟨Cg, R⟩ := F.fin C
  have hc : cel g3 r = some (10, [a, v, w]) := F.2.2.1
  have ho : ∀ q : Int, q ≠ r → cel g3 q = cel h q := fun q hq => by rw [o3 q hq, o2 q hq, o1 q hq]
  have hs : ∀ q : Int, q ≠ r → sh g3 q = sh h q := fun q hq => by unfold sh; rw [ho q hq]
  refine zwW_retv (nx := 20) (a := 0) (b := 0) (by decide +kernel) ⟨Cg, R, ⟨by omega, sh_of hc, ?_, ?_⟩, hc, ho⟩
  · rw [fld_of hc]; exact ⟨hv.1, n, by show sh g3 v = _; rw [hs v hv.2.2]; exact hv.2.1⟩
  · rw [fld_of hc]; exact ⟨hw.1, by show sh g3 w = _; rw [hs w hw.2.2]; exact hw.2.1⟩
theorem x99 {sc : List Int} (h0 : Hp) (C : CI h0) (a b c d : Int) (q_a : -2147483648 ≤ a ∧ a ≤ 2147483647) (q_b : -2147483648 ≤ b ∧ b ≤ 2147483647) (q_c : -2147483648 ≤ c ∧ c ≤ 2147483647) (q_d : -2147483648 ≤ d ∧ d ≤ 2147483647) : zwC sc 2 99 [(2, ((h0.length + 1 : Nat) : Int)), (0, a), (0, b), (0, c), (0, d)] (h0 ++ [(11, List.replicate 17 0)]) (zwRv (fun g => CI g ∧ zXR [] 2 174 h0 g ∧ gV g ((h0.length + 1 : Nat) : Int) ∧ cel g ((h0.length + 1 : Nat) : Int) = some (11, [a, b, c, d, 0, 0, 0, 0, 20, 10, 0, 0, 0, 0, 0, 0, ((h0.length + 2 : Nat) : Int)]) ∧ ∀ j : Nat, j < 157 → fld g ((h0.length + 2 : Nat) : Int) j = 10)) := by
  have F := zFr.start C (kd := 11) (n := 17)
  have hlen := C.len
  obtain ⟨r, er⟩ : ∃ r, r = ((h0.length + 1 : Nat) : Int) := ⟨_, rfl⟩
  rw [← er] at F ⊢
  have hr : (h0.length : Int) < r := by omega
  refine zwC_of (D := 1) 5 (by decide +kernel) rfl (ls := [(2, r), (0, a), (0, b), (0, c), (0, d)]) rfl ?_
  refine zwW_p [(1, 0, 2)] (q := 1) (ls' := [(2, r), (0, a), (0, b), (0, c), (0, d)]) (st' := [(2, r)]) (by decide +kernel) rfl ?_
  refine zwW_obj (nx := 4) (by decide +kernel) (by omega) rfl ?_
  refine zwW_p [(1, 0, 2), (0, 20, 0)] (q := 7) (ls' := [(2, r), (0, a), (0, b), (0, c), (0, d)]) (st' := [(0, 20), (2, r)]) (by decide +kernel) rfl ?_
  refine zwX_fp (kd := 11) (bn := 8) (t := 0) (nx := 10) (by decide +kernel) F hr rfl rfl (Or.inr (by decide)) ?_
  intro g1 F o
  refine zwW_p [(1, 0, 2), (0, 10, 0)] (q := 13) (ls' := [(2, r), (0, a), (0, b), (0, c), (0, d)]) (st' := [(0, 10), (2, r)]) (by decide +kernel) rfl ?_
  refine zwX_fp (kd := 11) (bn := 9) (t := 0) (nx := 16) (by decide +kernel) F hr rfl rfl (Or.inr (by decide)) ?_
  intro g2 F o
  refine zwW_p [(1, 0, 2), (0, 157, 0)] (q := 20) (ls' := [(2, r), (0, a), (0, b), (0, c), (0, d)]) (st' := [(0, 157), (2, r)]) (by decide +kernel) rfl ?_
  refine zwW_newa (op := 43) (kd := 20) (a := 20) (nx := 22) (by decide +kernel) (Or.inl rfl) rfl (by decide) (by decide) ?_
  rintro g3 w e3 ew
  have F3 : zFr h0 g3 r 11 (((List.replicate 17 0).set 8 20).set 9 10) 2 174 := by
    obtain ⟨F1, F2, F3, F4, F5⟩ := F
    refine ⟨F1.tr (by rw [e3]; exact zOld.app _), by rw [e3]; exact F2.app (fun x hx => by rw [List.eq_of_mem_replicate hx]; decide), ?_, ?_, ?_⟩
    · rw [e3, cel_app _ r (by omega)]; exact F3
    · rw [e3, List.length_append, List.length_singleton]; omega
    · rw [e3, sz_app, F5]; unfold sz; simp
  have sw : sh g3 w = some (20, 157) := by rw [e3, ew, sh_new]; rfl
  have hw : w = ((h0.length + 2 : Nat) : Int) := by rw [ew, F.2.2.2.1]
  have hwr : w ≠ r := by omega
  refine zwX_fp (kd := 11) (bn := 16) (t := 2) (nx := 25) (by decide +kernel) F3 hr rfl rfl (Or.inl (by decide)) ?_
  intro g4 F o4
  refine zwW_p [(1, 0, 2), (1, 1, 0)] (q := 27) (ls' := [(2, r), (0, a), (0, b), (0, c), (0, d)]) (st' := [(0, a), (2, r)]) (by decide +kernel) rfl ?_
  refine zwX_fp (kd := 11) (bn := 0) (t := 0) (nx := 30) (by decide +kernel) F hr rfl rfl (Or.inr q_a) ?_
  intro g5 F o5
  refine zwW_p [(1, 0, 2), (1, 2, 0)] (q := 32) (ls' := [(2, r), (0, a), (0, b), (0, c), (0, d)]) (st' := [(0, b), (2, r)]) (by decide +kernel) rfl ?_
  refine zwX_fp (kd := 11) (bn := 1) (t := 0) (nx := 35) (by decide +kernel) F hr rfl rfl (Or.inr q_b) ?_
  intro g6 F o6
  refine zwW_p [(1, 0, 2), (1, 3, 0)] (q := 37) (ls' := [(2, r), (0, a), (0, b), (0, c), (0, d)]) (st' := [(0, c), (2, r)]) (by decide +kernel) rfl ?_
  refine zwX_fp (kd := 11) (bn := 2) (t := 0) (nx := 40) (by decide +kernel) F hr rfl rfl (Or.inr q_c) ?_
  intro g7 F o7
  refine zwW_p [(1, 0, 2), (1, 4, 0)] (q := 43) (ls' := [(2, r), (0, a), (0, b), (0, c), (0, d)]) (st' := [(0, d), (2, r)]) (by decide +kernel) rfl ?_
  refine zwX_fp (kd := 11) (bn := 3) (t := 0) (nx := 46) (by decide +kernel) F hr rfl rfl (Or.inr q_d) ?_
  intro g8 F o8
  have hc : cel g8 r = some (11, [a, b, c, d, 0, 0, 0, 0, 20, 10, 0, 0, 0, 0, 0, 0, w]) := F.2.2.1
  have s8 : sh g8 w = some (20, 157) := by
    unfold sh at sw ⊢
    rw [o8 w hwr, o7 w hwr, o6 w hwr, o5 w hwr, o4 w hwr]
    exact sw
  refine zwW_p [(1, 0, 2)] (q := 47) (ls' := [(2, r), (0, a), (0, b), (0, c), (0, d)]) (st' := [(2, r)]) (by decide +kernel) rfl ?_
  refine zwW_get (kd := 11) (bn := 16) (t := 2) (n := 17) (nx := 50) (by decide +kernel) (sh_of hc) rfl ?_
  rw [fld_of hc]
  refine zwW_p [(0, 10, 0)] (q := 52) (ls' := [(2, r), (0, a), (0, b), (0, c), (0, d)]) (st' := [(0, 10), (2, w)]) (by decide +kernel) rfl ?_
  refine zwW_csv (k' := 180) (n := 2) (nx := 55) (as := [(2, w), (0, 10)]) (st' := []) (by decide +kernel) rfl (x180 (P := fun g => zFr h0 g r 11 [a, b, c, d, 0, 0, 0, 0, 20, 10, 0, 0, 0, 0, 0, 0, w] 2 174) s8 (by decide) F (fun g j p s hj => ?_)) rfl ?_
  · obtain ⟨p1, p2, p3, p4, p5⟩ := p
    refine ⟨p1.w rfl (by omega), p2.w rfl (by decide), ?_, by rw [len_wr]; exact p4, by rw [sz_wr]; exact p5⟩
    obtain ⟨l, hcl, -⟩ := sh_cel s
    rw [wr_of hcl, cel_set r (by rw [hcl]; rfl), if_neg (Ne.symm hwr)]
    exact p3
  · rintro g ⟨F, sg, hall⟩
    obtain ⟨Cg, R⟩ := F.fin C
    have hc := F.2.2.1
    refine zwW_retv (nx := 56) (a := 0) (b := 0) (by decide +kernel) ⟨Cg, R, ⟨by omega, sh_of hc, ?_, ?_⟩, by rw [← hw]; exact hc, by rw [← hw]; exact hall⟩
    · rw [fld_of hc]; show 365 < w; omega
    · rw [fld_of hc]; exact sg
end ZN
end
section
/-! class and model side by side: what stands in the class's lists and fixed places is what stands in the model's arrays -/
section ZY
variable {h h' h1 h2 g : Hp}
/-- the i-th entry of a list -/
def zv (h : Hp) (A : Nat) (i : Nat) : Int := fld h (fld h A 1) i
/-- the class of a list's entries -/
def zkd (A : Nat) : Nat := if A = 2 then 11 else if A = 3 ∨ A = 21 then 4 else if A = 4 ∨ A = 20 then 6 else if A = 5 then 1 else 10
theorem zkd25 (A : Nat) : zkd A ≠ 25 := by
  unfold zkd
  repeat' split
  all_goals decide
theorem zv_g (C : CI h) {A : Nat} (hA : A ∈ zLis) {i : Nat} (hi : (i : Int) < fld h A 2) : 365 < fld h A 1 ∧ zG A h (zv h A i) := by
  rcases C.2.2.1 A hA with ⟨a, b⟩ | ⟨a, n, b, c', c0, d, e⟩
  · omega
  · exact ⟨a, e i hi⟩
theorem zG_k {A : Nat} {r : Int} (hA : A ∈ zLis) (G : zG A h r) : 365 < r ∧ ∃ n, sh h r = some (zkd A, n) := by
  unfold zLis at hA
  simp only [List.mem_cons, List.not_mem_nil, or_false] at hA
  rcases hA with rfl | rfl | rfl | rfl | rfl | rfl | rfl
  · exact ⟨G.1, _, G.2.1⟩
  · exact ⟨G.1, _, G.2.1⟩
  · exact ⟨G.1, _, G.2.1⟩
  · exact ⟨G.1, _, G.2.1⟩
  · exact ⟨G.1, _, G.2.1⟩
  · exact ⟨G.1, _, G.2.1⟩
  · exact ⟨G.1, _, G.2.1⟩
theorem zv_s (C : CI h) {A : Nat} (hA : A ∈ zLis) {i : Nat} (hi : (i : Int) < fld h A 2) : 365 < zv h A i ∧ ∃ n, sh h (zv h A i) = some (zkd A, n) := zG_k hA (zv_g C hA hi).2
def zun (ms : Zms) (A : Nat) : Bool := ms.all (fun f => Nat.blt f.2.1 A || Nat.blt A f.1)
theorem zXR.vz {ms : Zms} {c s : Int} (R : zXR ms c s h g) {A : Nat} (hA : A ∈ zLis) (e : zun ms A = true) : fld g A 2 = fld h A 2 := (R.li hA e).1 2
theorem zXR.v {ms : Zms} {c s : Int} (R : zXR ms c s h g) (C : CI h) {A : Nat} (hA : A ∈ zLis) (e : zun ms A = true) {i : Nat} (hi : (i : Int) < fld h A 2) : zv g A i = zv h A i := by
  unfold zv
  rw [(R.li hA e).1 1]
  exact (R.li hA e).2 (zv_g C hA hi).1 i
/-- a field of a list's entries stays -/
theorem zXR.vf {ms : Zms} {c s : Int} (R : zXR ms c s h g) (C : CI h) {A j : Nat} (hA : A ∈ zLis) (e : zqN ms (1000 + zkd A) (1000 + zkd A) j (j + 1) = true) {i : Nat} (hi : (i : Int) < fld h A 2) : fld g (zv h A i) j = fld h (zv h A i) j := by
  obtain ⟨hr, n, s'⟩ := zv_s C hA hi
  exact R.dy e hr s' (zkd25 A) ⟨Nat.le_refl _, Nat.lt_succ_self _⟩
theorem zXR.mono {ms ms' : Zms} {c s : Int} (R : zXR ms c s h g) (e : zqI ms ms' = true) : zXR ms' c s h g := (zXR.rf ms' h).tr R e (by omega) (by omega)
/-- no place of the model's array a is touched -/
def zua (ms : Zms) (a n : Nat) : Bool := zqN ms a a 0 n
theorem zXR.a {ms : Zms} {c s : Int} (R : zXR ms c s h g) {a n i : Nat} (e : zua ms a n = true) (ha : 0 < a ∧ a ≤ 365) (hi : i < n) : fld g a i = fld h a i := R.f e ⟨Int.le_refl _, Int.le_refl _⟩ ⟨Nat.zero_le _, hi⟩ (by first | omega | exact ⟨by omega, by omega⟩)
/-! tables -/
/-- two places that are alike -/
def zQS (L : List (Nat × Nat × Nat × Nat)) (h : Hp) : Prop := ∀ e ∈ L, fld h e.1 e.2.1 = fld h e.2.2.1 e.2.2.2
/-- an entry's number is its place -/
def zNM (L : List Nat) (h : Hp) : Prop := ∀ A ∈ L, ∀ i : Nat, (i : Int) < fld h A 2 → fld h (zv h A i) 0 = i
/-- (A, j, a): field j of list A's entries is the model's array a -/
def zF1 (A j a : Nat) (h : Hp) : Prop := ∀ i : Nat, (i : Int) < fld h A 2 → fld h (zv h A i) j = fld h a i
def zFL (L : List (Nat × Nat × Nat)) (h : Hp) : Prop := ∀ e ∈ L, zF1 e.1 e.2.1 e.2.2 h
/-- (A, a): the model's array a is 0 behind list A's entries -/
def zZ1 (A a : Nat) (h : Hp) : Prop := ∀ i : Nat, fld h A 2 ≤ i → (i : Int) < zmx A → fld h a i = 0
def zZL (L : List (Nat × Nat)) (h : Hp) : Prop := ∀ e ∈ L, zZ1 e.1 e.2 h
/-- (A, j, B, a): field j of list A's entries is the entry of B that the model's array a tells -/
def zR1 (A j B a : Nat) (h : Hp) : Prop := ∀ i : Nat, (i : Int) < fld h A 2 → 0 ≤ fld h a i ∧ fld h a i < fld h B 2 ∧ fld h (zv h A i) j = zv h B (fld h a i).toNat
def zRL (L : List (Nat × Nat × Nat × Nat)) (h : Hp) : Prop := ∀ e ∈ L, zR1 e.1 e.2.1 e.2.2.1 e.2.2.2 h
/-! they stay where nothing is touched -/
def zl7 (A : Nat) : Bool := zLis.contains A
theorem zl7_of {A : Nat} (e : zl7 A = true) : A ∈ zLis := by
  unfold zl7 at e
  rwa [List.contains_iff_mem] at e
def zkSC (ms : Zms) (e : Nat × Nat × Nat × Nat) : Bool := zqN ms e.1 e.1 e.2.1 (e.2.1 + 1) && (zqN ms e.2.2.1 e.2.2.1 e.2.2.2 (e.2.2.2 + 1) && ((Nat.blt 0 e.1 && Nat.ble e.1 365) && (Nat.blt 0 e.2.2.1 && Nat.ble e.2.2.1 365)))
theorem zQS.kp {ms : Zms} {c s : Int} {e : Nat × Nat × Nat × Nat} (R : zXR ms c s h g) (P : fld h e.1 e.2.1 = fld h e.2.2.1 e.2.2.2) (k : zkSC ms e = true) : fld g e.1 e.2.1 = fld g e.2.2.1 e.2.2.2 := by
  unfold zkSC at k
  simp only [Bool.and_eq_true] at k
  obtain ⟨k1, k2, ⟨k3, k4⟩, k5, k6⟩ := k
  have k3 := Nat.le_of_ble_eq_true k3
  have k4 := Nat.le_of_ble_eq_true k4
  have k5 := Nat.le_of_ble_eq_true k5
  have k6 := Nat.le_of_ble_eq_true k6
  rw [R.f k1 ⟨Int.le_refl _, Int.le_refl _⟩ ⟨Nat.le_refl _, Nat.lt_succ_self _⟩ ⟨by omega, by omega⟩, R.f k2 ⟨Int.le_refl _, Int.le_refl _⟩ ⟨Nat.le_refl _, Nat.lt_succ_self _⟩ ⟨by omega, by omega⟩]
  exact P
theorem zQS.st {ms : Zms} {c s : Int} {L T : List (Nat × Nat × Nat × Nat)} (R : zXR ms c s h g) (P : zQS L h) (k : L.all (fun e => zkSC ms e || T.contains e) = true) (t : zQS T g) : zQS L g := by
  intro e he
  have k := List.all_eq_true.mp k e he
  rw [Bool.or_eq_true] at k
  rcases k with k | k
  · exact zQS.kp R (P e he) k
  · rw [List.contains_iff_mem] at k
    exact t e k
def zkNM (ms : Zms) (A : Nat) : Bool := zl7 A && (zun ms A && zqN ms (1000 + zkd A) (1000 + zkd A) 0 1)
theorem zNM.st {ms : Zms} {c s : Int} {L T : List Nat} (R : zXR ms c s h g) (C : CI h) (P : zNM L h) (k : L.all (fun e => zkNM ms e || T.contains e) = true) (t : zNM T g) : zNM L g := by
  intro A he
  have k := List.all_eq_true.mp k A he
  rw [Bool.or_eq_true] at k
  rcases k with k | k
  · unfold zkNM at k
    simp only [Bool.and_eq_true] at k
    obtain ⟨k1, k2, k3⟩ := k
    have hA := zl7_of k1
    intro i hi
    rw [R.vz hA k2] at hi
    rw [R.v C hA k2 hi, R.vf C hA k3 hi]
    exact P A he i hi
  · rw [List.contains_iff_mem] at k
    exact t A k
def zmN (A : Nat) : Nat := (zmx A).toNat
theorem zmN_of (C : CI h) {A : Nat} (hA : A ∈ zLis) {i : Nat} (hi : (i : Int) < fld h A 2) : i < zmN A := by
  have := zLis_b C hA
  unfold zmN
  omega
def zka (a : Nat) : Bool := Nat.blt 0 a && Nat.ble a 365
theorem zka_of {a : Nat} (e : zka a = true) : 0 < a ∧ a ≤ 365 := by
  unfold zka at e
  rw [Bool.and_eq_true] at e
  exact ⟨Nat.le_of_ble_eq_true e.1, Nat.le_of_ble_eq_true e.2⟩
def zkF (ms : Zms) (e : Nat × Nat × Nat) : Bool := zl7 e.1 && (zka e.2.2 && (zun ms e.1 && (zqN ms (1000 + zkd e.1) (1000 + zkd e.1) e.2.1 (e.2.1 + 1) && zua ms e.2.2 (zmN e.1))))
theorem zFL.st {ms : Zms} {c s : Int} {L T : List (Nat × Nat × Nat)} (R : zXR ms c s h g) (C : CI h) (P : zFL L h) (k : L.all (fun e => zkF ms e || T.contains e) = true) (t : zFL T g) : zFL L g := by
  intro e he
  have k := List.all_eq_true.mp k e he
  rw [Bool.or_eq_true] at k
  rcases k with k | k
  · unfold zkF at k
    simp only [Bool.and_eq_true] at k
    obtain ⟨k1, k0, k2, k3, k4⟩ := k
    have hA := zl7_of k1
    intro i hi
    rw [R.vz hA k2] at hi
    rw [R.v C hA k2 hi, R.vf C hA k3 hi, R.a k4 (zka_of k0) (zmN_of C hA hi)]
    exact P e he i hi
  · rw [List.contains_iff_mem] at k
    exact t e k
def zkZ (ms : Zms) (e : Nat × Nat) : Bool := zl7 e.1 && (zka e.2 && (zun ms e.1 && zua ms e.2 (zmN e.1)))
theorem zZL.st {ms : Zms} {c s : Int} {L T : List (Nat × Nat)} (R : zXR ms c s h g) (P : zZL L h) (k : L.all (fun e => zkZ ms e || T.contains e) = true) (t : zZL T g) : zZL L g := by
  intro e he
  have k := List.all_eq_true.mp k e he
  rw [Bool.or_eq_true] at k
  rcases k with k | k
  · unfold zkZ at k
    simp only [Bool.and_eq_true] at k
    obtain ⟨k1, k0, k2, k4⟩ := k
    have hA := zl7_of k1
    intro i hi hm
    rw [R.vz hA k2] at hi
    rw [R.a k4 (zka_of k0) (show i < zmN e.1 by unfold zmN; omega)]
    exact P e he i hi hm
  · rw [List.contains_iff_mem] at k
    exact t e k
def zkQR (ms : Zms) (e : Nat × Nat × Nat × Nat) : Bool := zl7 e.1 && (zl7 e.2.2.1 && (zka e.2.2.2 && (zun ms e.1 && (zun ms e.2.2.1 && (zqN ms (1000 + zkd e.1) (1000 + zkd e.1) e.2.1 (e.2.1 + 1) && zua ms e.2.2.2 (zmN e.1))))))
theorem zRL.st {ms : Zms} {c s : Int} {L T : List (Nat × Nat × Nat × Nat)} (R : zXR ms c s h g) (C : CI h) (P : zRL L h) (k : L.all (fun e => zkQR ms e || T.contains e) = true) (t : zRL T g) : zRL L g := by
  intro e he
  have k := List.all_eq_true.mp k e he
  rw [Bool.or_eq_true] at k
  rcases k with k | k
  · unfold zkQR at k
    simp only [Bool.and_eq_true] at k
    obtain ⟨k1, k5, k0, k2, k6, k3, k4⟩ := k
    have hA := zl7_of k1
    have hB := zl7_of k5
    intro i hi
    rw [R.vz hA k2] at hi
    have p := P e he i hi
    rw [R.v C hA k2 hi, R.vf C hA k3 hi, R.a k4 (zka_of k0) (zmN_of C hA hi), R.vz hB k6]
    exact ⟨p.1, p.2.1, p.2.2.trans (R.v C hB k6 (by omega)).symm⟩
  · rw [List.contains_iff_mem] at k
    exact t e k
/-- entries of a list with numbers are each another -/
theorem zNM.inj {L : List Nat} {A : Nat} (P : zNM L h) (hL : A ∈ L) {i j : Nat} (hi : (i : Int) < fld h A 2) (hj : (j : Int) < fld h A 2) (e : zv h A i = zv h A j) : i = j := by
  have a := P A hL i hi
  have b := P A hL j hj
  rw [e] at a
  omega
/-- one field of one entry, and the model's place of it -/
theorem zF1.up {ms ms' : Zms} {c s c' s' : Int} {L : List Nat} {A j a k : Nat} {x x' : Int} (C : CI h) (C1 : CI h1) (R : zXR ms c s h h1) (S : zXR ms' c' s' h1 g) (P : zF1 A j a h) (N : zNM L h) (hL : L.contains A = true) (e1 : (zl7 A && (zka a && (zun ms A && zua ms a (zmN A)))) = true) (e2 : (zun ms' A && zqN ms' (1000 + zkd A) (1000 + zkd A) j (j + 1)) = true)
    (hk : (k : Int) < fld h A 2) (f : ∀ (r : Int) (n : Nat), 365 < r → sh h r = some (zkd A, n) → fld h1 r j = if r = zv h A k then x else fld h r j) (m : ∀ i : Nat, fld g a i = if i = k then x' else fld h1 a i) (hx : x = x') : zF1 A j a g := by
  simp only [Bool.and_eq_true] at e1 e2
  obtain ⟨k1, k0, k2, k4⟩ := e1
  obtain ⟨k5, k6⟩ := e2
  have hA := zl7_of k1
  rw [List.contains_iff_mem] at hL
  intro i hi
  rw [S.vz hA k5] at hi
  rw [S.v C1 hA k5 hi, S.vf C1 hA k6 hi, m i]
  rw [R.vz hA k2] at hi
  rw [R.v C hA k2 hi]
  obtain ⟨s1, n, s2⟩ := zv_s C hA hi
  rw [f _ n s1 s2]
  by_cases hq : i = k
  · rw [if_pos hq, hq, if_pos rfl, hx]
  · rw [if_neg hq, if_neg (fun z => hq (N.inj hL hi hk z)), R.a k4 (zka_of k0) (zmN_of C hA hi)]
    exact P i hi
/-- behind an add: old entries, the new one -/
theorem zAdded.v {A : Nat} {r : Int} (D : zAdded h A r g) {i : Nat} (hi : (i : Int) < fld h A 2) : zv g A i = zv h A i := D.2.2.2.1 i hi
/-- what stood before an add stands behind it -/
theorem zAdded.o {A : Nat} {r q : Int} (C : CI h) (hA : A ∈ zLis) (D : zAdded h A r g) {k n : Nat} (s : sh h q = some (k, n)) (h25 : k ≠ 25) (hq : 365 < q) : fld g q = fld h q := by
  refine D.2.2.2.2.2 q (sh_pos s).2 (by have := zLis_36 hA; omega) (fun hz => ?_)
  exact C.ne25 s h25 A hA (by omega) hz.symm
end ZY
section ZY2
variable {h h' h1 h2 g : Hp}
/-- a new entry of a list: what was there stays, what is new stands behind it -/
theorem zNew {A k : Nat} {c s r : Int} {l : List Int} (C : CI h) (C1 : CI h1) (Q : zXR [] c s h h1) (D : zAdded h1 A r g) (hA : A ∈ zLis) (G : zG A h1 r) (F : cel h1 r = some (k, l)) (h25 : k ≠ 25) (hu : zun [] A = true) : ∃ rr : Int, (365 < rr ∧ zG A g rr) ∧ (∀ i : Nat, (i : Int) < fld h A 2 → fld g (fld g A 1) i = fld h (fld h A 1) i) ∧ fld g (fld g A 1) (fld h A 2).toNat = rr ∧ ∀ j : Nat, fld g rr j = l.getD j 0 := by
  have hr := (zG_k hA G).1
  have e2 := Q.vz hA hu
  refine ⟨r, ⟨hr, G.x D.2.1⟩, fun i hi => ?_, ?_, fun j => ?_⟩
  · exact (D.2.2.2.1 i (by rw [e2]; exact hi)).trans (Q.v C hA hu hi)
  · rw [← e2]
    exact D.2.2.2.2.1
  · rw [zAdded.o C1 hA D (sh_of F) h25 hr, fld_of F]
/-- a new village's prices -/
theorem zNewP {r q : Int} {l : List Int} (C1 : CI h1) (D : zAdded h1 2 r g) (N : gV h1 r) (F : cel h1 r = some (11, l)) (hq : l.getD 16 0 = q) (F1 : ∀ j : Nat, j < 157 → fld h1 q j = 10) : 365 < q ∧ sh g q = some (20, 157) ∧ ∀ j : Nat, j < 157 → fld g q j = 10 := by
  obtain ⟨-, -, n1, n2⟩ := N
  rw [fld_of F, hq] at n1 n2
  refine ⟨n1, D.2.1.1 _ _ n2, fun j hj => ?_⟩
  rw [zAdded.o C1 (by decide) D n2 (by decide) n1]
  exact F1 j hj
end ZY2
end
section
/-! what was read, as a sheet -/
section ZT
variable {sc : List Int} {h : Hp}
theorem x122 {sc : List Int} (h : Hp) (C : CI h) (a : Int) (q_a : -2147483648 ≤ a ∧ a ≤ 2147483647) : zwC sc 3 122 [(2, 9), (0, a)] h (zwRt 2 (fun x g => CI g ∧ zXR [] 3 408 h g ∧ gS g x)) := by
  refine zwC_of (D := 2) 2 (by decide +kernel) rfl (ls := [(2, 9), (0, a)]) rfl ?_
  have F0 := zFr.start C (kd := 10) (n := 3)
  have hlen := C.len
  refine zwW_new (kd := 10) (n := 3) (nx := 3) (by decide +kernel) rfl rfl ?_
  rintro h1 r e1 er
  rw [← e1, ← er] at F0
  have C1 : CI h1 := C.old F0.1 F0.2.1
  refine zwW_p [(12, 0, 0), (1, 1, 0), (1, 0, 2)] (q := 6) (ls' := [(2, 9), (0, a)]) (st' := [(2, 9), (0, a), (2, r), (2, r)]) (by decide +kernel) rfl ?_
  refine zwW_gc C1.1 (kd := 7) (bn := 7) (n := 9) (c := 11) (nx := 9) (by decide +kernel) ?_
  refine zwW_p [(1, 0, 2)] (q := 10) (ls' := [(2, 9), (0, a)]) (st' := [(2, 9), (2, 11), (0, a), (2, r), (2, r)]) (by decide +kernel) rfl ?_
  refine zwW_gs C1.1 (kd := 7) (bn := 6) (n := 9) (t := 0) (lo := 0) (hi := 400) (nx := 13) (by decide +kernel) ?_
  intro n en ln un
  have s11 := C1.1.s (a1 := 11) (a2 := 11) (k := 20) (n := 400) (by decide +kernel) (r := 11) (by decide) (by decide)
  refine zwW_cs (k' := 202) (n := 2) (nx := 16) (as := [(2, 11), (0, n)]) (st' := [(0, a), (2, r), (2, r)]) (by decide +kernel) rfl (x202 s11 (by first | omega | exact ⟨by omega, by omega⟩) (by decide)) rfl ?_
  rintro v h2 ⟨ev, l, e2, hl, hall⟩
  have O2 : zOld h1 h2 := by rw [e2]; exact zOld.app _
  have Y2 : zDy h2 := by
    rw [e2]
    refine F0.2.1.app (fun x hx => ?_)
    obtain ⟨i, hi, rfl⟩ := List.getElem_of_mem hx
    have w := hall i (by omega)
    rw [List.getD_eq_getElem?_getD, List.getElem?_eq_getElem hi] at w
    have w : l[i] = fld h1 11 i := w
    rw [w]
    exact C1.1.b (a1 := 11) (a2 := 11) (j1 := 0) (j2 := 400) (by decide +kernel) (by decide) (by decide) (by omega) (by omega)
  have C2 : CI h2 := C.old (F0.1.tr O2) Y2
  have sv : sh h2 v = some (20, l.length) := by rw [e2, ev]; exact sh_new 20 l
  refine zwW_p [(1, 0, 2)] (q := 17) (ls' := [(2, 9), (0, a)]) (st' := [(2, 9), (2, v), (0, a), (2, r), (2, r)]) (by decide +kernel) rfl ?_
  refine zwW_gc C2.1 (kd := 7) (bn := 8) (n := 9) (c := 12) (nx := 20) (by decide +kernel) ?_
  have s12 := C2.1.s (a1 := 12) (a2 := 12) (k := 20) (n := 5) (by decide +kernel) (r := 12) (by decide) (by decide)
  obtain ⟨lb, cb, nb⟩ := sh_cel s12
  refine zwW_clone (nx := 23) (by decide +kernel) cb rfl ?_
  obtain ⟨h3, e3⟩ : ∃ z, z = h2 ++ [(20, lb)] := ⟨_, rfl⟩
  obtain ⟨w, ew⟩ : ∃ z, z = ((h2.length + 1 : Nat) : Int) := ⟨_, rfl⟩
  rw [← e3, ← ew]
  have O3 : zOld h2 h3 := by rw [e3]; exact zOld.app _
  have Y3 : zDy h3 := by
    rw [e3]
    refine Y2.app (fun x hx => ?_)
    obtain ⟨i, hi, rfl⟩ := List.getElem_of_mem hx
    have q := C2.1.b (a1 := 12) (a2 := 12) (j1 := 0) (j2 := 5) (lo := -2147483648) (hi := 2147483647) (by decide +kernel) (r := 12) (j := i) (by decide) (by decide) (by omega) (by omega)
    rw [fld_of cb, List.getD_eq_getElem?_getD, List.getElem?_eq_getElem hi] at q
    exact q
  have sw : sh h3 w = some (20, 5) := by rw [e3, ew, ← nb]; exact sh_new 20 lb
  have l1 : h1.length = h.length + 1 := F0.2.2.2.1
  have l2 : h2.length = h.length + 2 := by rw [e2, List.length_append, List.length_singleton, l1]
  have F : zFr h h3 r 10 (List.replicate 3 0) 3 (3 + l.length + 5) := by
    refine ⟨(F0.1.tr O2).tr O3, Y3, ?_, by rw [e3, List.length_append, List.length_singleton, l2], ?_⟩
    · rw [O3.2 r (by omega), O2.2 r (by omega)]
      exact F0.2.2.1
    · rw [e3, sz_app, e2, sz_app, F0.2.2.2.2]
      unfold sz
      simp [nb]
      omega
  refine zwW_cast (a := 20) (kd := 20) (n := 5) (nx := 26) (by decide +kernel) rfl (Or.inr sw) ?_
  refine zwW_cvv (op := 62) (k' := 203) (n := 3) (kd := 10) (m := 3) (nx := 29) (r := r) (tl := [(0, a), (2, v), (2, w)]) (st' := [(2, r)]) (by decide +kernel) rfl (by decide +kernel) (sh_of F.2.2.1) (x203 h h3 C r a v w F (by omega) q_a ⟨by omega, O3.sp sv, by omega⟩ ⟨by omega, sw, by omega⟩) rfl ?_
  rintro g ⟨Cg, R, G, -, -⟩
  exact zwW_ret (nx := 30) (a := 0) (b := 2) (by decide +kernel) rfl (Or.inl rfl) ⟨Cg, R.le (by decide) (by omega), G⟩
end ZT
end
section
/-! contracts of the class -/
-- WheelLand.outside(III)Z
theorem x98 {sc : List Int} (h : Hp) (C : CI h) (a b c : Int) (q_a : -2147483648 ≤ a ∧ a ≤ 2147483647) (q_b : -2147483648 ≤ b ∧ b ≤ 2147483647) (q_c : -2147483648 ≤ c ∧ c ≤ 2147483647) : zwC sc 1 98 [(0, a), (0, b), (0, c)] h (zwRt 0 (fun x g => h = g ∧ ((x = 1 ∧ (a < b ∨ c < a)) ∨ (x = 0 ∧ (b ≤ a ∧ a ≤ c))))) := by
  refine zwC_of (D := 0) 3 (by decide +kernel) rfl (ls := [(0, a), (0, b), (0, c)]) rfl ?_
  refine zwW_p [(1, 0, 0), (1, 1, 0)] (q := 2) (ls' := [(0, a), (0, b), (0, c)]) (st' := [(0, b), (0, a)]) (by decide +kernel) rfl ?_
  refine zwic_lt (q := 10) (nx := 5) (by decide +kernel) (fun c1 => ?_) (fun c1 => ?_)
  · refine zwW_p [(0, 1, 0), (24, 15, 0)] (q := 15) (ls' := [(0, a), (0, b), (0, c)]) (st' := [(0, 1)]) (by decide +kernel) rfl ?_
    refine zwW_ret (nx := 16) (a := 1) (b := 0) (by decide +kernel) rfl (Or.inr (Or.inl ⟨rfl, Or.inr rfl⟩)) ?_
    exact ⟨rfl, Or.inl ⟨rfl, by omega⟩⟩
  · refine zwW_p [(1, 0, 0), (1, 2, 0)] (q := 7) (ls' := [(0, a), (0, b), (0, c)]) (st' := [(0, c), (0, a)]) (by decide +kernel) rfl ?_
    refine zwic_le (q := 14) (nx := 10) (by decide +kernel) (fun c2 => ?_) (fun c2 => ?_)
    · refine zwW_p [(0, 0, 0)] (q := 15) (ls' := [(0, a), (0, b), (0, c)]) (st' := [(0, 0)]) (by decide +kernel) rfl ?_
      refine zwW_ret (nx := 16) (a := 1) (b := 0) (by decide +kernel) rfl (Or.inr (Or.inl ⟨rfl, Or.inl rfl⟩)) ?_
      exact ⟨rfl, Or.inr ⟨rfl, by omega⟩⟩
    · refine zwW_p [(0, 1, 0), (24, 15, 0)] (q := 15) (ls' := [(0, a), (0, b), (0, c)]) (st' := [(0, 1)]) (by decide +kernel) rfl ?_
      refine zwW_ret (nx := 16) (a := 1) (b := 0) (by decide +kernel) rfl (Or.inr (Or.inl ⟨rfl, Or.inr rfl⟩)) ?_
      exact ⟨rfl, Or.inl ⟨rfl, by omega⟩⟩
-- WheelLand$Village.idleCanBe(I)Z
theorem x97 {sc : List Int} (h : Hp) (C : CI h) (a : Int) (q_a : -2147483648 ≤ a ∧ a ≤ 2147483647) : zwC sc 1 97 [(0, a)] h (zwRt 0 (fun x g => h = g ∧ ((x = 1 ∧ (0 ≤ a ∧ a / 1000000 ≤ 40 ∧ a / 10000 % 100 ≤ 40 ∧ a / 100 % 100 ≤ 40 ∧ a % 100 ≤ 40)) ∨ (x = 0 ∧ (a < 0 ∨ 40 < a / 1000000 ∨ 40 < a / 10000 % 100 ∨ 40 < a / 100 % 100 ∨ 40 < a % 100))))) := by
  refine zwC_of (D := 0) 1 (by decide +kernel) rfl (ls := [(0, a)]) rfl ?_
  refine zwW_p [(1, 0, 0)] (q := 1) (ls' := [(0, a)]) (st' := [(0, a)]) (by decide +kernel) rfl ?_
  refine zwif_lt (q := 51) (nx := 4) (by decide +kernel) (fun c1 => ?_) (fun c1 => ?_)
  · refine zwW_p [(0, 0, 0)] (q := 52) (ls' := [(0, a)]) (st' := [(0, 0)]) (by decide +kernel) rfl ?_
    refine zwW_ret (nx := 53) (a := 1) (b := 0) (by decide +kernel) rfl (Or.inr (Or.inl ⟨rfl, Or.inl rfl⟩)) ?_
    exact ⟨rfl, Or.inr ⟨rfl, by omega⟩⟩
  · refine zwW_p [(1, 0, 0), (0, 1000000, 0)] (q := 7) (ls' := [(0, a)]) (st' := [(0, 1000000), (0, a)]) (by decide +kernel) rfl ?_
    refine zwW_div (nx := 8) (by decide +kernel) (by omega) (by omega) (by omega) ?_
    refine zwW_p [(0, 40, 0)] (q := 10) (ls' := [(0, a)]) (st' := [(0, 40), (0, (a / 1000000))]) (by decide +kernel) rfl ?_
    refine zwic_gt (q := 51) (nx := 13) (by decide +kernel) (fun c2 => ?_) (fun c2 => ?_)
    · refine zwW_p [(0, 0, 0)] (q := 52) (ls' := [(0, a)]) (st' := [(0, 0)]) (by decide +kernel) rfl ?_
      refine zwW_ret (nx := 53) (a := 1) (b := 0) (by decide +kernel) rfl (Or.inr (Or.inl ⟨rfl, Or.inl rfl⟩)) ?_
      exact ⟨rfl, Or.inr ⟨rfl, by omega⟩⟩
    · refine zwW_p [(1, 0, 0), (0, 10000, 0)] (q := 17) (ls' := [(0, a)]) (st' := [(0, 10000), (0, a)]) (by decide +kernel) rfl ?_
      refine zwW_div (nx := 18) (by decide +kernel) (by omega) (by omega) (by omega) ?_
      refine zwW_p [(0, 100, 0)] (q := 20) (ls' := [(0, a)]) (st' := [(0, 100), (0, (a / 10000))]) (by decide +kernel) rfl ?_
      refine zwW_rem (nx := 21) (by decide +kernel) (by omega) (by omega) ?_
      refine zwW_p [(0, 40, 0)] (q := 23) (ls' := [(0, a)]) (st' := [(0, 40), (0, ((a / 10000) % 100))]) (by decide +kernel) rfl ?_
      refine zwic_gt (q := 51) (nx := 26) (by decide +kernel) (fun c3 => ?_) (fun c3 => ?_)
      · refine zwW_p [(0, 0, 0)] (q := 52) (ls' := [(0, a)]) (st' := [(0, 0)]) (by decide +kernel) rfl ?_
        refine zwW_ret (nx := 53) (a := 1) (b := 0) (by decide +kernel) rfl (Or.inr (Or.inl ⟨rfl, Or.inl rfl⟩)) ?_
        exact ⟨rfl, Or.inr ⟨rfl, by omega⟩⟩
      · refine zwW_p [(1, 0, 0), (0, 100, 0)] (q := 29) (ls' := [(0, a)]) (st' := [(0, 100), (0, a)]) (by decide +kernel) rfl ?_
        refine zwW_div (nx := 30) (by decide +kernel) (by omega) (by omega) (by omega) ?_
        refine zwW_p [(0, 100, 0)] (q := 32) (ls' := [(0, a)]) (st' := [(0, 100), (0, (a / 100))]) (by decide +kernel) rfl ?_
        refine zwW_rem (nx := 33) (by decide +kernel) (by omega) (by omega) ?_
        refine zwW_p [(0, 40, 0)] (q := 35) (ls' := [(0, a)]) (st' := [(0, 40), (0, ((a / 100) % 100))]) (by decide +kernel) rfl ?_
        refine zwic_gt (q := 51) (nx := 38) (by decide +kernel) (fun c4 => ?_) (fun c4 => ?_)
        · refine zwW_p [(0, 0, 0)] (q := 52) (ls' := [(0, a)]) (st' := [(0, 0)]) (by decide +kernel) rfl ?_
          refine zwW_ret (nx := 53) (a := 1) (b := 0) (by decide +kernel) rfl (Or.inr (Or.inl ⟨rfl, Or.inl rfl⟩)) ?_
          exact ⟨rfl, Or.inr ⟨rfl, by omega⟩⟩
        · refine zwW_p [(1, 0, 0), (0, 100, 0)] (q := 41) (ls' := [(0, a)]) (st' := [(0, 100), (0, a)]) (by decide +kernel) rfl ?_
          refine zwW_rem (nx := 42) (by decide +kernel) (by omega) (by omega) ?_
          refine zwW_p [(0, 40, 0)] (q := 44) (ls' := [(0, a)]) (st' := [(0, 40), (0, (a % 100))]) (by decide +kernel) rfl ?_
          refine zwic_gt (q := 51) (nx := 47) (by decide +kernel) (fun c5 => ?_) (fun c5 => ?_)
          · refine zwW_p [(0, 0, 0)] (q := 52) (ls' := [(0, a)]) (st' := [(0, 0)]) (by decide +kernel) rfl ?_
            refine zwW_ret (nx := 53) (a := 1) (b := 0) (by decide +kernel) rfl (Or.inr (Or.inl ⟨rfl, Or.inl rfl⟩)) ?_
            exact ⟨rfl, Or.inr ⟨rfl, by omega⟩⟩
          · refine zwW_p [(0, 1, 0), (24, 52, 0)] (q := 52) (ls' := [(0, a)]) (st' := [(0, 1)]) (by decide +kernel) rfl ?_
            refine zwW_ret (nx := 53) (a := 1) (b := 0) (by decide +kernel) rfl (Or.inr (Or.inl ⟨rfl, Or.inr rfl⟩)) ?_
            exact ⟨rfl, Or.inl ⟨rfl, by omega⟩⟩
-- WheelLand$House.canBe(I)Z
theorem x107 {sc : List Int} (h : Hp) (C : CI h) (a : Int) (q_a : -2147483648 ≤ a ∧ a ≤ 2147483647) : zwC sc 1 107 [(0, a)] h (zwRt 0 (fun x g => h = g ∧ ((x = 1 ∧ (0 ≤ a ∧ a / 1000 ≤ 5 ∧ 1 ≤ a / 100 % 10 ∧ a / 10 % 10 ≤ 5 ∧ 1 ≤ a % 10)) ∨ (x = 0 ∧ (a < 0 ∨ 5 < a / 1000 ∨ a / 100 % 10 < 1 ∨ 5 < a / 10 % 10 ∨ a % 10 < 1))))) := by
  refine zwC_of (D := 0) 1 (by decide +kernel) rfl (ls := [(0, a)]) rfl ?_
  refine zwW_p [(1, 0, 0)] (q := 1) (ls' := [(0, a)]) (st' := [(0, a)]) (by decide +kernel) rfl ?_
  refine zwif_lt (q := 47) (nx := 4) (by decide +kernel) (fun c1 => ?_) (fun c1 => ?_)
  · refine zwW_p [(0, 0, 0)] (q := 48) (ls' := [(0, a)]) (st' := [(0, 0)]) (by decide +kernel) rfl ?_
    refine zwW_ret (nx := 49) (a := 1) (b := 0) (by decide +kernel) rfl (Or.inr (Or.inl ⟨rfl, Or.inl rfl⟩)) ?_
    exact ⟨rfl, Or.inr ⟨rfl, by omega⟩⟩
  · refine zwW_p [(1, 0, 0), (0, 1000, 0)] (q := 8) (ls' := [(0, a)]) (st' := [(0, 1000), (0, a)]) (by decide +kernel) rfl ?_
    refine zwW_div (nx := 9) (by decide +kernel) (by omega) (by omega) (by omega) ?_
    refine zwW_p [(0, 5, 0)] (q := 10) (ls' := [(0, a)]) (st' := [(0, 5), (0, (a / 1000))]) (by decide +kernel) rfl ?_
    refine zwic_gt (q := 47) (nx := 13) (by decide +kernel) (fun c2 => ?_) (fun c2 => ?_)
    · refine zwW_p [(0, 0, 0)] (q := 48) (ls' := [(0, a)]) (st' := [(0, 0)]) (by decide +kernel) rfl ?_
      refine zwW_ret (nx := 49) (a := 1) (b := 0) (by decide +kernel) rfl (Or.inr (Or.inl ⟨rfl, Or.inl rfl⟩)) ?_
      exact ⟨rfl, Or.inr ⟨rfl, by omega⟩⟩
    · refine zwW_p [(1, 0, 0), (0, 100, 0)] (q := 16) (ls' := [(0, a)]) (st' := [(0, 100), (0, a)]) (by decide +kernel) rfl ?_
      refine zwW_div (nx := 17) (by decide +kernel) (by omega) (by omega) (by omega) ?_
      refine zwW_p [(0, 10, 0)] (q := 19) (ls' := [(0, a)]) (st' := [(0, 10), (0, (a / 100))]) (by decide +kernel) rfl ?_
      refine zwW_rem (nx := 20) (by decide +kernel) (by omega) (by omega) ?_
      refine zwW_p [(0, 1, 0)] (q := 21) (ls' := [(0, a)]) (st' := [(0, 1), (0, ((a / 100) % 10))]) (by decide +kernel) rfl ?_
      refine zwic_lt (q := 47) (nx := 24) (by decide +kernel) (fun c3 => ?_) (fun c3 => ?_)
      · refine zwW_p [(0, 0, 0)] (q := 48) (ls' := [(0, a)]) (st' := [(0, 0)]) (by decide +kernel) rfl ?_
        refine zwW_ret (nx := 49) (a := 1) (b := 0) (by decide +kernel) rfl (Or.inr (Or.inl ⟨rfl, Or.inl rfl⟩)) ?_
        exact ⟨rfl, Or.inr ⟨rfl, by omega⟩⟩
      · refine zwW_p [(1, 0, 0), (0, 10, 0)] (q := 27) (ls' := [(0, a)]) (st' := [(0, 10), (0, a)]) (by decide +kernel) rfl ?_
        refine zwW_div (nx := 28) (by decide +kernel) (by omega) (by omega) (by omega) ?_
        refine zwW_p [(0, 10, 0)] (q := 30) (ls' := [(0, a)]) (st' := [(0, 10), (0, (a / 10))]) (by decide +kernel) rfl ?_
        refine zwW_rem (nx := 31) (by decide +kernel) (by omega) (by omega) ?_
        refine zwW_p [(0, 5, 0)] (q := 32) (ls' := [(0, a)]) (st' := [(0, 5), (0, ((a / 10) % 10))]) (by decide +kernel) rfl ?_
        refine zwic_gt (q := 47) (nx := 35) (by decide +kernel) (fun c4 => ?_) (fun c4 => ?_)
        · refine zwW_p [(0, 0, 0)] (q := 48) (ls' := [(0, a)]) (st' := [(0, 0)]) (by decide +kernel) rfl ?_
          refine zwW_ret (nx := 49) (a := 1) (b := 0) (by decide +kernel) rfl (Or.inr (Or.inl ⟨rfl, Or.inl rfl⟩)) ?_
          exact ⟨rfl, Or.inr ⟨rfl, by omega⟩⟩
        · refine zwW_p [(1, 0, 0), (0, 10, 0)] (q := 38) (ls' := [(0, a)]) (st' := [(0, 10), (0, a)]) (by decide +kernel) rfl ?_
          refine zwW_rem (nx := 39) (by decide +kernel) (by omega) (by omega) ?_
          refine zwW_p [(0, 1, 0)] (q := 40) (ls' := [(0, a)]) (st' := [(0, 1), (0, (a % 10))]) (by decide +kernel) rfl ?_
          refine zwic_lt (q := 47) (nx := 43) (by decide +kernel) (fun c5 => ?_) (fun c5 => ?_)
          · refine zwW_p [(0, 0, 0)] (q := 48) (ls' := [(0, a)]) (st' := [(0, 0)]) (by decide +kernel) rfl ?_
            refine zwW_ret (nx := 49) (a := 1) (b := 0) (by decide +kernel) rfl (Or.inr (Or.inl ⟨rfl, Or.inl rfl⟩)) ?_
            exact ⟨rfl, Or.inr ⟨rfl, by omega⟩⟩
          · refine zwW_p [(0, 1, 0), (24, 48, 0)] (q := 48) (ls' := [(0, a)]) (st' := [(0, 1)]) (by decide +kernel) rfl ?_
            refine zwW_ret (nx := 49) (a := 1) (b := 0) (by decide +kernel) rfl (Or.inr (Or.inl ⟨rfl, Or.inr rfl⟩)) ?_
            exact ⟨rfl, Or.inl ⟨rfl, by omega⟩⟩
-- WheelLand.canBeWoven(I)Z
theorem x130 {sc : List Int} (h : Hp) (C : CI h) (a : Int) (q_a : -2147483648 ≤ a ∧ a ≤ 2147483647) : zwC sc 2 130 [(0, a)] h (zwRt 0 (fun x g => h = g ∧ ((x = 1 ∧ (2 ≤ a ∧ a ≤ 100)) ∨ (x = 0 ∧ (0 ≤ 1))))) := by
  refine zwC_of (D := 1) 1 (by decide +kernel) rfl (ls := [(0, a)]) rfl ?_
  refine zwW_p [(1, 0, 0), (0, 2, 0)] (q := 2) (ls' := [(0, a)]) (st' := [(0, 2), (0, a)]) (by decide +kernel) rfl ?_
  refine zwW_tmw (nx := 3) (by decide +kernel) (by first | omega | exact ⟨by omega, by omega⟩) (by omega) ?_
  intro v1 ev1 lv1 uv1
  refine zwif_ne (q := 20) (nx := 6) (by decide +kernel) (fun c2 => ?_) (fun c2 => ?_)
  · refine zwW_p [(0, 0, 0)] (q := 21) (ls' := [(0, a)]) (st' := [(0, 0)]) (by decide +kernel) rfl ?_
    refine zwW_ret (nx := 22) (a := 1) (b := 0) (by decide +kernel) rfl (Or.inr (Or.inl ⟨rfl, Or.inl rfl⟩)) ?_
    exact ⟨rfl, Or.inr ⟨rfl, by omega⟩⟩
  · refine zwW_p [(1, 0, 0), (0, 2, 0), (0, 100, 0)] (q := 10) (ls' := [(0, a)]) (st' := [(0, 100), (0, 2), (0, a)]) (by decide +kernel) rfl ?_
    refine zwW_cs (k' := 98) (n := 3) (nx := 13) (as := [(0, a), (0, 2), (0, 100)]) (st' := []) (by decide +kernel) rfl (x98 h C a 2 100 (by omega) (by omega) (by omega)) rfl ?_
    rintro x _ ⟨rfl, ⟨rfl, c3⟩ | ⟨rfl, c3⟩⟩
    · refine zwif_ne (q := 20) (nx := 16) (by decide +kernel) (fun c4 => ?_) (fun c4 => ?_)
      · refine zwW_p [(0, 0, 0)] (q := 21) (ls' := [(0, a)]) (st' := [(0, 0)]) (by decide +kernel) rfl ?_
        refine zwW_ret (nx := 22) (a := 1) (b := 0) (by decide +kernel) rfl (Or.inr (Or.inl ⟨rfl, Or.inl rfl⟩)) ?_
        exact ⟨rfl, Or.inr ⟨rfl, by omega⟩⟩
      · exfalso; omega
    · refine zwif_ne (q := 20) (nx := 16) (by decide +kernel) (fun c5 => ?_) (fun c5 => ?_)
      · exfalso; omega
      · refine zwW_p [(0, 1, 0), (24, 21, 0)] (q := 21) (ls' := [(0, a)]) (st' := [(0, 1)]) (by decide +kernel) rfl ?_
        refine zwW_ret (nx := 22) (a := 1) (b := 0) (by decide +kernel) rfl (Or.inr (Or.inl ⟨rfl, Or.inr rfl⟩)) ?_
        exact ⟨rfl, Or.inl ⟨rfl, by omega⟩⟩
-- WheelLand.seasonOf(I)I
theorem x162 {sc : List Int} (h : Hp) (C : CI h) (a : Int) (q_a : -2147483648 ≤ a ∧ a ≤ 2147483647) (p1 : 0 ≤ a) : zwC sc 1 162 [(0, a)] h (zwRt 0 (fun x g => h = g ∧ (-2147483648 ≤ x ∧ x ≤ 2147483647) ∧ (x = a / 13 % 4) ∧ (0 ≤ x ∧ x ≤ 3))) := by
  refine zwC_of (D := 0) 1 (by decide +kernel) rfl (ls := [(0, a)]) rfl ?_
  refine zwW_p [(1, 0, 0), (0, 13, 0)] (q := 3) (ls' := [(0, a)]) (st' := [(0, 13), (0, a)]) (by decide +kernel) rfl ?_
  refine zwW_div (nx := 4) (by decide +kernel) (by omega) (by omega) (by omega) ?_
  refine zwW_p [(0, 4, 0)] (q := 5) (ls' := [(0, a)]) (st' := [(0, 4), (0, (a / 13))]) (by decide +kernel) rfl ?_
  refine zwW_rem (nx := 6) (by decide +kernel) (by omega) (by omega) ?_
  refine zwW_ret (nx := 7) (a := 0) (b := 0) (by decide +kernel) rfl (Or.inl rfl) ?_
  exact ⟨rfl, by omega, by omega, by omega⟩
-- WheelLand.cut(II)I
theorem x173 {sc : List Int} (h : Hp) (C : CI h) (a b : Int) (q_a : -2147483648 ≤ a ∧ a ≤ 2147483647) (q_b : -2147483648 ≤ b ∧ b ≤ 2147483647) : zwC sc 1 173 [(0, a), (0, b)] h (zwRt 0 (fun x g => h = g ∧ (-2147483648 ≤ x ∧ x ≤ 2147483647))) := by
  refine zwC_of (D := 0) 2 (by decide +kernel) rfl (ls := [(0, a), (0, b)]) rfl ?_
  refine zwW_p [(1, 1, 0)] (q := 1) (ls' := [(0, a), (0, b)]) (st' := [(0, b)]) (by decide +kernel) rfl ?_
  refine zwif_ne (q := 8) (nx := 4) (by decide +kernel) (fun c1 => ?_) (fun c1 => ?_)
  · refine zwW_p [(1, 0, 0), (1, 1, 0)] (q := 10) (ls' := [(0, a), (0, b)]) (st' := [(0, b), (0, a)]) (by decide +kernel) rfl ?_
    refine zwW_any2 (a := 3) (nx := 11) (by decide +kernel) rfl (by first | omega | exact ⟨by omega, by omega⟩) (Or.inl (by omega)) ?_
    intro v2 lv2 uv2
    refine zwW_ret (nx := 12) (a := 0) (b := 0) (by decide +kernel) rfl (Or.inl rfl) ?_
    exact ⟨rfl, by omega⟩
  · refine zwW_p [(0, 0, 0), (24, 11, 0)] (q := 11) (ls' := [(0, a), (0, b)]) (st' := [(0, 0)]) (by decide +kernel) rfl ?_
    refine zwW_ret (nx := 12) (a := 0) (b := 0) (by decide +kernel) rfl (Or.inl rfl) ?_
    exact ⟨rfl, by omega⟩
-- WheelLand.cutUp(II)I
theorem x151 {sc : List Int} (h : Hp) (C : CI h) (a b : Int) (q_a : -2147483648 ≤ a ∧ a ≤ 2147483647) (q_b : -2147483648 ≤ b ∧ b ≤ 2147483647) : zwC sc 1 151 [(0, a), (0, b)] h (zwRt 0 (fun x g => h = g ∧ (-2147483648 ≤ x ∧ x ≤ 2147483647))) := by
  refine zwC_of (D := 0) 2 (by decide +kernel) rfl (ls := [(0, a), (0, b)]) rfl ?_
  refine zwW_p [(1, 1, 0)] (q := 1) (ls' := [(0, a), (0, b)]) (st' := [(0, b)]) (by decide +kernel) rfl ?_
  refine zwif_ne (q := 8) (nx := 4) (by decide +kernel) (fun c1 => ?_) (fun c1 => ?_)
  · refine zwW_p [(1, 0, 0), (1, 1, 0)] (q := 10) (ls' := [(0, a), (0, b)]) (st' := [(0, b), (0, a)]) (by decide +kernel) rfl ?_
    refine zwW_adw (nx := 11) (by decide +kernel) ?_
    intro v2 ev2 lv2 uv2
    refine zwW_p [(0, 1, 0)] (q := 12) (ls' := [(0, a), (0, b)]) (st' := [(0, 1), (0, v2)]) (by decide +kernel) rfl ?_
    refine zwW_sbw (nx := 13) (by decide +kernel) ?_
    intro v3 ev3 lv3 uv3
    have Ev3 : v3 = w32 ((w32 (a + b)) - 1) := by rw [ev3, ev2]
    refine zwW_p [(1, 1, 0)] (q := 14) (ls' := [(0, a), (0, b)]) (st' := [(0, b), (0, v3)]) (by decide +kernel) rfl ?_
    refine zwW_any2 (a := 3) (nx := 15) (by decide +kernel) rfl (by first | omega | exact ⟨by omega, by omega⟩) (Or.inl (by omega)) ?_
    intro v4 lv4 uv4
    refine zwW_ret (nx := 16) (a := 0) (b := 0) (by decide +kernel) rfl (Or.inl rfl) ?_
    exact ⟨rfl, by omega⟩
  · refine zwW_p [(0, 0, 0), (24, 15, 0)] (q := 15) (ls' := [(0, a), (0, b)]) (st' := [(0, 0)]) (by decide +kernel) rfl ?_
    refine zwW_ret (nx := 16) (a := 0) (b := 0) (by decide +kernel) rfl (Or.inl rfl) ?_
    exact ⟨rfl, by omega⟩
-- WheelLand.hanksOf(IIII)I
theorem x223 {sc : List Int} (h : Hp) (C : CI h) (a b c d : Int) (q_a : -2147483648 ≤ a ∧ a ≤ 2147483647) (q_b : -2147483648 ≤ b ∧ b ≤ 2147483647) (q_c : -2147483648 ≤ c ∧ c ≤ 2147483647) (q_d : -2147483648 ≤ d ∧ d ≤ 2147483647) : zwC sc 2 223 [(0, a), (0, b), (0, c), (0, d)] h (zwRt 0 (fun x g => h = g ∧ (-2147483648 ≤ x ∧ x ≤ 2147483647))) := by
  refine zwC_of (D := 1) 4 (by decide +kernel) rfl (ls := [(0, a), (0, b), (0, c), (0, d)]) rfl ?_
  refine zwW_p [(1, 0, 0), (0, 10, 0), (1, 1, 0)] (q := 4) (ls' := [(0, a), (0, b), (0, c), (0, d)]) (st' := [(0, b), (0, 10), (0, a)]) (by decide +kernel) rfl ?_
  refine zwW_adw (nx := 5) (by decide +kernel) ?_
  intro v1 ev1 lv1 uv1
  refine zwW_mlw (nx := 6) (by decide +kernel) ?_
  intro v2 ev2 lv2 uv2
  have Ev2 : v2 = w32 (a * (w32 (10 + b))) := by rw [ev2, ev1]
  refine zwW_p [(1, 2, 0), (0, 20, 0)] (q := 9) (ls' := [(0, a), (0, b), (0, c), (0, d)]) (st' := [(0, 20), (0, c), (0, v2)]) (by decide +kernel) rfl ?_
  refine zwW_adw (nx := 10) (by decide +kernel) ?_
  intro v3 ev3 lv3 uv3
  refine zwW_cs (k' := 173) (n := 2) (nx := 13) (as := [(0, v2), (0, v3)]) (st' := []) (by decide +kernel) rfl (x173 h C v2 v3 (by omega) (by omega)) rfl ?_
  rintro v4 _ ⟨rfl, f5⟩
  refine zwW_p [(1, 3, 0), (1, 2, 0)] (q := 15) (ls' := [(0, a), (0, b), (0, c), (0, d)]) (st' := [(0, c), (0, d), (0, v4)]) (by decide +kernel) rfl ?_
  refine zwW_mlw (nx := 16) (by decide +kernel) ?_
  intro v6 ev6 lv6 uv6
  refine zwW_min (nx := 19) (by decide +kernel) rfl ?_
  intro v7 ev7
  refine zwW_ret (nx := 20) (a := 0) (b := 0) (by decide +kernel) rfl (Or.inl rfl) ?_
  exact ⟨rfl, by omega⟩
-- WheelLand$Village.hasRoomFor(IZ)Z
theorem x149 {sc : List Int} (h : Hp) (C : CI h) (r a b : Int) (G_r : gV h r) (q_a : -2147483648 ≤ a ∧ a ≤ 2147483647) : zwC sc 1 149 [(2, r), (0, a), (0, b)] h (zwRt 0 (fun x g => h = g ∧ ((x = 1 ∧ (0 ≤ 1)) ∨ (x = 0 ∧ (0 ≤ 1))))) := by
  refine zwC_of (D := 0) 3 (by decide +kernel) rfl (ls := [(2, r), (0, a), (0, b)]) rfl ?_
  have lw_r := G_r.1
  refine zwW_p [(1, 2, 0)] (q := 1) (ls' := [(2, r), (0, a), (0, b)]) (st' := [(0, b)]) (by decide +kernel) rfl ?_
  refine zwif_eq (q := 11) (nx := 4) (by decide +kernel) (fun c1 => ?_) (fun c1 => ?_)
  · refine zwW_p [(1, 0, 2)] (q := 12) (ls' := [(2, r), (0, a), (0, b)]) (st' := [(2, r)]) (by decide +kernel) rfl ?_
    refine zwX_gi C (kd := 11) (bn := 6) (n := 17) (nx := 15) (by decide +kernel) G_r.2.1 G_r.1 rfl ?_
    intro v2 ev2 lv2 uv2
    refine zwW_p [(1, 1, 0)] (q := 16) (ls' := [(2, r), (0, a), (0, b)]) (st' := [(0, a), (0, v2)]) (by decide +kernel) rfl ?_
    refine zwW_adw (nx := 17) (by decide +kernel) ?_
    intro v3 ev3 lv3 uv3
    have Ev3 : v3 = w32 ((fld h r 6) + a) := by rw [ev3, ev2]
    refine zwW_p [(0, 9999, 0)] (q := 20) (ls' := [(2, r), (0, a), (0, b)]) (st' := [(0, 9999), (0, v3)]) (by decide +kernel) rfl ?_
    refine zwic_gt (q := 27) (nx := 23) (by decide +kernel) (fun c4 => ?_) (fun c4 => ?_)
    · refine zwW_p [(0, 0, 0)] (q := 28) (ls' := [(2, r), (0, a), (0, b)]) (st' := [(0, 0)]) (by decide +kernel) rfl ?_
      refine zwW_ret (nx := 29) (a := 1) (b := 0) (by decide +kernel) rfl (Or.inr (Or.inl ⟨rfl, Or.inl rfl⟩)) ?_
      exact ⟨rfl, Or.inr ⟨rfl, by omega⟩⟩
    · refine zwW_p [(0, 1, 0), (24, 28, 0)] (q := 28) (ls' := [(2, r), (0, a), (0, b)]) (st' := [(0, 1)]) (by decide +kernel) rfl ?_
      refine zwW_ret (nx := 29) (a := 1) (b := 0) (by decide +kernel) rfl (Or.inr (Or.inl ⟨rfl, Or.inr rfl⟩)) ?_
      exact ⟨rfl, Or.inl ⟨rfl, by omega⟩⟩
  · refine zwW_p [(1, 0, 2)] (q := 5) (ls' := [(2, r), (0, a), (0, b)]) (st' := [(2, r)]) (by decide +kernel) rfl ?_
    refine zwX_gi C (kd := 11) (bn := 5) (n := 17) (nx := 8) (by decide +kernel) G_r.2.1 G_r.1 rfl ?_
    intro v5 ev5 lv5 uv5
    refine zwW_p [(24, 15, 0), (1, 1, 0)] (q := 16) (ls' := [(2, r), (0, a), (0, b)]) (st' := [(0, a), (0, v5)]) (by decide +kernel) rfl ?_
    refine zwW_adw (nx := 17) (by decide +kernel) ?_
    intro v6 ev6 lv6 uv6
    have Ev6 : v6 = w32 ((fld h r 5) + a) := by rw [ev6, ev5]
    refine zwW_p [(0, 9999, 0)] (q := 20) (ls' := [(2, r), (0, a), (0, b)]) (st' := [(0, 9999), (0, v6)]) (by decide +kernel) rfl ?_
    refine zwic_gt (q := 27) (nx := 23) (by decide +kernel) (fun c7 => ?_) (fun c7 => ?_)
    · refine zwW_p [(0, 0, 0)] (q := 28) (ls' := [(2, r), (0, a), (0, b)]) (st' := [(0, 0)]) (by decide +kernel) rfl ?_
      refine zwW_ret (nx := 29) (a := 1) (b := 0) (by decide +kernel) rfl (Or.inr (Or.inl ⟨rfl, Or.inl rfl⟩)) ?_
      exact ⟨rfl, Or.inr ⟨rfl, by omega⟩⟩
    · refine zwW_p [(0, 1, 0), (24, 28, 0)] (q := 28) (ls' := [(2, r), (0, a), (0, b)]) (st' := [(0, 1)]) (by decide +kernel) rfl ?_
      refine zwW_ret (nx := 29) (a := 1) (b := 0) (by decide +kernel) rfl (Or.inr (Or.inl ⟨rfl, Or.inr rfl⟩)) ?_
      exact ⟨rfl, Or.inl ⟨rfl, by omega⟩⟩
def msx150 : Zms := [(1011, 1011, 5, 6), (1011, 1011, 6, 7), (1011, 1011, 12, 13)]
-- WheelLand$Village.putHand(IZ)V
theorem x150 {sc : List Int} (h : Hp) (C : CI h) (r a b : Int) (G_r : gV h r) (q_a : -2147483648 ≤ a ∧ a ≤ 2147483647) : zwC sc 1 150 [(2, r), (0, a), (0, b)] h (zwRv (fun g => CI g ∧ zXR msx150 (0) (0) h g)) := by
  refine zwC_of (D := 0) 3 (by decide +kernel) rfl (ls := [(2, r), (0, a), (0, b)]) rfl ?_
  have lw_r := G_r.1
  have X : zXR msx150 0 0 h h := zXR.rf _ _
  refine zwW_p [(1, 2, 0)] (q := 1) (ls' := [(2, r), (0, a), (0, b)]) (st' := [(0, b)]) (by decide +kernel) rfl ?_
  refine zwif_eq (q := 27) (nx := 4) (by decide +kernel) (fun c1 => ?_) (fun c1 => ?_)
  · refine zwW_p [(1, 0, 2), (12, 0, 0)] (q := 29) (ls' := [(2, r), (0, a), (0, b)]) (st' := [(2, r), (2, r)]) (by decide +kernel) rfl ?_
    refine zwX_gi C (kd := 11) (bn := 6) (n := 17) (nx := 32) (by decide +kernel) G_r.2.1 G_r.1 rfl ?_
    intro v2 ev2 lv2 uv2
    refine zwW_p [(1, 1, 0)] (q := 33) (ls' := [(2, r), (0, a), (0, b)]) (st' := [(0, a), (0, v2), (2, r)]) (by decide +kernel) rfl ?_
    refine zwW_adw (nx := 34) (by decide +kernel) ?_
    intro v3 ev3 lv3 uv3
    have Ev3 : v3 = w32 ((fld h r 6) + a) := by rw [ev3, ev2]
    refine zwX_pi C (kd := 11) (bn := 6) (n := 17) (nx := 37) (by decide +kernel) G_r.2.1 G_r.1 (by first | omega | exact ⟨by omega, by omega⟩) ?_
    rintro h4 eh4 Ch4 Qh4
    have Xh4 : zXR msx150 (0) (0) h h4 := X.tr (c2 := 0) (s2 := 0) Qh4 (by decide +kernel) (by decide) (by decide)
    have Gh4_0 : gV h4 r := G_r.x Qh4
    refine zwW_retv (nx := 38) (a := 0) (b := 0) (by decide +kernel) ?_
    exact ⟨Ch4, Xh4.le (by decide) (by decide)⟩
  · refine zwW_p [(1, 0, 2), (12, 0, 0)] (q := 6) (ls' := [(2, r), (0, a), (0, b)]) (st' := [(2, r), (2, r)]) (by decide +kernel) rfl ?_
    refine zwX_gi C (kd := 11) (bn := 5) (n := 17) (nx := 9) (by decide +kernel) G_r.2.1 G_r.1 rfl ?_
    intro v5 ev5 lv5 uv5
    refine zwW_p [(1, 1, 0)] (q := 10) (ls' := [(2, r), (0, a), (0, b)]) (st' := [(0, a), (0, v5), (2, r)]) (by decide +kernel) rfl ?_
    refine zwW_adw (nx := 11) (by decide +kernel) ?_
    intro v6 ev6 lv6 uv6
    have Ev6 : v6 = w32 ((fld h r 5) + a) := by rw [ev6, ev5]
    refine zwX_pi C (kd := 11) (bn := 5) (n := 17) (nx := 14) (by decide +kernel) G_r.2.1 G_r.1 (by first | omega | exact ⟨by omega, by omega⟩) ?_
    rintro h7 eh7 Ch7 Qh7
    have Xh7 : zXR msx150 (0) (0) h h7 := X.tr (c2 := 0) (s2 := 0) Qh7 (by decide +kernel) (by decide) (by decide)
    have Gh7_0 : gV h7 r := G_r.x Qh7
    refine zwW_p [(1, 0, 2), (12, 0, 0)] (q := 16) (ls' := [(2, r), (0, a), (0, b)]) (st' := [(2, r), (2, r)]) (by decide +kernel) rfl ?_
    refine zwX_gi Ch7 (kd := 11) (bn := 12) (n := 17) (nx := 19) (by decide +kernel) Gh7_0.2.1 Gh7_0.1 rfl ?_
    intro v8 ev8 lv8 uv8
    refine zwW_p [(1, 1, 0)] (q := 20) (ls' := [(2, r), (0, a), (0, b)]) (st' := [(0, a), (0, v8), (2, r)]) (by decide +kernel) rfl ?_
    refine zwW_adw (nx := 21) (by decide +kernel) ?_
    intro v9 ev9 lv9 uv9
    have Ev9 : v9 = w32 ((fld h7 r 12) + a) := by rw [ev9, ev8]
    refine zwX_pi Ch7 (kd := 11) (bn := 12) (n := 17) (nx := 24) (by decide +kernel) Gh7_0.2.1 Gh7_0.1 (by first | omega | exact ⟨by omega, by omega⟩) ?_
    rintro h10 eh10 Ch10 Qh10
    have Xh10 : zXR msx150 (0) (0) h h10 := Xh7.tr (c2 := 0) (s2 := 0) Qh10 (by decide +kernel) (by decide) (by decide)
    have Gh10_0 : gV h10 r := Gh7_0.x Qh10
    refine zwW_p [(24, 37, 0)] (q := 37) (ls' := [(2, r), (0, a), (0, b)]) (st' := []) (by decide +kernel) rfl ?_
    refine zwW_retv (nx := 38) (a := 0) (b := 0) (by decide +kernel) ?_
    exact ⟨Ch10, Xh10.le (by decide) (by decide)⟩
-- WheelLand$Village.millPriceAsBegan(I)I
theorem x152 {sc : List Int} (h : Hp) (C : CI h) (r a : Int) (G_r : gV h r) (q_a : -2147483648 ≤ a ∧ a ≤ 2147483647) : zwC sc 1 152 [(2, r), (0, a)] h (zwRt 0 (fun x g => h = g ∧ (-2147483648 ≤ x ∧ x ≤ 2147483647))) := by
  refine zwC_of (D := 0) 2 (by decide +kernel) rfl (ls := [(2, r), (0, a)]) rfl ?_
  have lw_r := G_r.1
  refine zwW_p [(1, 1, 0)] (q := 1) (ls' := [(2, r), (0, a)]) (st' := [(0, a)]) (by decide +kernel) rfl ?_
  refine zwif_lt (q := 22) (nx := 4) (by decide +kernel) (fun c1 => ?_) (fun c1 => ?_)
  · refine zwW_p [(0, 10, 0)] (q := 24) (ls' := [(2, r), (0, a)]) (st' := [(0, 10)]) (by decide +kernel) rfl ?_
    refine zwW_ret (nx := 25) (a := 0) (b := 0) (by decide +kernel) rfl (Or.inl rfl) ?_
    exact ⟨rfl, by omega⟩
  · refine zwW_p [(1, 1, 0), (1, 0, 2)] (q := 6) (ls' := [(2, r), (0, a)]) (st' := [(2, r), (0, a)]) (by decide +kernel) rfl ?_
    refine zwW_get (kd := 11) (bn := 16) (t := 2) (n := 17) (nx := 9) (by decide +kernel) G_r.2.1 rfl ?_
    obtain ⟨v2, ev2⟩ : ∃ z, z = fld h r 16 := ⟨_, rfl⟩
    rw [← ev2]
    have Gv2 : gA 157 h v2 := by rw [ev2]; exact G_r.2.2
    have lv2 := Gv2.1
    refine zwW_len (n := 157) (nx := 10) (by decide +kernel) Gv2.2 rfl ?_
    refine zwic_ge (q := 22) (nx := 13) (by decide +kernel) (fun c3 => ?_) (fun c3 => ?_)
    · refine zwW_p [(0, 10, 0)] (q := 24) (ls' := [(2, r), (0, a)]) (st' := [(0, 10)]) (by decide +kernel) rfl ?_
      refine zwW_ret (nx := 25) (a := 0) (b := 0) (by decide +kernel) rfl (Or.inl rfl) ?_
      exact ⟨rfl, by omega⟩
    · refine zwW_p [(1, 0, 2)] (q := 14) (ls' := [(2, r), (0, a)]) (st' := [(2, r)]) (by decide +kernel) rfl ?_
      refine zwW_get (kd := 11) (bn := 16) (t := 2) (n := 17) (nx := 17) (by decide +kernel) G_r.2.1 rfl ?_
      rw [← ev2]
      refine zwW_p [(1, 1, 0)] (q := 18) (ls' := [(2, r), (0, a)]) (st' := [(0, a), (2, v2)]) (by decide +kernel) rfl ?_
      refine zwX_ai C (n := 157) (nx := 19) (by decide +kernel) Gv2.2 Gv2.1 (by first | omega | exact ⟨by omega, by omega⟩) ?_
      intro v5 ev5 lv5 uv5
      refine zwW_p [(24, 24, 0)] (q := 24) (ls' := [(2, r), (0, a)]) (st' := [(0, v5)]) (by decide +kernel) rfl ?_
      refine zwW_ret (nx := 25) (a := 0) (b := 0) (by decide +kernel) rfl (Or.inl rfl) ?_
      exact ⟨rfl, by omega⟩
-- WheelLand$Village.choiceOf(II)I
theorem x154 {sc : List Int} (h : Hp) (C : CI h) (r a b : Int) (G_r : gV h r) (q_a : -2147483648 ≤ a ∧ a ≤ 2147483647) (q_b : -2147483648 ≤ b ∧ b ≤ 2147483647) : zwC sc 1 154 [(2, r), (0, a), (0, b)] h (zwRt 0 (fun x g => h = g ∧ (-2147483648 ≤ x ∧ x ≤ 2147483647))) := by
  refine zwC_of (D := 0) 5 (by decide +kernel) rfl (ls := [(2, r), (0, a), (0, b), (9, 0), (9, 0)]) rfl ?_
  have lw_r := G_r.1
  refine zwW_p [(1, 0, 2)] (q := 1) (ls' := [(2, r), (0, a), (0, b), (9, 0), (9, 0)]) (st' := [(2, r)]) (by decide +kernel) rfl ?_
  refine zwX_gi C (kd := 11) (bn := 5) (n := 17) (nx := 4) (by decide +kernel) G_r.2.1 G_r.1 rfl ?_
  intro v1 ev1 lv1 uv1
  refine zwW_p [(1, 0, 2)] (q := 5) (ls' := [(2, r), (0, a), (0, b), (9, 0), (9, 0)]) (st' := [(2, r), (0, v1)]) (by decide +kernel) rfl ?_
  refine zwX_gi C (kd := 11) (bn := 6) (n := 17) (nx := 8) (by decide +kernel) G_r.2.1 G_r.1 rfl ?_
  intro v2 ev2 lv2 uv2
  refine zwW_adw (nx := 9) (by decide +kernel) ?_
  intro v3 ev3 lv3 uv3
  have Ev3 : v3 = w32 ((fld h r 5) + (fld h r 6)) := by rw [ev3, ev1, ev2]
  refine zwif_le (q := 24) (nx := 12) (by decide +kernel) (fun c4 => ?_) (fun c4 => ?_)
  · refine zwW_p [(0, 0, 0), (2, 3, 0), (1, 0, 2)] (q := 27) (ls' := [(2, r), (0, a), (0, b), (0, 0), (9, 0)]) (st' := [(2, r)]) (by decide +kernel) rfl ?_
    refine zwX_gi C (kd := 11) (bn := 7) (n := 17) (nx := 30) (by decide +kernel) G_r.2.1 G_r.1 rfl ?_
    intro v5 ev5 lv5 uv5
    refine zwif_le (q := 47) (nx := 33) (by decide +kernel) (fun c6 => ?_) (fun c6 => ?_)
    · refine zwW_p [(0, 0, 0), (2, 4, 0), (1, 3, 0)] (q := 51) (ls' := [(2, r), (0, a), (0, b), (0, 0), (0, 0)]) (st' := [(0, 0)]) (by decide +kernel) rfl ?_
      refine zwif_eq (q := 83) (nx := 54) (by decide +kernel) (fun c7 => ?_) (fun c7 => ?_)
      · refine zwW_p [(1, 3, 0)] (q := 84) (ls' := [(2, r), (0, a), (0, b), (0, 0), (0, 0)]) (st' := [(0, 0)]) (by decide +kernel) rfl ?_
        refine zwif_eq (q := 89) (nx := 87) (by decide +kernel) (fun c8 => ?_) (fun c8 => ?_)
        · refine zwW_p [(1, 4, 0)] (q := 91) (ls' := [(2, r), (0, a), (0, b), (0, 0), (0, 0)]) (st' := [(0, 0)]) (by decide +kernel) rfl ?_
          refine zwif_eq (q := 98) (nx := 94) (by decide +kernel) (fun c9 => ?_) (fun c9 => ?_)
          · refine zwW_p [(0, -1, 0)] (q := 99) (ls' := [(2, r), (0, a), (0, b), (0, 0), (0, 0)]) (st' := [(0, -1)]) (by decide +kernel) rfl ?_
            refine zwW_ret (nx := 100) (a := 0) (b := 0) (by decide +kernel) rfl (Or.inl rfl) ?_
            exact ⟨rfl, by omega⟩
          · exfalso; omega
        · exfalso; omega
      · exfalso; omega
    · refine zwW_p [(1, 1, 0), (1, 0, 2)] (q := 35) (ls' := [(2, r), (0, a), (0, b), (0, 0), (9, 0)]) (st' := [(2, r), (0, a)]) (by decide +kernel) rfl ?_
      refine zwX_gi C (kd := 11) (bn := 9) (n := 17) (nx := 38) (by decide +kernel) G_r.2.1 G_r.1 rfl ?_
      intro v10 ev10 lv10 uv10
      refine zwW_p [(1, 2, 0)] (q := 39) (ls' := [(2, r), (0, a), (0, b), (0, 0), (9, 0)]) (st' := [(0, b), (0, v10), (0, a)]) (by decide +kernel) rfl ?_
      refine zwW_adw (nx := 40) (by decide +kernel) ?_
      intro v11 ev11 lv11 uv11
      have Ev11 : v11 = w32 ((fld h r 9) + b) := by rw [ev11, ev10]
      refine zwic_lt (q := 47) (nx := 43) (by decide +kernel) (fun c12 => ?_) (fun c12 => ?_)
      · refine zwW_p [(0, 0, 0), (2, 4, 0), (1, 3, 0)] (q := 51) (ls' := [(2, r), (0, a), (0, b), (0, 0), (0, 0)]) (st' := [(0, 0)]) (by decide +kernel) rfl ?_
        refine zwif_eq (q := 83) (nx := 54) (by decide +kernel) (fun c13 => ?_) (fun c13 => ?_)
        · refine zwW_p [(1, 3, 0)] (q := 84) (ls' := [(2, r), (0, a), (0, b), (0, 0), (0, 0)]) (st' := [(0, 0)]) (by decide +kernel) rfl ?_
          refine zwif_eq (q := 89) (nx := 87) (by decide +kernel) (fun c14 => ?_) (fun c14 => ?_)
          · refine zwW_p [(1, 4, 0)] (q := 91) (ls' := [(2, r), (0, a), (0, b), (0, 0), (0, 0)]) (st' := [(0, 0)]) (by decide +kernel) rfl ?_
            refine zwif_eq (q := 98) (nx := 94) (by decide +kernel) (fun c15 => ?_) (fun c15 => ?_)
            · refine zwW_p [(0, -1, 0)] (q := 99) (ls' := [(2, r), (0, a), (0, b), (0, 0), (0, 0)]) (st' := [(0, -1)]) (by decide +kernel) rfl ?_
              refine zwW_ret (nx := 100) (a := 0) (b := 0) (by decide +kernel) rfl (Or.inl rfl) ?_
              exact ⟨rfl, by omega⟩
            · exfalso; omega
          · exfalso; omega
        · exfalso; omega
      · refine zwW_p [(0, 1, 0), (24, 48, 0), (2, 4, 0), (1, 3, 0)] (q := 51) (ls' := [(2, r), (0, a), (0, b), (0, 0), (0, 1)]) (st' := [(0, 0)]) (by decide +kernel) rfl ?_
        refine zwif_eq (q := 83) (nx := 54) (by decide +kernel) (fun c16 => ?_) (fun c16 => ?_)
        · refine zwW_p [(1, 3, 0)] (q := 84) (ls' := [(2, r), (0, a), (0, b), (0, 0), (0, 1)]) (st' := [(0, 0)]) (by decide +kernel) rfl ?_
          refine zwif_eq (q := 89) (nx := 87) (by decide +kernel) (fun c17 => ?_) (fun c17 => ?_)
          · refine zwW_p [(1, 4, 0)] (q := 91) (ls' := [(2, r), (0, a), (0, b), (0, 0), (0, 1)]) (st' := [(0, 1)]) (by decide +kernel) rfl ?_
            refine zwif_eq (q := 98) (nx := 94) (by decide +kernel) (fun c18 => ?_) (fun c18 => ?_)
            · exfalso; omega
            · refine zwW_p [(0, 1, 0), (24, 99, 0)] (q := 99) (ls' := [(2, r), (0, a), (0, b), (0, 0), (0, 1)]) (st' := [(0, 1)]) (by decide +kernel) rfl ?_
              refine zwW_ret (nx := 100) (a := 0) (b := 0) (by decide +kernel) rfl (Or.inl rfl) ?_
              exact ⟨rfl, by omega⟩
          · exfalso; omega
        · exfalso; omega
  · refine zwW_p [(1, 1, 0), (1, 0, 2)] (q := 14) (ls' := [(2, r), (0, a), (0, b), (9, 0), (9, 0)]) (st' := [(2, r), (0, a)]) (by decide +kernel) rfl ?_
    refine zwX_gi C (kd := 11) (bn := 8) (n := 17) (nx := 17) (by decide +kernel) G_r.2.1 G_r.1 rfl ?_
    intro v19 ev19 lv19 uv19
    refine zwic_lt (q := 24) (nx := 20) (by decide +kernel) (fun c20 => ?_) (fun c20 => ?_)
    · refine zwW_p [(0, 0, 0), (2, 3, 0), (1, 0, 2)] (q := 27) (ls' := [(2, r), (0, a), (0, b), (0, 0), (9, 0)]) (st' := [(2, r)]) (by decide +kernel) rfl ?_
      refine zwX_gi C (kd := 11) (bn := 7) (n := 17) (nx := 30) (by decide +kernel) G_r.2.1 G_r.1 rfl ?_
      intro v21 ev21 lv21 uv21
      refine zwif_le (q := 47) (nx := 33) (by decide +kernel) (fun c22 => ?_) (fun c22 => ?_)
      · refine zwW_p [(0, 0, 0), (2, 4, 0), (1, 3, 0)] (q := 51) (ls' := [(2, r), (0, a), (0, b), (0, 0), (0, 0)]) (st' := [(0, 0)]) (by decide +kernel) rfl ?_
        refine zwif_eq (q := 83) (nx := 54) (by decide +kernel) (fun c23 => ?_) (fun c23 => ?_)
        · refine zwW_p [(1, 3, 0)] (q := 84) (ls' := [(2, r), (0, a), (0, b), (0, 0), (0, 0)]) (st' := [(0, 0)]) (by decide +kernel) rfl ?_
          refine zwif_eq (q := 89) (nx := 87) (by decide +kernel) (fun c24 => ?_) (fun c24 => ?_)
          · refine zwW_p [(1, 4, 0)] (q := 91) (ls' := [(2, r), (0, a), (0, b), (0, 0), (0, 0)]) (st' := [(0, 0)]) (by decide +kernel) rfl ?_
            refine zwif_eq (q := 98) (nx := 94) (by decide +kernel) (fun c25 => ?_) (fun c25 => ?_)
            · refine zwW_p [(0, -1, 0)] (q := 99) (ls' := [(2, r), (0, a), (0, b), (0, 0), (0, 0)]) (st' := [(0, -1)]) (by decide +kernel) rfl ?_
              refine zwW_ret (nx := 100) (a := 0) (b := 0) (by decide +kernel) rfl (Or.inl rfl) ?_
              exact ⟨rfl, by omega⟩
            · exfalso; omega
          · exfalso; omega
        · exfalso; omega
      · refine zwW_p [(1, 1, 0), (1, 0, 2)] (q := 35) (ls' := [(2, r), (0, a), (0, b), (0, 0), (9, 0)]) (st' := [(2, r), (0, a)]) (by decide +kernel) rfl ?_
        refine zwX_gi C (kd := 11) (bn := 9) (n := 17) (nx := 38) (by decide +kernel) G_r.2.1 G_r.1 rfl ?_
        intro v26 ev26 lv26 uv26
        refine zwW_p [(1, 2, 0)] (q := 39) (ls' := [(2, r), (0, a), (0, b), (0, 0), (9, 0)]) (st' := [(0, b), (0, v26), (0, a)]) (by decide +kernel) rfl ?_
        refine zwW_adw (nx := 40) (by decide +kernel) ?_
        intro v27 ev27 lv27 uv27
        have Ev27 : v27 = w32 ((fld h r 9) + b) := by rw [ev27, ev26]
        refine zwic_lt (q := 47) (nx := 43) (by decide +kernel) (fun c28 => ?_) (fun c28 => ?_)
        · refine zwW_p [(0, 0, 0), (2, 4, 0), (1, 3, 0)] (q := 51) (ls' := [(2, r), (0, a), (0, b), (0, 0), (0, 0)]) (st' := [(0, 0)]) (by decide +kernel) rfl ?_
          refine zwif_eq (q := 83) (nx := 54) (by decide +kernel) (fun c29 => ?_) (fun c29 => ?_)
          · refine zwW_p [(1, 3, 0)] (q := 84) (ls' := [(2, r), (0, a), (0, b), (0, 0), (0, 0)]) (st' := [(0, 0)]) (by decide +kernel) rfl ?_
            refine zwif_eq (q := 89) (nx := 87) (by decide +kernel) (fun c30 => ?_) (fun c30 => ?_)
            · refine zwW_p [(1, 4, 0)] (q := 91) (ls' := [(2, r), (0, a), (0, b), (0, 0), (0, 0)]) (st' := [(0, 0)]) (by decide +kernel) rfl ?_
              refine zwif_eq (q := 98) (nx := 94) (by decide +kernel) (fun c31 => ?_) (fun c31 => ?_)
              · refine zwW_p [(0, -1, 0)] (q := 99) (ls' := [(2, r), (0, a), (0, b), (0, 0), (0, 0)]) (st' := [(0, -1)]) (by decide +kernel) rfl ?_
                refine zwW_ret (nx := 100) (a := 0) (b := 0) (by decide +kernel) rfl (Or.inl rfl) ?_
                exact ⟨rfl, by omega⟩
              · exfalso; omega
            · exfalso; omega
          · exfalso; omega
        · refine zwW_p [(0, 1, 0), (24, 48, 0), (2, 4, 0), (1, 3, 0)] (q := 51) (ls' := [(2, r), (0, a), (0, b), (0, 0), (0, 1)]) (st' := [(0, 0)]) (by decide +kernel) rfl ?_
          refine zwif_eq (q := 83) (nx := 54) (by decide +kernel) (fun c32 => ?_) (fun c32 => ?_)
          · refine zwW_p [(1, 3, 0)] (q := 84) (ls' := [(2, r), (0, a), (0, b), (0, 0), (0, 1)]) (st' := [(0, 0)]) (by decide +kernel) rfl ?_
            refine zwif_eq (q := 89) (nx := 87) (by decide +kernel) (fun c33 => ?_) (fun c33 => ?_)
            · refine zwW_p [(1, 4, 0)] (q := 91) (ls' := [(2, r), (0, a), (0, b), (0, 0), (0, 1)]) (st' := [(0, 1)]) (by decide +kernel) rfl ?_
              refine zwif_eq (q := 98) (nx := 94) (by decide +kernel) (fun c34 => ?_) (fun c34 => ?_)
              · exfalso; omega
              · refine zwW_p [(0, 1, 0), (24, 99, 0)] (q := 99) (ls' := [(2, r), (0, a), (0, b), (0, 0), (0, 1)]) (st' := [(0, 1)]) (by decide +kernel) rfl ?_
                refine zwW_ret (nx := 100) (a := 0) (b := 0) (by decide +kernel) rfl (Or.inl rfl) ?_
                exact ⟨rfl, by omega⟩
            · exfalso; omega
          · exfalso; omega
    · refine zwW_p [(0, 1, 0), (24, 25, 0), (2, 3, 0), (1, 0, 2)] (q := 27) (ls' := [(2, r), (0, a), (0, b), (0, 1), (9, 0)]) (st' := [(2, r)]) (by decide +kernel) rfl ?_
      refine zwX_gi C (kd := 11) (bn := 7) (n := 17) (nx := 30) (by decide +kernel) G_r.2.1 G_r.1 rfl ?_
      intro v35 ev35 lv35 uv35
      refine zwif_le (q := 47) (nx := 33) (by decide +kernel) (fun c36 => ?_) (fun c36 => ?_)
      · refine zwW_p [(0, 0, 0), (2, 4, 0), (1, 3, 0)] (q := 51) (ls' := [(2, r), (0, a), (0, b), (0, 1), (0, 0)]) (st' := [(0, 1)]) (by decide +kernel) rfl ?_
        refine zwif_eq (q := 83) (nx := 54) (by decide +kernel) (fun c37 => ?_) (fun c37 => ?_)
        · exfalso; omega
        · refine zwW_p [(1, 4, 0)] (q := 56) (ls' := [(2, r), (0, a), (0, b), (0, 1), (0, 0)]) (st' := [(0, 0)]) (by decide +kernel) rfl ?_
          refine zwif_eq (q := 83) (nx := 59) (by decide +kernel) (fun c38 => ?_) (fun c38 => ?_)
          · refine zwW_p [(1, 3, 0)] (q := 84) (ls' := [(2, r), (0, a), (0, b), (0, 1), (0, 0)]) (st' := [(0, 1)]) (by decide +kernel) rfl ?_
            refine zwif_eq (q := 89) (nx := 87) (by decide +kernel) (fun c39 => ?_) (fun c39 => ?_)
            · exfalso; omega
            · refine zwW_p [(0, 0, 0)] (q := 88) (ls' := [(2, r), (0, a), (0, b), (0, 1), (0, 0)]) (st' := [(0, 0)]) (by decide +kernel) rfl ?_
              refine zwW_ret (nx := 89) (a := 0) (b := 0) (by decide +kernel) rfl (Or.inl rfl) ?_
              exact ⟨rfl, by omega⟩
          · exfalso; omega
      · refine zwW_p [(1, 1, 0), (1, 0, 2)] (q := 35) (ls' := [(2, r), (0, a), (0, b), (0, 1), (9, 0)]) (st' := [(2, r), (0, a)]) (by decide +kernel) rfl ?_
        refine zwX_gi C (kd := 11) (bn := 9) (n := 17) (nx := 38) (by decide +kernel) G_r.2.1 G_r.1 rfl ?_
        intro v40 ev40 lv40 uv40
        refine zwW_p [(1, 2, 0)] (q := 39) (ls' := [(2, r), (0, a), (0, b), (0, 1), (9, 0)]) (st' := [(0, b), (0, v40), (0, a)]) (by decide +kernel) rfl ?_
        refine zwW_adw (nx := 40) (by decide +kernel) ?_
        intro v41 ev41 lv41 uv41
        have Ev41 : v41 = w32 ((fld h r 9) + b) := by rw [ev41, ev40]
        refine zwic_lt (q := 47) (nx := 43) (by decide +kernel) (fun c42 => ?_) (fun c42 => ?_)
        · refine zwW_p [(0, 0, 0), (2, 4, 0), (1, 3, 0)] (q := 51) (ls' := [(2, r), (0, a), (0, b), (0, 1), (0, 0)]) (st' := [(0, 1)]) (by decide +kernel) rfl ?_
          refine zwif_eq (q := 83) (nx := 54) (by decide +kernel) (fun c43 => ?_) (fun c43 => ?_)
          · exfalso; omega
          · refine zwW_p [(1, 4, 0)] (q := 56) (ls' := [(2, r), (0, a), (0, b), (0, 1), (0, 0)]) (st' := [(0, 0)]) (by decide +kernel) rfl ?_
            refine zwif_eq (q := 83) (nx := 59) (by decide +kernel) (fun c44 => ?_) (fun c44 => ?_)
            · refine zwW_p [(1, 3, 0)] (q := 84) (ls' := [(2, r), (0, a), (0, b), (0, 1), (0, 0)]) (st' := [(0, 1)]) (by decide +kernel) rfl ?_
              refine zwif_eq (q := 89) (nx := 87) (by decide +kernel) (fun c45 => ?_) (fun c45 => ?_)
              · exfalso; omega
              · refine zwW_p [(0, 0, 0)] (q := 88) (ls' := [(2, r), (0, a), (0, b), (0, 1), (0, 0)]) (st' := [(0, 0)]) (by decide +kernel) rfl ?_
                refine zwW_ret (nx := 89) (a := 0) (b := 0) (by decide +kernel) rfl (Or.inl rfl) ?_
                exact ⟨rfl, by omega⟩
            · exfalso; omega
        · refine zwW_p [(0, 1, 0), (24, 48, 0), (2, 4, 0), (1, 3, 0)] (q := 51) (ls' := [(2, r), (0, a), (0, b), (0, 1), (0, 1)]) (st' := [(0, 1)]) (by decide +kernel) rfl ?_
          refine zwif_eq (q := 83) (nx := 54) (by decide +kernel) (fun c46 => ?_) (fun c46 => ?_)
          · exfalso; omega
          · refine zwW_p [(1, 4, 0)] (q := 56) (ls' := [(2, r), (0, a), (0, b), (0, 1), (0, 1)]) (st' := [(0, 1)]) (by decide +kernel) rfl ?_
            refine zwif_eq (q := 83) (nx := 59) (by decide +kernel) (fun c47 => ?_) (fun c47 => ?_)
            · exfalso; omega
            · refine zwW_p [(1, 0, 2)] (q := 60) (ls' := [(2, r), (0, a), (0, b), (0, 1), (0, 1)]) (st' := [(2, r)]) (by decide +kernel) rfl ?_
              refine zwX_gi C (kd := 11) (bn := 8) (n := 17) (nx := 63) (by decide +kernel) G_r.2.1 G_r.1 rfl ?_
              intro v48 ev48 lv48 uv48
              refine zwW_p [(1, 0, 2)] (q := 64) (ls' := [(2, r), (0, a), (0, b), (0, 1), (0, 1)]) (st' := [(2, r), (0, v48)]) (by decide +kernel) rfl ?_
              refine zwX_gi C (kd := 11) (bn := 9) (n := 17) (nx := 67) (by decide +kernel) G_r.2.1 G_r.1 rfl ?_
              intro v49 ev49 lv49 uv49
              refine zwW_p [(1, 2, 0)] (q := 68) (ls' := [(2, r), (0, a), (0, b), (0, 1), (0, 1)]) (st' := [(0, b), (0, v49), (0, v48)]) (by decide +kernel) rfl ?_
              refine zwW_adw (nx := 69) (by decide +kernel) ?_
              intro v50 ev50 lv50 uv50
              have Ev50 : v50 = w32 ((fld h r 9) + b) := by rw [ev50, ev49]
              refine zwW_p [(1, 0, 2)] (q := 70) (ls' := [(2, r), (0, a), (0, b), (0, 1), (0, 1)]) (st' := [(2, r), (0, v50), (0, v48)]) (by decide +kernel) rfl ?_
              refine zwX_gi C (kd := 11) (bn := 4) (n := 17) (nx := 73) (by decide +kernel) G_r.2.1 G_r.1 rfl ?_
              intro v51 ev51 lv51 uv51
              refine zwW_adw (nx := 74) (by decide +kernel) ?_
              intro v52 ev52 lv52 uv52
              have Ev52 : v52 = w32 ((w32 ((fld h r 9) + b)) + (fld h r 4)) := by rw [ev52, Ev50, ev51]
              refine zwic_gt (q := 81) (nx := 77) (by decide +kernel) (fun c53 => ?_) (fun c53 => ?_)
              · refine zwW_p [(0, 1, 0)] (q := 82) (ls' := [(2, r), (0, a), (0, b), (0, 1), (0, 1)]) (st' := [(0, 1)]) (by decide +kernel) rfl ?_
                refine zwW_ret (nx := 83) (a := 0) (b := 0) (by decide +kernel) rfl (Or.inl rfl) ?_
                exact ⟨rfl, by omega⟩
              · refine zwW_p [(0, 0, 0), (24, 82, 0)] (q := 82) (ls' := [(2, r), (0, a), (0, b), (0, 1), (0, 1)]) (st' := [(0, 0)]) (by decide +kernel) rfl ?_
                refine zwW_ret (nx := 83) (a := 0) (b := 0) (by decide +kernel) rfl (Or.inl rfl) ?_
                exact ⟨rfl, by omega⟩
-- WheelLand$Village.mostFalse()I
theorem x158 {sc : List Int} (h : Hp) (C : CI h) (r : Int) (G_r : gV h r) : zwC sc 1 158 [(2, r)] h (zwRt 0 (fun x g => h = g ∧ (-2147483648 ≤ x ∧ x ≤ 2147483647))) := by
  refine zwC_of (D := 0) 1 (by decide +kernel) rfl (ls := [(2, r)]) rfl ?_
  have lw_r := G_r.1
  refine zwW_p [(1, 0, 2)] (q := 1) (ls' := [(2, r)]) (st' := [(2, r)]) (by decide +kernel) rfl ?_
  refine zwX_gi C (kd := 11) (bn := 11) (n := 17) (nx := 4) (by decide +kernel) G_r.2.1 G_r.1 rfl ?_
  intro v1 ev1 lv1 uv1
  refine zwW_p [(1, 0, 2)] (q := 5) (ls' := [(2, r)]) (st' := [(2, r), (0, v1)]) (by decide +kernel) rfl ?_
  refine zwX_gi C (kd := 11) (bn := 13) (n := 17) (nx := 8) (by decide +kernel) G_r.2.1 G_r.1 rfl ?_
  intro v2 ev2 lv2 uv2
  refine zwW_sbw (nx := 9) (by decide +kernel) ?_
  intro v3 ev3 lv3 uv3
  have Ev3 : v3 = w32 ((fld h r 11) - (fld h r 13)) := by rw [ev3, ev1, ev2]
  refine zwW_p [(0, 0, 0)] (q := 10) (ls' := [(2, r)]) (st' := [(0, 0), (0, v3)]) (by decide +kernel) rfl ?_
  refine zwW_max (nx := 13) (by decide +kernel) rfl ?_
  intro v4 ev4
  refine zwW_ret (nx := 14) (a := 0) (b := 0) (by decide +kernel) rfl (Or.inl rfl) ?_
  exact ⟨rfl, by omega⟩
-- WheelLand$Village.surelyFalse()I
theorem x159 {sc : List Int} (h : Hp) (C : CI h) (r : Int) (G_r : gV h r) : zwC sc 1 159 [(2, r)] h (zwRt 0 (fun x g => h = g ∧ (-2147483648 ≤ x ∧ x ≤ 2147483647))) := by
  refine zwC_of (D := 0) 1 (by decide +kernel) rfl (ls := [(2, r)]) rfl ?_
  have lw_r := G_r.1
  refine zwW_p [(1, 0, 2)] (q := 1) (ls' := [(2, r)]) (st' := [(2, r)]) (by decide +kernel) rfl ?_
  refine zwX_gi C (kd := 11) (bn := 11) (n := 17) (nx := 4) (by decide +kernel) G_r.2.1 G_r.1 rfl ?_
  intro v1 ev1 lv1 uv1
  refine zwW_p [(1, 0, 2)] (q := 5) (ls' := [(2, r)]) (st' := [(2, r), (0, v1)]) (by decide +kernel) rfl ?_
  refine zwX_gi C (kd := 11) (bn := 12) (n := 17) (nx := 8) (by decide +kernel) G_r.2.1 G_r.1 rfl ?_
  intro v2 ev2 lv2 uv2
  refine zwW_sbw (nx := 9) (by decide +kernel) ?_
  intro v3 ev3 lv3 uv3
  have Ev3 : v3 = w32 ((fld h r 11) - (fld h r 12)) := by rw [ev3, ev1, ev2]
  refine zwW_p [(0, 0, 0)] (q := 10) (ls' := [(2, r)]) (st' := [(0, 0), (0, v3)]) (by decide +kernel) rfl ?_
  refine zwW_max (nx := 13) (by decide +kernel) rfl ?_
  intro v4 ev4
  refine zwW_ret (nx := 14) (a := 0) (b := 0) (by decide +kernel) rfl (Or.inl rfl) ?_
  exact ⟨rfl, by omega⟩
-- WheelLand$Village.idleIn(I)I
theorem x222 {sc : List Int} (h : Hp) (C : CI h) (r a : Int) (G_r : gV h r) (q_a : -2147483648 ≤ a ∧ a ≤ 2147483647) : zwC sc 1 222 [(2, r), (0, a)] h (zwRt 0 (fun x g => h = g ∧ (-2147483648 ≤ x ∧ x ≤ 2147483647))) := by
  refine zwC_of (D := 0) 2 (by decide +kernel) rfl (ls := [(2, r), (0, a)]) rfl ?_
  have lw_r := G_r.1
  refine zwW_p [(1, 1, 0)] (q := 1) (ls' := [(2, r), (0, a)]) (st' := [(0, a)]) (by decide +kernel) rfl ?_
  refine zwW_sw (d := 59) (os := [0, 28, 1, 36, 2, 48]) (by decide +kernel) ?_
  refine ⟨fun c1 => ?_, fun c1 => ?_⟩
  · show zwW _ _ _ 28 _ _ _ _
    refine zwW_p [(1, 0, 2)] (q := 29) (ls' := [(2, r), (0, a)]) (st' := [(2, r)]) (by decide +kernel) rfl ?_
    refine zwX_gi C (kd := 11) (bn := 1) (n := 17) (nx := 32) (by decide +kernel) G_r.2.1 G_r.1 rfl ?_
    intro v2 ev2 lv2 uv2
    refine zwW_p [(0, 1000000, 0)] (q := 34) (ls' := [(2, r), (0, a)]) (st' := [(0, 1000000), (0, v2)]) (by decide +kernel) rfl ?_
    refine zwW_tdw (nx := 35) (by decide +kernel) (by omega) ?_
    intro v3 ev3 lv3 uv3
    refine zwW_ret (nx := 36) (a := 0) (b := 0) (by decide +kernel) rfl (Or.inl rfl) ?_
    exact ⟨rfl, by omega⟩
  refine ⟨fun c4 => ?_, fun c4 => ?_⟩
  · show zwW _ _ _ 36 _ _ _ _
    refine zwW_p [(1, 0, 2)] (q := 37) (ls' := [(2, r), (0, a)]) (st' := [(2, r)]) (by decide +kernel) rfl ?_
    refine zwX_gi C (kd := 11) (bn := 1) (n := 17) (nx := 40) (by decide +kernel) G_r.2.1 G_r.1 rfl ?_
    intro v5 ev5 lv5 uv5
    refine zwW_p [(0, 10000, 0)] (q := 43) (ls' := [(2, r), (0, a)]) (st' := [(0, 10000), (0, v5)]) (by decide +kernel) rfl ?_
    refine zwW_tdw (nx := 44) (by decide +kernel) (by omega) ?_
    intro v6 ev6 lv6 uv6
    refine zwW_p [(0, 100, 0)] (q := 46) (ls' := [(2, r), (0, a)]) (st' := [(0, 100), (0, v6)]) (by decide +kernel) rfl ?_
    refine zwW_tmw (nx := 47) (by decide +kernel) (by first | omega | exact ⟨by omega, by omega⟩) (by omega) ?_
    intro v7 ev7 lv7 uv7
    refine zwW_ret (nx := 48) (a := 0) (b := 0) (by decide +kernel) rfl (Or.inl rfl) ?_
    exact ⟨rfl, by omega⟩
  refine ⟨fun c8 => ?_, fun c8 => ?_⟩
  · show zwW _ _ _ 48 _ _ _ _
    refine zwW_p [(1, 0, 2)] (q := 49) (ls' := [(2, r), (0, a)]) (st' := [(2, r)]) (by decide +kernel) rfl ?_
    refine zwX_gi C (kd := 11) (bn := 1) (n := 17) (nx := 52) (by decide +kernel) G_r.2.1 G_r.1 rfl ?_
    intro v9 ev9 lv9 uv9
    refine zwW_p [(0, 100, 0)] (q := 54) (ls' := [(2, r), (0, a)]) (st' := [(0, 100), (0, v9)]) (by decide +kernel) rfl ?_
    refine zwW_tdw (nx := 55) (by decide +kernel) (by omega) ?_
    intro v10 ev10 lv10 uv10
    refine zwW_p [(0, 100, 0)] (q := 57) (ls' := [(2, r), (0, a)]) (st' := [(0, 100), (0, v10)]) (by decide +kernel) rfl ?_
    refine zwW_tmw (nx := 58) (by decide +kernel) (by first | omega | exact ⟨by omega, by omega⟩) (by omega) ?_
    intro v11 ev11 lv11 uv11
    refine zwW_ret (nx := 59) (a := 0) (b := 0) (by decide +kernel) rfl (Or.inl rfl) ?_
    exact ⟨rfl, by omega⟩
  show zwW _ _ _ 59 _ _ _ _
  refine zwW_p [(1, 0, 2)] (q := 60) (ls' := [(2, r), (0, a)]) (st' := [(2, r)]) (by decide +kernel) rfl ?_
  refine zwX_gi C (kd := 11) (bn := 1) (n := 17) (nx := 63) (by decide +kernel) G_r.2.1 G_r.1 rfl ?_
  intro v12 ev12 lv12 uv12
  refine zwW_p [(0, 100, 0)] (q := 65) (ls' := [(2, r), (0, a)]) (st' := [(0, 100), (0, v12)]) (by decide +kernel) rfl ?_
  refine zwW_tmw (nx := 66) (by decide +kernel) (by first | omega | exact ⟨by omega, by omega⟩) (by omega) ?_
  intro v13 ev13 lv13 uv13
  refine zwW_ret (nx := 67) (a := 0) (b := 0) (by decide +kernel) rfl (Or.inl rfl) ?_
  exact ⟨rfl, by omega⟩
def msx234 : Zms := [(1011, 1011, 9, 10), (1011, 1011, 14, 15), (1011, 1011, 15, 16)]
-- WheelLand$Village.endSeason()V
theorem x234 {sc : List Int} (h : Hp) (C : CI h) (r : Int) (G_r : gV h r) : zwC sc 1 234 [(2, r)] h (zwRv (fun g => CI g ∧ zXR msx234 (0) (0) h g)) := by
  refine zwC_of (D := 0) 1 (by decide +kernel) rfl (ls := [(2, r)]) rfl ?_
  have lw_r := G_r.1
  have X : zXR msx234 0 0 h h := zXR.rf _ _
  refine zwW_p [(1, 0, 2), (1, 0, 2)] (q := 2) (ls' := [(2, r)]) (st' := [(2, r), (2, r)]) (by decide +kernel) rfl ?_
  refine zwX_gi C (kd := 11) (bn := 14) (n := 17) (nx := 5) (by decide +kernel) G_r.2.1 G_r.1 rfl ?_
  intro v1 ev1 lv1 uv1
  refine zwW_p [(1, 0, 2)] (q := 6) (ls' := [(2, r)]) (st' := [(2, r), (0, v1), (2, r)]) (by decide +kernel) rfl ?_
  refine zwX_gi C (kd := 11) (bn := 15) (n := 17) (nx := 9) (by decide +kernel) G_r.2.1 G_r.1 rfl ?_
  intro v2 ev2 lv2 uv2
  refine zwic_ge (q := 25) (nx := 12) (by decide +kernel) (fun c3 => ?_) (fun c3 => ?_)
  · refine zwW_p [(1, 0, 2)] (q := 26) (ls' := [(2, r)]) (st' := [(2, r), (2, r)]) (by decide +kernel) rfl ?_
    refine zwX_gi C (kd := 11) (bn := 9) (n := 17) (nx := 29) (by decide +kernel) G_r.2.1 G_r.1 rfl ?_
    intro v4 ev4 lv4 uv4
    refine zwW_p [(0, 1, 0)] (q := 30) (ls' := [(2, r)]) (st' := [(0, 1), (0, v4), (2, r)]) (by decide +kernel) rfl ?_
    refine zwW_adw (nx := 31) (by decide +kernel) ?_
    intro v5 ev5 lv5 uv5
    have Ev5 : v5 = w32 ((fld h r 9) + 1) := by rw [ev5, ev4]
    refine zwW_p [(0, 99, 0)] (q := 33) (ls' := [(2, r)]) (st' := [(0, 99), (0, v5), (2, r)]) (by decide +kernel) rfl ?_
    refine zwW_min (nx := 36) (by decide +kernel) rfl ?_
    intro v6 ev6
    refine zwX_pi C (kd := 11) (bn := 9) (n := 17) (nx := 39) (by decide +kernel) G_r.2.1 G_r.1 (by first | omega | exact ⟨by omega, by omega⟩) ?_
    rintro h7 eh7 Ch7 Qh7
    have Xh7 : zXR msx234 (0) (0) h h7 := X.tr (c2 := 0) (s2 := 0) Qh7 (by decide +kernel) (by decide) (by decide)
    have Gh7_0 : gV h7 r := G_r.x Qh7
    refine zwW_p [(1, 0, 2), (1, 0, 2)] (q := 41) (ls' := [(2, r)]) (st' := [(2, r), (2, r)]) (by decide +kernel) rfl ?_
    refine zwX_gi Ch7 (kd := 11) (bn := 14) (n := 17) (nx := 44) (by decide +kernel) Gh7_0.2.1 Gh7_0.1 rfl ?_
    intro v8 ev8 lv8 uv8
    refine zwX_pi Ch7 (kd := 11) (bn := 15) (n := 17) (nx := 47) (by decide +kernel) Gh7_0.2.1 Gh7_0.1 (by first | omega | exact ⟨by omega, by omega⟩) ?_
    rintro h9 eh9 Ch9 Qh9
    have Xh9 : zXR msx234 (0) (0) h h9 := Xh7.tr (c2 := 0) (s2 := 0) Qh9 (by decide +kernel) (by decide) (by decide)
    have Gh9_0 : gV h9 r := Gh7_0.x Qh9
    refine zwW_p [(1, 0, 2), (0, 0, 0)] (q := 49) (ls' := [(2, r)]) (st' := [(0, 0), (2, r)]) (by decide +kernel) rfl ?_
    refine zwX_pi Ch9 (kd := 11) (bn := 14) (n := 17) (nx := 52) (by decide +kernel) Gh9_0.2.1 Gh9_0.1 (by first | decide | exact ⟨by decide, by decide⟩) ?_
    rintro h10 eh10 Ch10 Qh10
    have Xh10 : zXR msx234 (0) (0) h h10 := Xh9.tr (c2 := 0) (s2 := 0) Qh10 (by decide +kernel) (by decide) (by decide)
    have Gh10_0 : gV h10 r := Gh9_0.x Qh10
    refine zwW_retv (nx := 53) (a := 0) (b := 0) (by decide +kernel) ?_
    exact ⟨Ch10, Xh10.le (by decide) (by decide)⟩
  · refine zwW_p [(1, 0, 2)] (q := 13) (ls' := [(2, r)]) (st' := [(2, r), (2, r)]) (by decide +kernel) rfl ?_
    refine zwX_gi C (kd := 11) (bn := 9) (n := 17) (nx := 16) (by decide +kernel) G_r.2.1 G_r.1 rfl ?_
    intro v11 ev11 lv11 uv11
    refine zwW_p [(0, 1, 0)] (q := 17) (ls' := [(2, r)]) (st' := [(0, 1), (0, v11), (2, r)]) (by decide +kernel) rfl ?_
    refine zwW_sbw (nx := 18) (by decide +kernel) ?_
    intro v12 ev12 lv12 uv12
    have Ev12 : v12 = w32 ((fld h r 9) - 1) := by rw [ev12, ev11]
    refine zwW_p [(0, 1, 0)] (q := 19) (ls' := [(2, r)]) (st' := [(0, 1), (0, v12), (2, r)]) (by decide +kernel) rfl ?_
    refine zwW_max (nx := 22) (by decide +kernel) rfl ?_
    intro v13 ev13
    refine zwW_p [(24, 36, 0)] (q := 36) (ls' := [(2, r)]) (st' := [(0, v13), (2, r)]) (by decide +kernel) rfl ?_
    refine zwX_pi C (kd := 11) (bn := 9) (n := 17) (nx := 39) (by decide +kernel) G_r.2.1 G_r.1 (by first | omega | exact ⟨by omega, by omega⟩) ?_
    rintro h14 eh14 Ch14 Qh14
    have Xh14 : zXR msx234 (0) (0) h h14 := X.tr (c2 := 0) (s2 := 0) Qh14 (by decide +kernel) (by decide) (by decide)
    have Gh14_0 : gV h14 r := G_r.x Qh14
    refine zwW_p [(1, 0, 2), (1, 0, 2)] (q := 41) (ls' := [(2, r)]) (st' := [(2, r), (2, r)]) (by decide +kernel) rfl ?_
    refine zwX_gi Ch14 (kd := 11) (bn := 14) (n := 17) (nx := 44) (by decide +kernel) Gh14_0.2.1 Gh14_0.1 rfl ?_
    intro v15 ev15 lv15 uv15
    refine zwX_pi Ch14 (kd := 11) (bn := 15) (n := 17) (nx := 47) (by decide +kernel) Gh14_0.2.1 Gh14_0.1 (by first | omega | exact ⟨by omega, by omega⟩) ?_
    rintro h16 eh16 Ch16 Qh16
    have Xh16 : zXR msx234 (0) (0) h h16 := Xh14.tr (c2 := 0) (s2 := 0) Qh16 (by decide +kernel) (by decide) (by decide)
    have Gh16_0 : gV h16 r := Gh14_0.x Qh16
    refine zwW_p [(1, 0, 2), (0, 0, 0)] (q := 49) (ls' := [(2, r)]) (st' := [(0, 0), (2, r)]) (by decide +kernel) rfl ?_
    refine zwX_pi Ch16 (kd := 11) (bn := 14) (n := 17) (nx := 52) (by decide +kernel) Gh16_0.2.1 Gh16_0.1 (by first | decide | exact ⟨by decide, by decide⟩) ?_
    rintro h17 eh17 Ch17 Qh17
    have Xh17 : zXR msx234 (0) (0) h h17 := Xh16.tr (c2 := 0) (s2 := 0) Qh17 (by decide +kernel) (by decide) (by decide)
    have Gh17_0 : gV h17 r := Gh16_0.x Qh17
    refine zwW_retv (nx := 53) (a := 0) (b := 0) (by decide +kernel) ?_
    exact ⟨Ch17, Xh17.le (by decide) (by decide)⟩
def msx235 : Zms := [(1020, 1020, 0, 100000)]
-- WheelLand$Village.noteMillPrice(I)V
theorem x235 {sc : List Int} (h : Hp) (C : CI h) (r a : Int) (G_r : gV h r) (q_a : -2147483648 ≤ a ∧ a ≤ 2147483647) : zwC sc 1 235 [(2, r), (0, a)] h (zwRv (fun g => CI g ∧ zXR msx235 (0) (0) h g)) := by
  refine zwC_of (D := 0) 2 (by decide +kernel) rfl (ls := [(2, r), (0, a)]) rfl ?_
  have lw_r := G_r.1
  have X : zXR msx235 0 0 h h := zXR.rf _ _
  refine zwW_p [(1, 1, 0)] (q := 1) (ls' := [(2, r), (0, a)]) (st' := [(0, a)]) (by decide +kernel) rfl ?_
  refine zwif_lt (q := 23) (nx := 4) (by decide +kernel) (fun c1 => ?_) (fun c1 => ?_)
  · refine zwW_retv (nx := 24) (a := 0) (b := 0) (by decide +kernel) ?_
    exact ⟨C, X.le (by decide) (by decide)⟩
  · refine zwW_p [(1, 1, 0), (1, 0, 2)] (q := 6) (ls' := [(2, r), (0, a)]) (st' := [(2, r), (0, a)]) (by decide +kernel) rfl ?_
    refine zwW_get (kd := 11) (bn := 16) (t := 2) (n := 17) (nx := 9) (by decide +kernel) G_r.2.1 rfl ?_
    obtain ⟨v2, ev2⟩ : ∃ z, z = fld h r 16 := ⟨_, rfl⟩
    rw [← ev2]
    have Gv2 : gA 157 h v2 := by rw [ev2]; exact G_r.2.2
    have lv2 := Gv2.1
    refine zwW_len (n := 157) (nx := 10) (by decide +kernel) Gv2.2 rfl ?_
    refine zwic_ge (q := 23) (nx := 13) (by decide +kernel) (fun c3 => ?_) (fun c3 => ?_)
    · refine zwW_retv (nx := 24) (a := 0) (b := 0) (by decide +kernel) ?_
      exact ⟨C, X.le (by decide) (by decide)⟩
    · refine zwW_p [(1, 0, 2)] (q := 14) (ls' := [(2, r), (0, a)]) (st' := [(2, r)]) (by decide +kernel) rfl ?_
      refine zwW_get (kd := 11) (bn := 16) (t := 2) (n := 17) (nx := 17) (by decide +kernel) G_r.2.1 rfl ?_
      rw [← ev2]
      refine zwW_p [(1, 1, 0), (1, 0, 2)] (q := 19) (ls' := [(2, r), (0, a)]) (st' := [(2, r), (0, a), (2, v2)]) (by decide +kernel) rfl ?_
      refine zwX_gi C (kd := 11) (bn := 9) (n := 17) (nx := 22) (by decide +kernel) G_r.2.1 G_r.1 rfl ?_
      intro v5 ev5 lv5 uv5
      refine zwX_si C (n := 157) (nx := 23) (by decide +kernel) Gv2.2 Gv2.1 (by first | omega | exact ⟨by omega, by omega⟩) (by first | omega | exact ⟨by omega, by omega⟩) (by omega) ?_
      rintro h6 eh6 Ch6 Qh6
      have Xh6 : zXR msx235 (0) (0) h h6 := X.tr (c2 := 0) (s2 := 0) Qh6 (by decide +kernel) (by decide) (by decide)
      have Gh6_0 : gV h6 r := G_r.x Qh6
      refine zwW_retv (nx := 24) (a := 0) (b := 0) (by decide +kernel) ?_
      exact ⟨Ch6, Xh6.le (by decide) (by decide)⟩
def msx258 : Zms := [(1011, 1011, 5, 6), (1011, 1011, 6, 7), (1011, 1011, 10, 11), (1011, 1011, 13, 14)]
-- WheelLand$Village.sellHand()V
theorem x258 {sc : List Int} (h : Hp) (C : CI h) (r : Int) (G_r : gV h r) : zwC sc 1 258 [(2, r)] h (zwRv (fun g => CI g ∧ zXR msx258 (0) (0) h g)) := by
  refine zwC_of (D := 0) 1 (by decide +kernel) rfl (ls := [(2, r)]) rfl ?_
  have lw_r := G_r.1
  have X : zXR msx258 0 0 h h := zXR.rf _ _
  refine zwW_p [(1, 0, 2)] (q := 1) (ls' := [(2, r)]) (st' := [(2, r)]) (by decide +kernel) rfl ?_
  refine zwX_gi C (kd := 11) (bn := 5) (n := 17) (nx := 4) (by decide +kernel) G_r.2.1 G_r.1 rfl ?_
  intro v1 ev1 lv1 uv1
  refine zwif_le (q := 30) (nx := 7) (by decide +kernel) (fun c2 => ?_) (fun c2 => ?_)
  · refine zwW_p [(1, 0, 2), (12, 0, 0)] (q := 32) (ls' := [(2, r)]) (st' := [(2, r), (2, r)]) (by decide +kernel) rfl ?_
    refine zwX_gi C (kd := 11) (bn := 6) (n := 17) (nx := 35) (by decide +kernel) G_r.2.1 G_r.1 rfl ?_
    intro v3 ev3 lv3 uv3
    refine zwW_p [(0, 1, 0)] (q := 36) (ls' := [(2, r)]) (st' := [(0, 1), (0, v3), (2, r)]) (by decide +kernel) rfl ?_
    refine zwW_sbw (nx := 37) (by decide +kernel) ?_
    intro v4 ev4 lv4 uv4
    have Ev4 : v4 = w32 ((fld h r 6) - 1) := by rw [ev4, ev3]
    refine zwX_pi C (kd := 11) (bn := 6) (n := 17) (nx := 40) (by decide +kernel) G_r.2.1 G_r.1 (by first | omega | exact ⟨by omega, by omega⟩) ?_
    rintro h5 eh5 Ch5 Qh5
    have Xh5 : zXR msx258 (0) (0) h h5 := X.tr (c2 := 0) (s2 := 0) Qh5 (by decide +kernel) (by decide) (by decide)
    have Gh5_0 : gV h5 r := G_r.x Qh5
    refine zwW_p [(1, 0, 2), (12, 0, 0)] (q := 42) (ls' := [(2, r)]) (st' := [(2, r), (2, r)]) (by decide +kernel) rfl ?_
    refine zwX_gi Ch5 (kd := 11) (bn := 10) (n := 17) (nx := 45) (by decide +kernel) Gh5_0.2.1 Gh5_0.1 rfl ?_
    intro v6 ev6 lv6 uv6
    refine zwW_p [(1, 0, 2)] (q := 46) (ls' := [(2, r)]) (st' := [(2, r), (0, v6), (2, r)]) (by decide +kernel) rfl ?_
    refine zwX_gi Ch5 (kd := 11) (bn := 8) (n := 17) (nx := 49) (by decide +kernel) Gh5_0.2.1 Gh5_0.1 rfl ?_
    intro v7 ev7 lv7 uv7
    refine zwW_adw (nx := 50) (by decide +kernel) ?_
    intro v8 ev8 lv8 uv8
    have Ev8 : v8 = w32 ((fld h5 r 10) + (fld h5 r 8)) := by rw [ev8, ev6, ev7]
    refine zwX_pi Ch5 (kd := 11) (bn := 10) (n := 17) (nx := 53) (by decide +kernel) Gh5_0.2.1 Gh5_0.1 (by first | omega | exact ⟨by omega, by omega⟩) ?_
    rintro h9 eh9 Ch9 Qh9
    have Xh9 : zXR msx258 (0) (0) h h9 := Xh5.tr (c2 := 0) (s2 := 0) Qh9 (by decide +kernel) (by decide) (by decide)
    have Gh9_0 : gV h9 r := Gh5_0.x Qh9
    refine zwW_retv (nx := 54) (a := 0) (b := 0) (by decide +kernel) ?_
    exact ⟨Ch9, Xh9.le (by decide) (by decide)⟩
  · refine zwW_p [(1, 0, 2), (12, 0, 0)] (q := 9) (ls' := [(2, r)]) (st' := [(2, r), (2, r)]) (by decide +kernel) rfl ?_
    refine zwX_gi C (kd := 11) (bn := 5) (n := 17) (nx := 12) (by decide +kernel) G_r.2.1 G_r.1 rfl ?_
    intro v10 ev10 lv10 uv10
    refine zwW_p [(0, 1, 0)] (q := 13) (ls' := [(2, r)]) (st' := [(0, 1), (0, v10), (2, r)]) (by decide +kernel) rfl ?_
    refine zwW_sbw (nx := 14) (by decide +kernel) ?_
    intro v11 ev11 lv11 uv11
    have Ev11 : v11 = w32 ((fld h r 5) - 1) := by rw [ev11, ev10]
    refine zwX_pi C (kd := 11) (bn := 5) (n := 17) (nx := 17) (by decide +kernel) G_r.2.1 G_r.1 (by first | omega | exact ⟨by omega, by omega⟩) ?_
    rintro h12 eh12 Ch12 Qh12
    have Xh12 : zXR msx258 (0) (0) h h12 := X.tr (c2 := 0) (s2 := 0) Qh12 (by decide +kernel) (by decide) (by decide)
    have Gh12_0 : gV h12 r := G_r.x Qh12
    refine zwW_p [(1, 0, 2), (12, 0, 0)] (q := 19) (ls' := [(2, r)]) (st' := [(2, r), (2, r)]) (by decide +kernel) rfl ?_
    refine zwX_gi Ch12 (kd := 11) (bn := 13) (n := 17) (nx := 22) (by decide +kernel) Gh12_0.2.1 Gh12_0.1 rfl ?_
    intro v13 ev13 lv13 uv13
    refine zwW_p [(0, 1, 0)] (q := 23) (ls' := [(2, r)]) (st' := [(0, 1), (0, v13), (2, r)]) (by decide +kernel) rfl ?_
    refine zwW_adw (nx := 24) (by decide +kernel) ?_
    intro v14 ev14 lv14 uv14
    have Ev14 : v14 = w32 ((fld h12 r 13) + 1) := by rw [ev14, ev13]
    refine zwX_pi Ch12 (kd := 11) (bn := 13) (n := 17) (nx := 27) (by decide +kernel) Gh12_0.2.1 Gh12_0.1 (by first | omega | exact ⟨by omega, by omega⟩) ?_
    rintro h15 eh15 Ch15 Qh15
    have Xh15 : zXR msx258 (0) (0) h h15 := Xh12.tr (c2 := 0) (s2 := 0) Qh15 (by decide +kernel) (by decide) (by decide)
    have Gh15_0 : gV h15 r := Gh12_0.x Qh15
    refine zwW_p [(24, 40, 0), (1, 0, 2), (12, 0, 0)] (q := 42) (ls' := [(2, r)]) (st' := [(2, r), (2, r)]) (by decide +kernel) rfl ?_
    refine zwX_gi Ch15 (kd := 11) (bn := 10) (n := 17) (nx := 45) (by decide +kernel) Gh15_0.2.1 Gh15_0.1 rfl ?_
    intro v16 ev16 lv16 uv16
    refine zwW_p [(1, 0, 2)] (q := 46) (ls' := [(2, r)]) (st' := [(2, r), (0, v16), (2, r)]) (by decide +kernel) rfl ?_
    refine zwX_gi Ch15 (kd := 11) (bn := 8) (n := 17) (nx := 49) (by decide +kernel) Gh15_0.2.1 Gh15_0.1 rfl ?_
    intro v17 ev17 lv17 uv17
    refine zwW_adw (nx := 50) (by decide +kernel) ?_
    intro v18 ev18 lv18 uv18
    have Ev18 : v18 = w32 ((fld h15 r 10) + (fld h15 r 8)) := by rw [ev18, ev16, ev17]
    refine zwX_pi Ch15 (kd := 11) (bn := 10) (n := 17) (nx := 53) (by decide +kernel) Gh15_0.2.1 Gh15_0.1 (by first | omega | exact ⟨by omega, by omega⟩) ?_
    rintro h19 eh19 Ch19 Qh19
    have Xh19 : zXR msx258 (0) (0) h h19 := Xh15.tr (c2 := 0) (s2 := 0) Qh19 (by decide +kernel) (by decide) (by decide)
    have Gh19_0 : gV h19 r := Gh15_0.x Qh19
    refine zwW_retv (nx := 54) (a := 0) (b := 0) (by decide +kernel) ?_
    exact ⟨Ch19, Xh19.le (by decide) (by decide)⟩
def msx259 : Zms := [(1011, 1011, 7, 8), (1011, 1011, 10, 11), (1011, 1011, 14, 15)]
-- WheelLand$Village.sellMill()V
theorem x259 {sc : List Int} (h : Hp) (C : CI h) (r : Int) (G_r : gV h r) : zwC sc 1 259 [(2, r)] h (zwRv (fun g => CI g ∧ zXR msx259 (0) (0) h g)) := by
  refine zwC_of (D := 0) 1 (by decide +kernel) rfl (ls := [(2, r)]) rfl ?_
  have lw_r := G_r.1
  have X : zXR msx259 0 0 h h := zXR.rf _ _
  refine zwW_p [(1, 0, 2), (12, 0, 0)] (q := 2) (ls' := [(2, r)]) (st' := [(2, r), (2, r)]) (by decide +kernel) rfl ?_
  refine zwX_gi C (kd := 11) (bn := 7) (n := 17) (nx := 5) (by decide +kernel) G_r.2.1 G_r.1 rfl ?_
  intro v1 ev1 lv1 uv1
  refine zwW_p [(0, 1, 0)] (q := 6) (ls' := [(2, r)]) (st' := [(0, 1), (0, v1), (2, r)]) (by decide +kernel) rfl ?_
  refine zwW_sbw (nx := 7) (by decide +kernel) ?_
  intro v2 ev2 lv2 uv2
  have Ev2 : v2 = w32 ((fld h r 7) - 1) := by rw [ev2, ev1]
  refine zwX_pi C (kd := 11) (bn := 7) (n := 17) (nx := 10) (by decide +kernel) G_r.2.1 G_r.1 (by first | omega | exact ⟨by omega, by omega⟩) ?_
  rintro h3 eh3 Ch3 Qh3
  have Xh3 : zXR msx259 (0) (0) h h3 := X.tr (c2 := 0) (s2 := 0) Qh3 (by decide +kernel) (by decide) (by decide)
  have Gh3_0 : gV h3 r := G_r.x Qh3
  refine zwW_p [(1, 0, 2), (12, 0, 0)] (q := 12) (ls' := [(2, r)]) (st' := [(2, r), (2, r)]) (by decide +kernel) rfl ?_
  refine zwX_gi Ch3 (kd := 11) (bn := 14) (n := 17) (nx := 15) (by decide +kernel) Gh3_0.2.1 Gh3_0.1 rfl ?_
  intro v4 ev4 lv4 uv4
  refine zwW_p [(0, 1, 0)] (q := 16) (ls' := [(2, r)]) (st' := [(0, 1), (0, v4), (2, r)]) (by decide +kernel) rfl ?_
  refine zwW_adw (nx := 17) (by decide +kernel) ?_
  intro v5 ev5 lv5 uv5
  have Ev5 : v5 = w32 ((fld h3 r 14) + 1) := by rw [ev5, ev4]
  refine zwX_pi Ch3 (kd := 11) (bn := 14) (n := 17) (nx := 20) (by decide +kernel) Gh3_0.2.1 Gh3_0.1 (by first | omega | exact ⟨by omega, by omega⟩) ?_
  rintro h6 eh6 Ch6 Qh6
  have Xh6 : zXR msx259 (0) (0) h h6 := Xh3.tr (c2 := 0) (s2 := 0) Qh6 (by decide +kernel) (by decide) (by decide)
  have Gh6_0 : gV h6 r := Gh3_0.x Qh6
  refine zwW_p [(1, 0, 2), (12, 0, 0)] (q := 22) (ls' := [(2, r)]) (st' := [(2, r), (2, r)]) (by decide +kernel) rfl ?_
  refine zwX_gi Ch6 (kd := 11) (bn := 10) (n := 17) (nx := 25) (by decide +kernel) Gh6_0.2.1 Gh6_0.1 rfl ?_
  intro v7 ev7 lv7 uv7
  refine zwW_p [(1, 0, 2)] (q := 26) (ls' := [(2, r)]) (st' := [(2, r), (0, v7), (2, r)]) (by decide +kernel) rfl ?_
  refine zwX_gi Ch6 (kd := 11) (bn := 9) (n := 17) (nx := 29) (by decide +kernel) Gh6_0.2.1 Gh6_0.1 rfl ?_
  intro v8 ev8 lv8 uv8
  refine zwW_adw (nx := 30) (by decide +kernel) ?_
  intro v9 ev9 lv9 uv9
  have Ev9 : v9 = w32 ((fld h6 r 10) + (fld h6 r 9)) := by rw [ev9, ev7, ev8]
  refine zwX_pi Ch6 (kd := 11) (bn := 10) (n := 17) (nx := 33) (by decide +kernel) Gh6_0.2.1 Gh6_0.1 (by first | omega | exact ⟨by omega, by omega⟩) ?_
  rintro h10 eh10 Ch10 Qh10
  have Xh10 : zXR msx259 (0) (0) h h10 := Xh6.tr (c2 := 0) (s2 := 0) Qh10 (by decide +kernel) (by decide) (by decide)
  have Gh10_0 : gV h10 r := Gh6_0.x Qh10
  refine zwW_retv (nx := 34) (a := 0) (b := 0) (by decide +kernel) ?_
  exact ⟨Ch10, Xh10.le (by decide) (by decide)⟩
-- WheelLand$House.hasLoom()Z
theorem x110 {sc : List Int} (h : Hp) (C : CI h) (r : Int) (G_r : gH h r) : zwC sc 1 110 [(2, r)] h (zwRt 0 (fun x g => h = g ∧ ((x = 1 ∧ (0 < fld h r 13)) ∨ (x = 0 ∧ (fld h r 13 ≤ 0))))) := by
  refine zwC_of (D := 0) 1 (by decide +kernel) rfl (ls := [(2, r)]) rfl ?_
  have lw_r := G_r.1
  refine zwW_p [(1, 0, 2)] (q := 1) (ls' := [(2, r)]) (st' := [(2, r)]) (by decide +kernel) rfl ?_
  refine zwX_gi C (kd := 4) (bn := 13) (n := 19) (nx := 4) (by decide +kernel) G_r.2.1 G_r.1 rfl ?_
  intro v1 ev1 lv1 uv1
  refine zwif_le (q := 11) (nx := 7) (by decide +kernel) (fun c2 => ?_) (fun c2 => ?_)
  · refine zwW_p [(0, 0, 0)] (q := 12) (ls' := [(2, r)]) (st' := [(0, 0)]) (by decide +kernel) rfl ?_
    refine zwW_ret (nx := 13) (a := 1) (b := 0) (by decide +kernel) rfl (Or.inr (Or.inl ⟨rfl, Or.inl rfl⟩)) ?_
    exact ⟨rfl, Or.inr ⟨rfl, by omega⟩⟩
  · refine zwW_p [(0, 1, 0), (24, 12, 0)] (q := 12) (ls' := [(2, r)]) (st' := [(0, 1)]) (by decide +kernel) rfl ?_
    refine zwW_ret (nx := 13) (a := 1) (b := 0) (by decide +kernel) rfl (Or.inr (Or.inl ⟨rfl, Or.inr rfl⟩)) ?_
    exact ⟨rfl, Or.inl ⟨rfl, by omega⟩⟩
-- WheelLand$House.couldSpin(I)I
theorem x230 {sc : List Int} (h : Hp) (C : CI h) (r a : Int) (G_r : gH h r) (q_a : -2147483648 ≤ a ∧ a ≤ 2147483647) : zwC sc 2 230 [(2, r), (0, a)] h (zwRt 0 (fun x g => h = g ∧ (-2147483648 ≤ x ∧ x ≤ 2147483647))) := by
  refine zwC_of (D := 1) 2 (by decide +kernel) rfl (ls := [(2, r), (0, a)]) rfl ?_
  have lw_r := G_r.1
  refine zwW_p [(1, 0, 2)] (q := 1) (ls' := [(2, r), (0, a)]) (st' := [(2, r)]) (by decide +kernel) rfl ?_
  refine zwX_gi C (kd := 4) (bn := 2) (n := 19) (nx := 4) (by decide +kernel) G_r.2.1 G_r.1 rfl ?_
  intro v1 ev1 lv1 uv1
  refine zwW_p [(1, 0, 2)] (q := 5) (ls' := [(2, r), (0, a)]) (st' := [(2, r), (0, v1)]) (by decide +kernel) rfl ?_
  refine zwW_get (kd := 4) (bn := 1) (t := 2) (n := 19) (nx := 8) (by decide +kernel) G_r.2.1 rfl ?_
  obtain ⟨v2, ev2⟩ : ∃ z, z = fld h r 1 := ⟨_, rfl⟩
  rw [← ev2]
  have Gv2 : gV h v2 := by rw [ev2]; exact G_r.2.2
  have lv2 := Gv2.1
  refine zwW_p [(1, 1, 0)] (q := 9) (ls' := [(2, r), (0, a)]) (st' := [(0, a), (2, v2), (0, v1)]) (by decide +kernel) rfl ?_
  refine zwW_cv (op := 60) (k' := 222) (n := 1) (kd := 11) (m := 17) (nx := 12) (r := v2) (tl := [(0, a)]) (st' := [(0, v1)]) (by decide +kernel) rfl (by decide +kernel) Gv2.2.1 (x222 h C v2 a Gv2 (by omega)) rfl ?_
  rintro v3 _ ⟨rfl, f4⟩
  refine zwW_mlw (nx := 13) (by decide +kernel) ?_
  intro v5 ev5 lv5 uv5
  have Ev5 : v5 = w32 ((fld h r 2) * v3) := by rw [ev5, ev1]
  refine zwW_p [(0, 10, 0), (1, 0, 2)] (q := 16) (ls' := [(2, r), (0, a)]) (st' := [(2, r), (0, 10), (0, v5)]) (by decide +kernel) rfl ?_
  refine zwX_gi C (kd := 4) (bn := 3) (n := 19) (nx := 19) (by decide +kernel) G_r.2.1 G_r.1 rfl ?_
  intro v6 ev6 lv6 uv6
  refine zwW_adw (nx := 20) (by decide +kernel) ?_
  intro v7 ev7 lv7 uv7
  have Ev7 : v7 = w32 (10 + (fld h r 3)) := by rw [ev7, ev6]
  refine zwW_mlw (nx := 21) (by decide +kernel) ?_
  intro v8 ev8 lv8 uv8
  have Ev8 : v8 = w32 ((w32 ((fld h r 2) * v3)) * (w32 (10 + (fld h r 3)))) := by rw [ev8, Ev5, Ev7]
  refine zwW_p [(0, 24, 0)] (q := 23) (ls' := [(2, r), (0, a)]) (st' := [(0, 24), (0, v8)]) (by decide +kernel) rfl ?_
  refine zwW_tdw (nx := 24) (by decide +kernel) (by omega) ?_
  intro v9 ev9 lv9 uv9
  refine zwW_ret (nx := 25) (a := 0) (b := 0) (by decide +kernel) rfl (Or.inl rfl) ?_
  exact ⟨rfl, by omega⟩
-- WheelLand$House.strength()I
theorem x169 {sc : List Int} (h : Hp) (C : CI h) (r : Int) (G_r : gH h r) : zwC sc 1 169 [(2, r)] h (zwRt 0 (fun x g => h = g ∧ (-2147483648 ≤ x ∧ x ≤ 2147483647))) := by
  refine zwC_of (D := 0) 1 (by decide +kernel) rfl (ls := [(2, r)]) rfl ?_
  have lw_r := G_r.1
  refine zwW_p [(0, 20, 0), (1, 0, 2)] (q := 3) (ls' := [(2, r)]) (st' := [(2, r), (0, 20)]) (by decide +kernel) rfl ?_
  refine zwW_get (kd := 4) (bn := 1) (t := 2) (n := 19) (nx := 6) (by decide +kernel) G_r.2.1 rfl ?_
  obtain ⟨v1, ev1⟩ : ∃ z, z = fld h r 1 := ⟨_, rfl⟩
  rw [← ev1]
  have Gv1 : gV h v1 := by rw [ev1]; exact G_r.2.2
  have lv1 := Gv1.1
  refine zwX_gi C (kd := 11) (bn := 2) (n := 17) (nx := 9) (by decide +kernel) Gv1.2.1 Gv1.1 rfl ?_
  intro v2 ev2 lv2 uv2
  refine zwW_mlw (nx := 10) (by decide +kernel) ?_
  intro v3 ev3 lv3 uv3
  have Ev3 : v3 = w32 (20 * (fld h v1 2)) := by rw [ev3, ev2]
  refine zwW_p [(0, 3, 0), (1, 0, 2)] (q := 12) (ls' := [(2, r)]) (st' := [(2, r), (0, 3), (0, v3)]) (by decide +kernel) rfl ?_
  refine zwX_gi C (kd := 4) (bn := 3) (n := 19) (nx := 15) (by decide +kernel) G_r.2.1 G_r.1 rfl ?_
  intro v4 ev4 lv4 uv4
  refine zwW_mlw (nx := 16) (by decide +kernel) ?_
  intro v5 ev5 lv5 uv5
  have Ev5 : v5 = w32 (3 * (fld h r 3)) := by rw [ev5, ev4]
  refine zwW_adw (nx := 17) (by decide +kernel) ?_
  intro v6 ev6 lv6 uv6
  have Ev6 : v6 = w32 ((w32 (20 * (fld h v1 2))) + (w32 (3 * (fld h r 3)))) := by rw [ev6, Ev3, Ev5]
  refine zwW_p [(0, 2, 0), (1, 0, 2)] (q := 19) (ls' := [(2, r)]) (st' := [(2, r), (0, 2), (0, v6)]) (by decide +kernel) rfl ?_
  refine zwX_gi C (kd := 4) (bn := 7) (n := 19) (nx := 22) (by decide +kernel) G_r.2.1 G_r.1 rfl ?_
  intro v7 ev7 lv7 uv7
  refine zwW_mlw (nx := 23) (by decide +kernel) ?_
  intro v8 ev8 lv8 uv8
  have Ev8 : v8 = w32 (2 * (fld h r 7)) := by rw [ev8, ev7]
  refine zwW_sbw (nx := 24) (by decide +kernel) ?_
  intro v9 ev9 lv9 uv9
  have Ev9 : v9 = w32 ((w32 ((w32 (20 * (fld h v1 2))) + (w32 (3 * (fld h r 3))))) - (w32 (2 * (fld h r 7)))) := by rw [ev9, Ev6, Ev8]
  refine zwW_p [(0, 0, 0)] (q := 25) (ls' := [(2, r)]) (st' := [(0, 0), (0, v9)]) (by decide +kernel) rfl ?_
  refine zwW_max (nx := 28) (by decide +kernel) rfl ?_
  intro v10 ev10
  refine zwW_ret (nx := 29) (a := 0) (b := 0) (by decide +kernel) rfl (Or.inl rfl) ?_
  exact ⟨rfl, by omega⟩
-- WheelLand$Roads.known(I)Z
theorem x182 {sc : List Int} (h : Hp) (C : CI h) (a : Int) (q_a : -2147483648 ≤ a ∧ a ≤ 2147483647) : zwC sc 1 182 [(0, a)] h (zwRt 0 (fun x g => h = g ∧ ((x = 1 ∧ (0 ≤ a ∧ a < 8)) ∨ (x = 0 ∧ (a < 0 ∨ 8 ≤ a))))) := by
  refine zwC_of (D := 0) 1 (by decide +kernel) rfl (ls := [(0, a)]) rfl ?_
  refine zwW_p [(1, 0, 0)] (q := 1) (ls' := [(0, a)]) (st' := [(0, a)]) (by decide +kernel) rfl ?_
  refine zwif_lt (q := 14) (nx := 4) (by decide +kernel) (fun c1 => ?_) (fun c1 => ?_)
  · refine zwW_p [(0, 0, 0)] (q := 15) (ls' := [(0, a)]) (st' := [(0, 0)]) (by decide +kernel) rfl ?_
    refine zwW_ret (nx := 16) (a := 1) (b := 0) (by decide +kernel) rfl (Or.inr (Or.inl ⟨rfl, Or.inl rfl⟩)) ?_
    exact ⟨rfl, Or.inr ⟨rfl, by omega⟩⟩
  · refine zwW_p [(1, 0, 0), (0, 8, 0)] (q := 7) (ls' := [(0, a)]) (st' := [(0, 8), (0, a)]) (by decide +kernel) rfl ?_
    refine zwic_ge (q := 14) (nx := 10) (by decide +kernel) (fun c2 => ?_) (fun c2 => ?_)
    · refine zwW_p [(0, 0, 0)] (q := 15) (ls' := [(0, a)]) (st' := [(0, 0)]) (by decide +kernel) rfl ?_
      refine zwW_ret (nx := 16) (a := 1) (b := 0) (by decide +kernel) rfl (Or.inr (Or.inl ⟨rfl, Or.inl rfl⟩)) ?_
      exact ⟨rfl, Or.inr ⟨rfl, by omega⟩⟩
    · refine zwW_p [(0, 1, 0), (24, 15, 0)] (q := 15) (ls' := [(0, a)]) (st' := [(0, 1)]) (by decide +kernel) rfl ?_
      refine zwW_ret (nx := 16) (a := 1) (b := 0) (by decide +kernel) rfl (Or.inr (Or.inl ⟨rfl, Or.inr rfl⟩)) ?_
      exact ⟨rfl, Or.inl ⟨rfl, by omega⟩⟩
-- WheelLand$Roads.days(II)I
theorem x184 {sc : List Int} (h : Hp) (C : CI h) (a b : Int) (q_a : -2147483648 ≤ a ∧ a ≤ 2147483647) (q_b : -2147483648 ≤ b ∧ b ≤ 2147483647) : zwC sc 2 184 [(2, 6), (0, a), (0, b)] h (zwRt 0 (fun x g => h = g ∧ (-2147483648 ≤ x ∧ x ≤ 2147483647) ∧ (0 ≤ a ∧ a < 8 ∧ 0 ≤ b ∧ b < 8 → x = zDa h a.toNat b.toNat))) := by
  refine zwC_of (D := 1) 4 (by decide +kernel) rfl (ls := [(2, 6), (0, a), (0, b), (9, 0)]) rfl ?_
  refine zwW_p [(1, 1, 0)] (q := 1) (ls' := [(2, 6), (0, a), (0, b), (9, 0)]) (st' := [(0, a)]) (by decide +kernel) rfl ?_
  refine zwW_cs (k' := 182) (n := 1) (nx := 4) (as := [(0, a)]) (st' := []) (by decide +kernel) rfl (x182 h C a (by omega)) rfl ?_
  rintro x _ ⟨rfl, ⟨rfl, c1⟩ | ⟨rfl, c1⟩⟩
  · refine zwif_eq (q := 14) (nx := 7) (by decide +kernel) (fun c2 => ?_) (fun c2 => ?_)
    · exfalso; omega
    · refine zwW_p [(1, 2, 0)] (q := 8) (ls' := [(2, 6), (0, a), (0, b), (9, 0)]) (st' := [(0, b)]) (by decide +kernel) rfl ?_
      refine zwW_cs (k' := 182) (n := 1) (nx := 11) (as := [(0, b)]) (st' := []) (by decide +kernel) rfl (x182 h C b (by omega)) rfl ?_
      rintro x _ ⟨rfl, ⟨rfl, c3⟩ | ⟨rfl, c3⟩⟩
      · refine zwif_ne (q := 16) (nx := 14) (by decide +kernel) (fun c4 => ?_) (fun c4 => ?_)
        · refine zwW_p [(1, 0, 2)] (q := 17) (ls' := [(2, 6), (0, a), (0, b), (9, 0)]) (st' := [(2, 6)]) (by decide +kernel) rfl ?_
          refine zwW_gc C.1 (kd := 8) (bn := 1) (n := 2) (c := 8) (nx := 20) (by decide +kernel) ?_
          refine zwW_p [(1, 1, 0), (0, 8, 0)] (q := 23) (ls' := [(2, 6), (0, a), (0, b), (9, 0)]) (st' := [(0, 8), (0, a), (2, 8)]) (by decide +kernel) rfl ?_
          refine zwW_mul (nx := 24) (by decide +kernel) (by first | omega | exact ⟨by omega, by omega⟩) ?_
          refine zwW_p [(1, 2, 0)] (q := 25) (ls' := [(2, 6), (0, a), (0, b), (9, 0)]) (st' := [(0, b), (0, (a * 8)), (2, 8)]) (by decide +kernel) rfl ?_
          refine zwW_add (nx := 26) (by decide +kernel) (by first | omega | exact ⟨by omega, by omega⟩) ?_
          refine zwW_al C.1 (a1 := 8) (a2 := 8) (kd := 20) (n := 64) (t := 0) (lo := -2147483648) (hi := 2147483647) (nx := 27) (by decide +kernel) (by first | decide | exact ⟨by decide, by decide⟩) (by first | omega | exact ⟨by omega, by omega⟩) ?_
          intro v5 ev5 lv5 uv5
          have N27 : 0 ≤ a → a < 8 → 0 ≤ b → b < 8 → v5 = zLe h a.toNat b.toNat := fun p1 p2 p3 p4 => by rw [ev5]; show fld h 8 _ = fld h 8 _; congr 1; omega
          refine zwW_p [(2, 3, 0), (1, 3, 0), (0, 1000000, 0)] (q := 31) (ls' := [(2, 6), (0, a), (0, b), (0, v5)]) (st' := [(0, 1000000), (0, v5)]) (by decide +kernel) rfl ?_
          refine zwic_ge (q := 38) (nx := 34) (by decide +kernel) (fun c6 => ?_) (fun c6 => ?_)
          · refine zwW_p [(0, -1, 0)] (q := 39) (ls' := [(2, 6), (0, a), (0, b), (0, v5)]) (st' := [(0, -1)]) (by decide +kernel) rfl ?_
            refine zwW_ret (nx := 40) (a := 0) (b := 0) (by decide +kernel) rfl (Or.inl rfl) ?_
            exact ⟨rfl, by omega, by first | omega | (intro hk; unfold zDa; rw [← N27 hk.1 hk.2.1 hk.2.2.1 hk.2.2.2]; split <;> omega)⟩
          · refine zwW_p [(1, 3, 0), (24, 39, 0)] (q := 39) (ls' := [(2, 6), (0, a), (0, b), (0, v5)]) (st' := [(0, v5)]) (by decide +kernel) rfl ?_
            refine zwW_ret (nx := 40) (a := 0) (b := 0) (by decide +kernel) rfl (Or.inl rfl) ?_
            exact ⟨rfl, by omega, by first | omega | (intro hk; unfold zDa; rw [← N27 hk.1 hk.2.1 hk.2.2.1 hk.2.2.2]; split <;> omega)⟩
        · exfalso; omega
      · refine zwif_ne (q := 16) (nx := 14) (by decide +kernel) (fun c7 => ?_) (fun c7 => ?_)
        · exfalso; omega
        · refine zwW_p [(0, -1, 0)] (q := 15) (ls' := [(2, 6), (0, a), (0, b), (9, 0)]) (st' := [(0, -1)]) (by decide +kernel) rfl ?_
          refine zwW_ret (nx := 16) (a := 0) (b := 0) (by decide +kernel) rfl (Or.inl rfl) ?_
          exact ⟨rfl, by omega, by first | omega | (intro hk; unfold zDa; rw [← N27 hk.1 hk.2.1 hk.2.2.1 hk.2.2.2]; split <;> omega)⟩
  · refine zwif_eq (q := 14) (nx := 7) (by decide +kernel) (fun c8 => ?_) (fun c8 => ?_)
    · refine zwW_p [(0, -1, 0)] (q := 15) (ls' := [(2, 6), (0, a), (0, b), (9, 0)]) (st' := [(0, -1)]) (by decide +kernel) rfl ?_
      refine zwW_ret (nx := 16) (a := 0) (b := 0) (by decide +kernel) rfl (Or.inl rfl) ?_
      exact ⟨rfl, by omega, by first | omega | (intro hk; unfold zDa; rw [← N27 hk.1 hk.2.1 hk.2.2.1 hk.2.2.2]; split <;> omega)⟩
    · exfalso; omega
-- WheelLand$Roads.joins(II)Z
theorem x233 {sc : List Int} (h : Hp) (C : CI h) (a b : Int) (q_a : -2147483648 ≤ a ∧ a ≤ 2147483647) (q_b : -2147483648 ≤ b ∧ b ≤ 2147483647) : zwC sc 2 233 [(2, 6), (0, a), (0, b)] h (zwRt 0 (fun x g => h = g ∧ ((x = 1 ∧ (0 ≤ 1)) ∨ (x = 0 ∧ (0 ≤ 1))))) := by
  refine zwC_of (D := 1) 3 (by decide +kernel) rfl (ls := [(2, 6), (0, a), (0, b)]) rfl ?_
  refine zwW_p [(1, 1, 0), (1, 2, 0)] (q := 2) (ls' := [(2, 6), (0, a), (0, b)]) (st' := [(0, b), (0, a)]) (by decide +kernel) rfl ?_
  refine zwic_eq (q := 39) (nx := 5) (by decide +kernel) (fun c1 => ?_) (fun c1 => ?_)
  · refine zwW_p [(0, 0, 0)] (q := 40) (ls' := [(2, 6), (0, a), (0, b)]) (st' := [(0, 0)]) (by decide +kernel) rfl ?_
    refine zwW_ret (nx := 41) (a := 1) (b := 0) (by decide +kernel) rfl (Or.inr (Or.inl ⟨rfl, Or.inl rfl⟩)) ?_
    exact ⟨rfl, Or.inr ⟨rfl, by omega⟩⟩
  · refine zwW_p [(1, 1, 0)] (q := 6) (ls' := [(2, 6), (0, a), (0, b)]) (st' := [(0, a)]) (by decide +kernel) rfl ?_
    refine zwW_cs (k' := 182) (n := 1) (nx := 9) (as := [(0, a)]) (st' := []) (by decide +kernel) rfl (x182 h C a (by omega)) rfl ?_
    rintro x _ ⟨rfl, ⟨rfl, c2⟩ | ⟨rfl, c2⟩⟩
    · refine zwif_eq (q := 39) (nx := 12) (by decide +kernel) (fun c3 => ?_) (fun c3 => ?_)
      · exfalso; omega
      · refine zwW_p [(1, 2, 0)] (q := 13) (ls' := [(2, 6), (0, a), (0, b)]) (st' := [(0, b)]) (by decide +kernel) rfl ?_
        refine zwW_cs (k' := 182) (n := 1) (nx := 16) (as := [(0, b)]) (st' := []) (by decide +kernel) rfl (x182 h C b (by omega)) rfl ?_
        rintro x _ ⟨rfl, ⟨rfl, c4⟩ | ⟨rfl, c4⟩⟩
        · refine zwif_eq (q := 39) (nx := 19) (by decide +kernel) (fun c5 => ?_) (fun c5 => ?_)
          · exfalso; omega
          · refine zwW_p [(1, 0, 2)] (q := 20) (ls' := [(2, 6), (0, a), (0, b)]) (st' := [(2, 6)]) (by decide +kernel) rfl ?_
            refine zwW_gc C.1 (kd := 8) (bn := 0) (n := 2) (c := 7) (nx := 23) (by decide +kernel) ?_
            refine zwW_p [(1, 1, 0), (0, 8, 0)] (q := 26) (ls' := [(2, 6), (0, a), (0, b)]) (st' := [(0, 8), (0, a), (2, 7)]) (by decide +kernel) rfl ?_
            refine zwW_mul (nx := 27) (by decide +kernel) (by first | omega | exact ⟨by omega, by omega⟩) ?_
            refine zwW_p [(1, 2, 0)] (q := 28) (ls' := [(2, 6), (0, a), (0, b)]) (st' := [(0, b), (0, (a * 8)), (2, 7)]) (by decide +kernel) rfl ?_
            refine zwW_add (nx := 29) (by decide +kernel) (by first | omega | exact ⟨by omega, by omega⟩) ?_
            refine zwW_al C.1 (a1 := 7) (a2 := 7) (kd := 20) (n := 64) (t := 0) (lo := -2147483648) (hi := 2147483647) (nx := 30) (by decide +kernel) (by first | decide | exact ⟨by decide, by decide⟩) (by first | omega | exact ⟨by omega, by omega⟩) ?_
            intro v6 ev6 lv6 uv6
            refine zwW_p [(0, 1000000, 0)] (q := 32) (ls' := [(2, 6), (0, a), (0, b)]) (st' := [(0, 1000000), (0, v6)]) (by decide +kernel) rfl ?_
            refine zwic_ge (q := 39) (nx := 35) (by decide +kernel) (fun c7 => ?_) (fun c7 => ?_)
            · refine zwW_p [(0, 0, 0)] (q := 40) (ls' := [(2, 6), (0, a), (0, b)]) (st' := [(0, 0)]) (by decide +kernel) rfl ?_
              refine zwW_ret (nx := 41) (a := 1) (b := 0) (by decide +kernel) rfl (Or.inr (Or.inl ⟨rfl, Or.inl rfl⟩)) ?_
              exact ⟨rfl, Or.inr ⟨rfl, by omega⟩⟩
            · refine zwW_p [(0, 1, 0), (24, 40, 0)] (q := 40) (ls' := [(2, 6), (0, a), (0, b)]) (st' := [(0, 1)]) (by decide +kernel) rfl ?_
              refine zwW_ret (nx := 41) (a := 1) (b := 0) (by decide +kernel) rfl (Or.inr (Or.inl ⟨rfl, Or.inr rfl⟩)) ?_
              exact ⟨rfl, Or.inl ⟨rfl, by omega⟩⟩
        · refine zwif_eq (q := 39) (nx := 19) (by decide +kernel) (fun c8 => ?_) (fun c8 => ?_)
          · refine zwW_p [(0, 0, 0)] (q := 40) (ls' := [(2, 6), (0, a), (0, b)]) (st' := [(0, 0)]) (by decide +kernel) rfl ?_
            refine zwW_ret (nx := 41) (a := 1) (b := 0) (by decide +kernel) rfl (Or.inr (Or.inl ⟨rfl, Or.inl rfl⟩)) ?_
            exact ⟨rfl, Or.inr ⟨rfl, by omega⟩⟩
          · exfalso; omega
    · refine zwif_eq (q := 39) (nx := 12) (by decide +kernel) (fun c9 => ?_) (fun c9 => ?_)
      · refine zwW_p [(0, 0, 0)] (q := 40) (ls' := [(2, 6), (0, a), (0, b)]) (st' := [(0, 0)]) (by decide +kernel) rfl ?_
        refine zwW_ret (nx := 41) (a := 1) (b := 0) (by decide +kernel) rfl (Or.inr (Or.inl ⟨rfl, Or.inl rfl⟩)) ?_
        exact ⟨rfl, Or.inr ⟨rfl, by omega⟩⟩
      · exfalso; omega
def msx183 : Zms := [(8, 8, 0, 64)]
-- WheelLand$Roads.measure()V
theorem x183 {sc : List Int} (h : Hp) (C : CI h) (pW : zLd h) (pE : ∀ a b : Nat, a < 8 → b < 8 → zLe h a b = zLa h a b) : zwC sc 1 183 [(2, 6)] h (zwRv (fun g => CI g ∧ zXR msx183 (0) (0) h g ∧ (zFw (zLa h) (zLe g) 8))) := by
  refine zwC_of (D := 0) 6 (by decide +kernel) rfl (ls := [(2, 6), (9, 0), (9, 0), (9, 0), (9, 0), (9, 0)]) rfl ?_
  have X : zXR msx183 0 0 h h := zXR.rf _ _
  refine zwW_p [(0, 0, 0), (2, 1, 0)] (q := 2) (ls' := [(2, 6), (0, 0), (9, 0), (9, 0), (9, 0), (9, 0)]) (st' := []) (by decide +kernel) rfl ?_
  have L1 : ∀ (n : Nat) (yL1 : Int) (w2L1 w3L1 w4L1 w5L1 : Vl) (hL1 : Hp), n = ((1000 - yL1)).toNat → (zFw (zLa h) (zLe hL1) (yL1).toNat) → (0 ≤ yL1 ∧ yL1 ≤ 8) → CI hL1 → zXR msx183 (0) (0) h hL1 → zwW sc (0) 183 2 [(2, 6), (0, yL1), w2L1, w3L1, w4L1, w5L1] [] hL1 (zwRv (fun g => CI g ∧ zXR msx183 (0) (0) h g ∧ (zFw (zLa h) (zLe g) 8))) := by
    intro n
    induction n using Nat.strongRecOn with
    | ind n IHL1 =>
      intro yL1 w2L1 w3L1 w4L1 w5L1 hL1 hnL1 iL1_0 iL1_1 ChL1 XhL1
      refine zwW_p [(1, 1, 0), (0, 8, 0)] (q := 5) (ls' := [(2, 6), (0, yL1), w2L1, w3L1, w4L1, w5L1]) (st' := [(0, 8), (0, yL1)]) (by decide +kernel) rfl ?_
      refine zwic_ge (q := 98) (nx := 8) (by decide +kernel) (fun c2 => ?_) (fun c2 => ?_)
      · refine zwW_retv (nx := 99) (a := 0) (b := 0) (by decide +kernel) ?_
        exact ⟨ChL1, XhL1.le (by decide) (by decide), by have Z98 := iL1_0; rwa [show (yL1).toNat = 8 by omega] at Z98⟩
      · refine zwW_p [(0, 0, 0), (2, 2, 0)] (q := 10) (ls' := [(2, 6), (0, yL1), (0, 0), w3L1, w4L1, w5L1]) (st' := []) (by decide +kernel) rfl ?_
        have L3 : ∀ (n : Nat) (fL3 : Int) (w3L3 w4L3 w5L3 : Vl) (hL3 : Hp), n = ((1000 - fL3)).toNat → (zCu (zLe hL1) (yL1).toNat (fL3).toNat 0 (zLe hL3)) → (0 ≤ fL3 ∧ fL3 ≤ 8) → CI hL3 → zXR msx183 (0) (0) h hL3 → zwW sc (0) 183 10 [(2, 6), (0, yL1), (0, fL3), w3L3, w4L3, w5L3] [] hL3 (zwRv (fun g => CI g ∧ zXR msx183 (0) (0) h g ∧ (zFw (zLa h) (zLe g) 8))) := by
          intro n
          induction n using Nat.strongRecOn with
          | ind n IHL3 =>
            intro fL3 w3L3 w4L3 w5L3 hL3 hnL3 iL3_0 iL3_1 ChL3 XhL3
            refine zwW_p [(1, 2, 0), (0, 8, 0)] (q := 13) (ls' := [(2, 6), (0, yL1), (0, fL3), w3L3, w4L3, w5L3]) (st' := [(0, 8), (0, fL3)]) (by decide +kernel) rfl ?_
            refine zwic_ge (q := 92) (nx := 16) (by decide +kernel) (fun c4 => ?_) (fun c4 => ?_)
            · refine zwW_inc (i := 1) (c := 1) (x := yL1) (nx := 95) (by decide +kernel) rfl (by first | omega | exact ⟨by omega, by omega⟩) (ls' := [(2, 6), (0, (yL1 + 1)), (0, fL3), w3L3, w4L3, w5L3]) rfl ?_
              refine zwW_p [(24, 2, 0)] (q := 2) (ls' := [(2, 6), (0, (yL1 + 1)), (0, fL3), w3L3, w4L3, w5L3]) (st' := []) (by decide +kernel) rfl ?_
              exact IHL1 ((1000 - (yL1 + 1))).toNat (by omega) (yL1 + 1) (0, fL3) w3L3 w4L3 w5L3 hL3 rfl (by rw [show (yL1 + 1).toNat = (yL1).toNat + 1 by omega]; exact zFw.next iL1_0 (by omega) iL3_0 (by omega)) (by omega) ChL3 (XhL3.le (by decide) (by decide))
            · refine zwW_p [(0, 0, 0), (2, 3, 0)] (q := 18) (ls' := [(2, 6), (0, yL1), (0, fL3), (0, 0), w4L3, w5L3]) (st' := []) (by decide +kernel) rfl ?_
              have L5 : ∀ (n : Nat) (tL5 : Int) (w4L5 w5L5 : Vl) (hL5 : Hp), n = ((1000 - tL5)).toNat → (zCu (zLe hL1) (yL1).toNat (fL3).toNat (tL5).toNat (zLe hL5)) → (0 ≤ tL5 ∧ tL5 ≤ 8) → CI hL5 → zXR msx183 (0) (0) h hL5 → zwW sc (0) 183 18 [(2, 6), (0, yL1), (0, fL3), (0, tL5), w4L5, w5L5] [] hL5 (zwRv (fun g => CI g ∧ zXR msx183 (0) (0) h g ∧ (zFw (zLa h) (zLe g) 8))) := by
                intro n
                induction n using Nat.strongRecOn with
                | ind n IHL5 =>
                  intro tL5 w4L5 w5L5 hL5 hnL5 iL5_0 iL5_1 ChL5 XhL5
                  refine zwW_p [(1, 3, 0), (0, 8, 0)] (q := 21) (ls' := [(2, 6), (0, yL1), (0, fL3), (0, tL5), w4L5, w5L5]) (st' := [(0, 8), (0, tL5)]) (by decide +kernel) rfl ?_
                  refine zwic_ge (q := 86) (nx := 24) (by decide +kernel) (fun c6 => ?_) (fun c6 => ?_)
                  · refine zwW_inc (i := 2) (c := 1) (x := fL3) (nx := 89) (by decide +kernel) rfl (by first | omega | exact ⟨by omega, by omega⟩) (ls' := [(2, 6), (0, yL1), (0, (fL3 + 1)), (0, tL5), w4L5, w5L5]) rfl ?_
                    refine zwW_p [(24, 10, 0)] (q := 10) (ls' := [(2, 6), (0, yL1), (0, (fL3 + 1)), (0, tL5), w4L5, w5L5]) (st' := []) (by decide +kernel) rfl ?_
                    exact IHL3 ((1000 - (fL3 + 1))).toNat (by omega) (fL3 + 1) (0, tL5) w4L5 w5L5 hL5 rfl (by rw [show (fL3 + 1).toNat = (fL3).toNat + 1 by omega]; exact zCu.row iL5_0 (by omega)) (by omega) ChL5 (XhL5.le (by decide) (by decide))
                  · refine zwW_p [(1, 0, 2)] (q := 25) (ls' := [(2, 6), (0, yL1), (0, fL3), (0, tL5), w4L5, w5L5]) (st' := [(2, 6)]) (by decide +kernel) rfl ?_
                    refine zwW_gc ChL5.1 (kd := 8) (bn := 1) (n := 2) (c := 8) (nx := 28) (by decide +kernel) ?_
                    refine zwW_p [(1, 2, 0), (0, 8, 0)] (q := 31) (ls' := [(2, 6), (0, yL1), (0, fL3), (0, tL5), w4L5, w5L5]) (st' := [(0, 8), (0, fL3), (2, 8)]) (by decide +kernel) rfl ?_
                    refine zwW_mul (nx := 32) (by decide +kernel) (by first | omega | exact ⟨by omega, by omega⟩) ?_
                    refine zwW_p [(1, 1, 0)] (q := 33) (ls' := [(2, 6), (0, yL1), (0, fL3), (0, tL5), w4L5, w5L5]) (st' := [(0, yL1), (0, (fL3 * 8)), (2, 8)]) (by decide +kernel) rfl ?_
                    refine zwW_add (nx := 34) (by decide +kernel) (by first | omega | exact ⟨by omega, by omega⟩) ?_
                    refine zwW_al ChL5.1 (a1 := 8) (a2 := 8) (kd := 20) (n := 64) (t := 0) (lo := -2147483648) (hi := 2147483647) (nx := 35) (by decide +kernel) (by first | decide | exact ⟨by decide, by decide⟩) (by first | omega | exact ⟨by omega, by omega⟩) ?_
                    intro v7 ev7 lv7 uv7
                    have N35 : v7 = zLe hL5 (fL3).toNat (yL1).toNat := by rw [ev7]; show fld hL5 8 _ = fld hL5 8 _; congr 1; omega
                    refine zwW_p [(1, 0, 2)] (q := 36) (ls' := [(2, 6), (0, yL1), (0, fL3), (0, tL5), w4L5, w5L5]) (st' := [(2, 6), (0, v7)]) (by decide +kernel) rfl ?_
                    refine zwW_gc ChL5.1 (kd := 8) (bn := 1) (n := 2) (c := 8) (nx := 39) (by decide +kernel) ?_
                    refine zwW_p [(1, 1, 0), (0, 8, 0)] (q := 42) (ls' := [(2, 6), (0, yL1), (0, fL3), (0, tL5), w4L5, w5L5]) (st' := [(0, 8), (0, yL1), (2, 8), (0, v7)]) (by decide +kernel) rfl ?_
                    refine zwW_mul (nx := 43) (by decide +kernel) (by first | omega | exact ⟨by omega, by omega⟩) ?_
                    refine zwW_p [(1, 3, 0)] (q := 44) (ls' := [(2, 6), (0, yL1), (0, fL3), (0, tL5), w4L5, w5L5]) (st' := [(0, tL5), (0, (yL1 * 8)), (2, 8), (0, v7)]) (by decide +kernel) rfl ?_
                    refine zwW_add (nx := 45) (by decide +kernel) (by first | omega | exact ⟨by omega, by omega⟩) ?_
                    refine zwW_al ChL5.1 (a1 := 8) (a2 := 8) (kd := 20) (n := 64) (t := 0) (lo := -2147483648) (hi := 2147483647) (nx := 46) (by decide +kernel) (by first | decide | exact ⟨by decide, by decide⟩) (by first | omega | exact ⟨by omega, by omega⟩) ?_
                    intro v8 ev8 lv8 uv8
                    have N46 : v8 = zLe hL5 (yL1).toNat (tL5).toNat := by rw [ev8]; show fld hL5 8 _ = fld hL5 8 _; congr 1; omega
                    refine zwW_adw (nx := 47) (by decide +kernel) ?_
                    intro v9 ev9 lv9 uv9
                    have B1 := zFw.cb iL1_0 iL5_0 (by omega) (a := (fL3).toNat) (b := (yL1).toNat) (by omega) (by omega)
                    have B2 := zFw.cb iL1_0 iL5_0 (by omega) (a := (yL1).toNat) (b := (tL5).toNat) (by omega) (by omega)
                    have N47 : v9 = zLe hL5 (fL3).toNat (yL1).toNat + zLe hL5 (yL1).toNat (tL5).toNat := by rw [ev9, N35, N46]; exact w32_id (by first | omega | exact ⟨by omega, by omega⟩)
                    refine zwW_p [(2, 4, 0), (1, 0, 2)] (q := 50) (ls' := [(2, 6), (0, yL1), (0, fL3), (0, tL5), (0, v9), w5L5]) (st' := [(2, 6)]) (by decide +kernel) rfl ?_
                    refine zwW_gc ChL5.1 (kd := 8) (bn := 1) (n := 2) (c := 8) (nx := 53) (by decide +kernel) ?_
                    refine zwW_p [(1, 2, 0), (0, 8, 0)] (q := 56) (ls' := [(2, 6), (0, yL1), (0, fL3), (0, tL5), (0, v9), w5L5]) (st' := [(0, 8), (0, fL3), (2, 8)]) (by decide +kernel) rfl ?_
                    refine zwW_mul (nx := 57) (by decide +kernel) (by first | omega | exact ⟨by omega, by omega⟩) ?_
                    refine zwW_p [(1, 3, 0)] (q := 58) (ls' := [(2, 6), (0, yL1), (0, fL3), (0, tL5), (0, v9), w5L5]) (st' := [(0, tL5), (0, (fL3 * 8)), (2, 8)]) (by decide +kernel) rfl ?_
                    refine zwW_add (nx := 59) (by decide +kernel) (by first | omega | exact ⟨by omega, by omega⟩) ?_
                    refine zwW_al ChL5.1 (a1 := 8) (a2 := 8) (kd := 20) (n := 64) (t := 0) (lo := -2147483648) (hi := 2147483647) (nx := 60) (by decide +kernel) (by first | decide | exact ⟨by decide, by decide⟩) (by first | omega | exact ⟨by omega, by omega⟩) ?_
                    intro v10 ev10 lv10 uv10
                    have N60 : v10 = zLe hL5 (fL3).toNat (tL5).toNat := by rw [ev10]; show fld hL5 8 _ = fld hL5 8 _; congr 1; omega
                    refine zwW_p [(2, 5, 0), (1, 0, 2)] (q := 63) (ls' := [(2, 6), (0, yL1), (0, fL3), (0, tL5), (0, v9), (0, v10)]) (st' := [(2, 6)]) (by decide +kernel) rfl ?_
                    refine zwW_gc ChL5.1 (kd := 8) (bn := 1) (n := 2) (c := 8) (nx := 66) (by decide +kernel) ?_
                    refine zwW_p [(1, 2, 0), (0, 8, 0)] (q := 69) (ls' := [(2, 6), (0, yL1), (0, fL3), (0, tL5), (0, v9), (0, v10)]) (st' := [(0, 8), (0, fL3), (2, 8)]) (by decide +kernel) rfl ?_
                    refine zwW_mul (nx := 70) (by decide +kernel) (by first | omega | exact ⟨by omega, by omega⟩) ?_
                    refine zwW_p [(1, 3, 0)] (q := 71) (ls' := [(2, 6), (0, yL1), (0, fL3), (0, tL5), (0, v9), (0, v10)]) (st' := [(0, tL5), (0, (fL3 * 8)), (2, 8)]) (by decide +kernel) rfl ?_
                    refine zwW_add (nx := 72) (by decide +kernel) (by first | omega | exact ⟨by omega, by omega⟩) ?_
                    refine zwW_p [(1, 5, 0), (1, 4, 0)] (q := 76) (ls' := [(2, 6), (0, yL1), (0, fL3), (0, tL5), (0, v9), (0, v10)]) (st' := [(0, v9), (0, v10), (0, ((fL3 * 8) + tL5)), (2, 8)]) (by decide +kernel) rfl ?_
                    refine zwW_min (nx := 79) (by decide +kernel) rfl ?_
                    intro v11 ev11
                    have X79 : v11 = min (zLe hL5 (fL3).toNat (tL5).toNat) (zLe hL5 (fL3).toNat (yL1).toNat + zLe hL5 (yL1).toNat (tL5).toNat) := by rw [ev11, N60, N47]
                    refine zwW_as ChL5.1 (a1 := 8) (a2 := 8) (n := 64) (lo := -2147483648) (hi := 2147483647) (nx := 80) (by decide +kernel) (by first | decide | exact ⟨by decide, by decide⟩) (by first | omega | exact ⟨by omega, by omega⟩) (by first | omega | exact ⟨by omega, by omega⟩) ?_
                    intro h12 eh12 Ih12
                    have Ch12 : CI h12 := ChL5.wc eh12 Ih12 (by decide) (by decide)
                    have Qh12 : zXR [(8, 8, 0, 64)] 0 0 hL5 h12 := zXR.wc eh12 rfl ⟨by decide, by decide, Or.inl (by decide)⟩ (by first | omega | exact ⟨by omega, by omega⟩)
                    have W79 : zCu (zLe hL1) (yL1).toNat (fL3).toNat ((tL5).toNat + 1) (zLe h12) := zCu.w iL5_0 (by omega) (by omega) (by omega) (iL1_0.2.1 _ (by omega)) (fun a b ha hb => (iL1_0.1 a b ha hb).1) eh12 (by omega) (ChL5.1.s (a1 := 8) (a2 := 8) (k := 20) (n := 64) (by decide +kernel) (by decide) (by decide)) X79
                    have Xh12 : zXR msx183 (0) (0) h h12 := XhL5.tr (c2 := 0) (s2 := 0) Qh12 (by decide +kernel) (by decide) (by decide)
                    refine zwW_inc (i := 3) (c := 1) (x := tL5) (nx := 83) (by decide +kernel) rfl (by first | omega | exact ⟨by omega, by omega⟩) (ls' := [(2, 6), (0, yL1), (0, fL3), (0, (tL5 + 1)), (0, v9), (0, v10)]) rfl ?_
                    refine zwW_p [(24, 18, 0)] (q := 18) (ls' := [(2, 6), (0, yL1), (0, fL3), (0, (tL5 + 1)), (0, v9), (0, v10)]) (st' := []) (by decide +kernel) rfl ?_
                    exact IHL5 ((1000 - (tL5 + 1))).toNat (by omega) (tL5 + 1) (0, v9) (0, v10) h12 rfl (by rw [show (tL5 + 1).toNat = (tL5).toNat + 1 by omega]; exact W79) (by omega) Ch12 (Xh12.le (by decide) (by decide))
              exact L5 _ 0 w4L3 w5L3 hL3 rfl (iL3_0) (by omega) ChL3 (XhL3.le (by decide) (by decide))
        exact L3 _ 0 w3L1 w4L1 w5L1 hL1 rfl (zCu.start _) (by omega) ChL1 (XhL1.le (by decide) (by decide))
  exact L1 _ 0 (9, 0) (9, 0) (9, 0) (9, 0) h rfl (zFw_start pW pE) (by omega) C (X.le (by decide) (by decide))
def msx103 : Zms := [(7, 7, 0, 64), (8, 8, 0, 64)]
-- WheelLand$Roads.lay(III)V
theorem x103 {sc : List Int} (h : Hp) (C : CI h) (a b c : Int) (q_a : -2147483648 ≤ a ∧ a ≤ 2147483647) (q_b : -2147483648 ≤ b ∧ b ≤ 2147483647) (q_c : -2147483648 ≤ c ∧ c ≤ 2147483647) (p1 : 0 ≤ a ∧ a < 8) (p2 : 0 ≤ b ∧ b < 8) (p3 : a ≠ b) (p4 : 1 ≤ c ∧ c ≤ 9) (pW : zLd h) : zwC sc 2 103 [(2, 6), (0, a), (0, b), (0, c)] h (zwRv (fun g => CI g ∧ zXR msx103 (0) (0) h g ∧ (zLd g ∧ zFw (zLa g) (zLe g) 8 ∧ ∀ p q : Nat, p < 8 → q < 8 → zLa g p q = if (p = a.toNat ∧ q = b.toNat) ∨ (p = b.toNat ∧ q = a.toNat) then c else zLa h p q))) := by
  refine zwC_of (D := 1) 4 (by decide +kernel) rfl (ls := [(2, 6), (0, a), (0, b), (0, c)]) rfl ?_
  have X : zXR msx103 0 0 h h := zXR.rf _ _
  refine zwW_p [(1, 1, 0)] (q := 1) (ls' := [(2, 6), (0, a), (0, b), (0, c)]) (st' := [(0, a)]) (by decide +kernel) rfl ?_
  refine zwW_cs (k' := 182) (n := 1) (nx := 4) (as := [(0, a)]) (st' := []) (by decide +kernel) rfl (x182 h C a (by omega)) rfl ?_
  rintro x _ ⟨rfl, ⟨rfl, c1⟩ | ⟨rfl, c1⟩⟩
  · refine zwif_eq (q := 65) (nx := 7) (by decide +kernel) (fun c2 => ?_) (fun c2 => ?_)
    · exfalso; omega
    · refine zwW_p [(1, 2, 0)] (q := 8) (ls' := [(2, 6), (0, a), (0, b), (0, c)]) (st' := [(0, b)]) (by decide +kernel) rfl ?_
      refine zwW_cs (k' := 182) (n := 1) (nx := 11) (as := [(0, b)]) (st' := []) (by decide +kernel) rfl (x182 h C b (by omega)) rfl ?_
      rintro x _ ⟨rfl, ⟨rfl, c3⟩ | ⟨rfl, c3⟩⟩
      · refine zwif_eq (q := 65) (nx := 14) (by decide +kernel) (fun c4 => ?_) (fun c4 => ?_)
        · exfalso; omega
        · refine zwW_p [(1, 1, 0), (1, 2, 0)] (q := 16) (ls' := [(2, 6), (0, a), (0, b), (0, c)]) (st' := [(0, b), (0, a)]) (by decide +kernel) rfl ?_
          refine zwic_eq (q := 65) (nx := 19) (by decide +kernel) (fun c5 => ?_) (fun c5 => ?_)
          · refine zwW_retv (nx := 66) (a := 0) (b := 0) (by decide +kernel) ?_
            exact ⟨C, X.le (by decide) (by decide), by first | omega | exact ⟨fun p q hp hq => by rw [Z62 p q hp hq]; exact L61 p q hp hq, zFw.cg {F0} Z62, fun p q hp hq => (Z62 p q hp hq).trans ((congrFun (O58 7 (by decide)) _).trans (F42 p q hp hq))⟩⟩
          · refine zwW_p [(1, 0, 2)] (q := 20) (ls' := [(2, 6), (0, a), (0, b), (0, c)]) (st' := [(2, 6)]) (by decide +kernel) rfl ?_
            refine zwW_gc C.1 (kd := 8) (bn := 0) (n := 2) (c := 7) (nx := 23) (by decide +kernel) ?_
            refine zwW_p [(1, 1, 0), (0, 8, 0)] (q := 26) (ls' := [(2, 6), (0, a), (0, b), (0, c)]) (st' := [(0, 8), (0, a), (2, 7)]) (by decide +kernel) rfl ?_
            refine zwW_mul (nx := 27) (by decide +kernel) (by first | omega | exact ⟨by omega, by omega⟩) ?_
            refine zwW_p [(1, 2, 0)] (q := 28) (ls' := [(2, 6), (0, a), (0, b), (0, c)]) (st' := [(0, b), (0, (a * 8)), (2, 7)]) (by decide +kernel) rfl ?_
            refine zwW_add (nx := 29) (by decide +kernel) (by first | omega | exact ⟨by omega, by omega⟩) ?_
            refine zwW_p [(1, 3, 0)] (q := 30) (ls' := [(2, 6), (0, a), (0, b), (0, c)]) (st' := [(0, c), (0, ((a * 8) + b)), (2, 7)]) (by decide +kernel) rfl ?_
            refine zwW_as C.1 (a1 := 7) (a2 := 7) (n := 64) (lo := -2147483648) (hi := 2147483647) (nx := 31) (by decide +kernel) (by first | decide | exact ⟨by decide, by decide⟩) (by first | omega | exact ⟨by omega, by omega⟩) (by first | omega | exact ⟨by omega, by omega⟩) ?_
            intro h6 eh6 Ih6
            have Ch6 : CI h6 := C.wc eh6 Ih6 (by decide) (by decide)
            have Qh6 : zXR [(7, 7, 0, 64)] 0 0 h h6 := zXR.wc eh6 rfl ⟨by decide, by decide, Or.inl (by decide)⟩ (by first | omega | exact ⟨by omega, by omega⟩)
            have E30 := eh6
            have S30 := C.1.s (a1 := 7) (a2 := 7) (k := 20) (n := 64) (by decide +kernel) (r := 7) (by decide) (by decide)
            have Xh6 : zXR msx103 (0) (0) h h6 := X.tr (c2 := 0) (s2 := 0) Qh6 (by decide +kernel) (by decide) (by decide)
            refine zwW_p [(1, 0, 2)] (q := 32) (ls' := [(2, 6), (0, a), (0, b), (0, c)]) (st' := [(2, 6)]) (by decide +kernel) rfl ?_
            refine zwW_gc Ch6.1 (kd := 8) (bn := 0) (n := 2) (c := 7) (nx := 35) (by decide +kernel) ?_
            refine zwW_p [(1, 2, 0), (0, 8, 0)] (q := 38) (ls' := [(2, 6), (0, a), (0, b), (0, c)]) (st' := [(0, 8), (0, b), (2, 7)]) (by decide +kernel) rfl ?_
            refine zwW_mul (nx := 39) (by decide +kernel) (by first | omega | exact ⟨by omega, by omega⟩) ?_
            refine zwW_p [(1, 1, 0)] (q := 40) (ls' := [(2, 6), (0, a), (0, b), (0, c)]) (st' := [(0, a), (0, (b * 8)), (2, 7)]) (by decide +kernel) rfl ?_
            refine zwW_add (nx := 41) (by decide +kernel) (by first | omega | exact ⟨by omega, by omega⟩) ?_
            refine zwW_p [(1, 3, 0)] (q := 42) (ls' := [(2, 6), (0, a), (0, b), (0, c)]) (st' := [(0, c), (0, ((b * 8) + a)), (2, 7)]) (by decide +kernel) rfl ?_
            refine zwW_as Ch6.1 (a1 := 7) (a2 := 7) (n := 64) (lo := -2147483648) (hi := 2147483647) (nx := 43) (by decide +kernel) (by first | decide | exact ⟨by decide, by decide⟩) (by first | omega | exact ⟨by omega, by omega⟩) (by first | omega | exact ⟨by omega, by omega⟩) ?_
            intro h7 eh7 Ih7
            have Ch7 : CI h7 := Ch6.wc eh7 Ih7 (by decide) (by decide)
            have Qh7 : zXR [(7, 7, 0, 64)] 0 0 h6 h7 := zXR.wc eh7 rfl ⟨by decide, by decide, Or.inl (by decide)⟩ (by first | omega | exact ⟨by omega, by omega⟩)
            have S42 := Ch6.1.s (a1 := 7) (a2 := 7) (k := 20) (n := 64) (by decide +kernel) (r := 7) (by decide) (by decide)
            obtain ⟨L42, F42⟩ := zLd.w (a := a.toNat) (b := b.toNat) pW (by omega) (by omega) (by omega) p4 E30 eh7 (by omega) (by omega) S30 S42
            have Xh7 : zXR msx103 (0) (0) h h7 := Xh6.tr (c2 := 0) (s2 := 0) Qh7 (by decide +kernel) (by decide) (by decide)
            refine zwW_p [(1, 0, 2)] (q := 44) (ls' := [(2, 6), (0, a), (0, b), (0, c)]) (st' := [(2, 6)]) (by decide +kernel) rfl ?_
            refine zwW_gc Ch7.1 (kd := 8) (bn := 0) (n := 2) (c := 7) (nx := 47) (by decide +kernel) ?_
            refine zwW_p [(0, 0, 0), (1, 0, 2)] (q := 49) (ls' := [(2, 6), (0, a), (0, b), (0, c)]) (st' := [(2, 6), (0, 0), (2, 7)]) (by decide +kernel) rfl ?_
            refine zwW_gc Ch7.1 (kd := 8) (bn := 1) (n := 2) (c := 8) (nx := 52) (by decide +kernel) ?_
            refine zwW_p [(0, 0, 0), (1, 0, 2)] (q := 54) (ls' := [(2, 6), (0, a), (0, b), (0, c)]) (st' := [(2, 6), (0, 0), (2, 8), (0, 0), (2, 7)]) (by decide +kernel) rfl ?_
            refine zwW_gc Ch7.1 (kd := 8) (bn := 0) (n := 2) (c := 7) (nx := 57) (by decide +kernel) ?_
            refine zwW_len (kd := 20) (n := 64) (nx := 58) (by decide +kernel) (Ch7.1.s (a1 := 7) (a2 := 7) (by decide +kernel) (by omega) (by omega)) rfl ?_
            refine zwX_copy Ch7 (A := 7) (B := 8) (n := 64) (nx := 61) (by decide +kernel) (by decide +kernel) (by decide +kernel) (Ch7.1.s (a1 := 7) (a2 := 7) (by decide +kernel) (by decide) (by decide)) (Ch7.1.s (a1 := 8) (a2 := 8) (by decide +kernel) (by decide) (by decide)) (by decide) rfl ?_
            rintro h8 Ch8 Qh8 fh8 oh8
            have C58 := fh8
            have O58 := oh8
            have Xh8 : zXR msx103 (0) (0) h h8 := Xh7.tr (c2 := 0) (s2 := 0) Qh8 (by decide +kernel) (by decide) (by decide)
            have L61 : zLd h8 := fun p q hp hq => by have := L42 p q hp hq; unfold zLa at this ⊢; rw [O58 7 (by decide)]; exact this
            have Q61 : ∀ p q : Nat, p < 8 → q < 8 → zLe h8 p q = zLa h8 p q := fun p q hp hq => (C58 (8 * p + q) (by omega)).trans (congrFun (O58 7 (by decide)) (8 * p + q)).symm
            refine zwW_p [(1, 0, 2)] (q := 62) (ls' := [(2, 6), (0, a), (0, b), (0, c)]) (st' := [(2, 6)]) (by decide +kernel) rfl ?_
            refine zwW_cmv Ch8.1 (op := 60) (k' := 183) (n := 0) (kd := 8) (m := 2) (nx := 65) (r := 6) (tl := []) (st' := []) (by decide +kernel) rfl (by decide +kernel) rfl (x183 h8 Ch8 L61 Q61) ?_
            rintro h10 ⟨Ch10, Qh10, f9⟩
            have Xh10 : zXR msx103 (0) (0) h h10 := Xh8.tr (c2 := 0) (s2 := 0) Qh10 (by decide +kernel) (by decide) (by decide)
            have Z62 : ∀ p q : Nat, p < 8 → q < 8 → zLa h10 p q = zLa h8 p q := fun p q hp hq => Qh10.f (a1 := 7) (a2 := 7) (j1 := 0) (j2 := 64) (by decide +kernel) (r := 7) (by first | decide | exact ⟨by decide, by decide⟩) ⟨Nat.zero_le _, by omega⟩ (by first | decide | exact ⟨by decide, by decide⟩)
            refine zwW_retv (nx := 66) (a := 0) (b := 0) (by decide +kernel) ?_
            exact ⟨Ch10, Xh10.le (by decide) (by decide), by first | omega | exact ⟨fun p q hp hq => by rw [Z62 p q hp hq]; exact L61 p q hp hq, zFw.cg f9 Z62, fun p q hp hq => (Z62 p q hp hq).trans ((congrFun (O58 7 (by decide)) _).trans (F42 p q hp hq))⟩⟩
      · refine zwif_eq (q := 65) (nx := 14) (by decide +kernel) (fun c11 => ?_) (fun c11 => ?_)
        · refine zwW_retv (nx := 66) (a := 0) (b := 0) (by decide +kernel) ?_
          exact ⟨C, X.le (by decide) (by decide), by first | omega | exact ⟨fun p q hp hq => by rw [Z62 p q hp hq]; exact L61 p q hp hq, zFw.cg {F0} Z62, fun p q hp hq => (Z62 p q hp hq).trans ((congrFun (O58 7 (by decide)) _).trans (F42 p q hp hq))⟩⟩
        · exfalso; omega
  · refine zwif_eq (q := 65) (nx := 7) (by decide +kernel) (fun c12 => ?_) (fun c12 => ?_)
    · refine zwW_retv (nx := 66) (a := 0) (b := 0) (by decide +kernel) ?_
      exact ⟨C, X.le (by decide) (by decide), by first | omega | exact ⟨fun p q hp hq => by rw [Z62 p q hp hq]; exact L61 p q hp hq, zFw.cg {F0} Z62, fun p q hp hq => (Z62 p q hp hq).trans ((congrFun (O58 7 (by decide)) _).trans (F42 p q hp hq))⟩⟩
    · exfalso; omega
end
