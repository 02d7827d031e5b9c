/-! contracts of methods -/
def ms148 : Zms := [(37, 37, 87, 88), (37, 37, 88, 91), (97, 97, 0, 8), (168, 168, 0, 13), (169, 169, 0, 420), (187, 187, 0, 6), (188, 188, 0, 6), (189, 189, 0, 6), (190, 190, 0, 6), (192, 197, 0, 6), (199, 204, 0, 6)]
-- WheelLandModel.handsFor(I)Z
theorem m148 {sc : List Int} (h : Hp) (I : zI h) (a : Int) (q_a : -2147483648 ≤ a ∧ a ≤ 2147483647) (hW : zCW h) : zwC sc 81 148 [(2, 37), (0, a)] h (zwRt 0 (fun x g => zI g ∧ zMR ms148 h g ∧ ((x = 1) ∨ (x = 0)))) := by
  refine zwC_of (D := 80) 4 (by decide +kernel) rfl (ls := [(2, 37), (0, a), (9, 0), (9, 0)]) rfl ?_
  have R : zMR ms148 h h := zMR.rf _ _
  have B0 := I.b (a1 := 37) (a2 := 37) (j1 := 86) (j2 := 87) (lo := 0) (hi := 6) (by decide +kernel) (r := 37) (j := 86) (by decide) (by decide) (by decide) (by decide)
  refine zwW_p [(1, 1, 0), (7, 0, 0), (0, 1, 1), (0, 1, 0), (1, 0, 2)] (q := 5) (ls' := [(2, 37), (0, a), (9, 0), (9, 0)]) (st' := [(2, 37), (0, 1), (1, 1), (1, a)]) (by decide +kernel) rfl ?_
  refine zwW_gs I (kd := 13) (bn := 2) (n := 97) (t := 0) (lo := 0) (hi := 20) (nx := 8) (by decide +kernel) ?_
  intro v1 ev1 lv1 uv1
  refine zwW_any2 (a := 8) (nx := 9) (by decide +kernel) rfl (by first | omega | exact ⟨by omega, by omega⟩) (Or.inr (by first | decide | exact ⟨by decide, by decide⟩)) ?_
  intro v2 lv2 uv2
  refine zwW_p [(0, 1, 0)] (q := 10) (ls' := [(2, 37), (0, a), (9, 0), (9, 0)]) (st' := [(0, 1), (0, v2), (1, 1), (1, a)]) (by decide +kernel) rfl ?_
  refine zwW_sbw (nx := 11) (by decide +kernel) ?_
  intro v3 ev3 lv3 uv3
  refine zwW_p [(7, 0, 0)] (q := 12) (ls' := [(2, 37), (0, a), (9, 0), (9, 0)]) (st' := [(1, v3), (1, 1), (1, a)]) (by decide +kernel) rfl ?_
  refine zwW_cs (k' := 101) (n := 3) (nx := 15) (as := [(1, a), (1, 1), (1, v3)]) (st' := []) (by decide +kernel) rfl (m101 h a 1 v3) rfl ?_
  rintro x _ ⟨rfl, ⟨rfl, c4⟩ | ⟨rfl, c4⟩⟩
  · refine zwif_eq (q := 25) (nx := 18) (by decide +kernel) (fun c5 => ?_) (fun c5 => ?_)
    · exfalso; omega
    · refine zwW_p [(1, 0, 2)] (q := 19) (ls' := [(2, 37), (0, a), (9, 0), (9, 0)]) (st' := [(2, 37)]) (by decide +kernel) rfl ?_
      refine zwW_gs I (kd := 13) (bn := 86) (n := 97) (t := 0) (lo := 0) (hi := 6) (nx := 22) (by decide +kernel) ?_
      intro v6 ev6 lv6 uv6
      refine zwif_ne (q := 27) (nx := 25) (by decide +kernel) (fun c7 => ?_) (fun c7 => ?_)
      · refine zwW_p [(1, 0, 2), (0, 0, 0)] (q := 29) (ls' := [(2, 37), (0, a), (9, 0), (9, 0)]) (st' := [(0, 0), (2, 37)]) (by decide +kernel) rfl ?_
        refine zwW_ps I (kd := 13) (bn := 87) (n := 97) (lo := 0) (hi := 6) (nx := 32) (by decide +kernel) (by first | decide | exact ⟨by decide, by decide⟩) ?_
        intro h8 eh8 Ih8
        have th8_37_2 : fld h8 37 2 = fld h 37 2 := by rw [eh8]; exact fld_wr (by decide)
        have th8_37_86 : fld h8 37 86 = fld h 37 86 := by rw [eh8]; exact fld_wr (by decide)
        have th8_37_87 : fld h8 37 87 = 0 := by rw [eh8]; exact fld_wr_eq (I.s (a1 := 37) (a2 := 37) (k := 13) (n := 97) (by decide +kernel) (by decide) (by decide)) (by decide)
        have Oh8 : zMR [(37, 37, 87, 88)] h h8 := zMR.one (by first | decide | exact ⟨by decide, by decide⟩) (by first | decide | exact ⟨by decide, by decide⟩) eh8
        have Rh8 : zMR ms148 h h8 := R.w (a1 := 37) (a2 := 37) (j1 := 87) (j2 := 88) (by decide +kernel) (by first | decide | exact ⟨by decide, by decide⟩) (by first | decide | exact ⟨by decide, by decide⟩) eh8
        refine zwW_p [(0, 0, 0), (2, 2, 0)] (q := 34) (ls' := [(2, 37), (0, a), (0, 0), (9, 0)]) (st' := []) (by decide +kernel) rfl ?_
        have L9 : ∀ (n0 : Nat) (qL9 : Int) (hL9 : Hp), n0 = ((100 - qL9)).toNat → (0 ≤ qL9 ∧ qL9 ≤ 20) → (fld hL9 37 86 = fld h 37 86) → zI hL9 → zMR ms148 h hL9 → zwW sc (80) 148 34 [(2, 37), (0, a), (0, qL9), (9, 0)] [] hL9 (zwRt 0 (fun x g => zI g ∧ zMR ms148 h g ∧ ((x = 1) ∨ (x = 0)))) := by
          intro n0
          induction n0 using Nat.strongRecOn with
          | ind n0 IHL9 =>
            intro qL9 hL9 hnL9 iL9_0 iL9_1 IhL9 RhL9
            refine zwW_p [(1, 2, 0), (1, 0, 2)] (q := 36) (ls' := [(2, 37), (0, a), (0, qL9), (9, 0)]) (st' := [(2, 37), (0, qL9)]) (by decide +kernel) rfl ?_
            refine zwW_gs IhL9 (kd := 13) (bn := 2) (n := 97) (t := 0) (lo := 0) (hi := 20) (nx := 39) (by decide +kernel) ?_
            intro v10 ev10 lv10 uv10
            refine zwic_ge (q := 90) (nx := 42) (by decide +kernel) (fun c11 => ?_) (fun c11 => ?_)
            · refine zwW_p [(0, 0, 0), (2, 2, 0)] (q := 92) (ls' := [(2, 37), (0, a), (0, 0), (9, 0)]) (st' := []) (by decide +kernel) rfl ?_
              have L12 : ∀ (n0 : Nat) (kL12 : Int) (w3L12 : Vl) (hL12 : Hp), n0 = ((100 - kL12)).toNat → (0 ≤ kL12 ∧ kL12 ≤ 6) → (fld hL12 37 86 = fld h 37 86) → (zMYn hL12 kL12) → (kL12 ≤ fld h 37 86) → zI hL12 → zMR ms148 h hL12 → zwW sc (80) 148 92 [(2, 37), (0, a), (0, kL12), w3L12] [] hL12 (zwRt 0 (fun x g => zI g ∧ zMR ms148 h g ∧ ((x = 1) ∨ (x = 0)))) := by
                intro n0
                induction n0 using Nat.strongRecOn with
                | ind n0 IHL12 =>
                  intro kL12 w3L12 hL12 hnL12 iL12_0 iL12_1 iL12_2 iL12_3 IhL12 RhL12
                  refine zwW_p [(1, 2, 0), (1, 0, 2)] (q := 94) (ls' := [(2, 37), (0, a), (0, kL12), w3L12]) (st' := [(2, 37), (0, kL12)]) (by decide +kernel) rfl ?_
                  refine zwW_gs IhL12 (kd := 13) (bn := 86) (n := 97) (t := 0) (lo := 0) (hi := 6) (nx := 97) (by decide +kernel) ?_
                  intro v13 ev13 lv13 uv13
                  refine zwic_ge (q := 240) (nx := 100) (by decide +kernel) (fun c14 => ?_) (fun c14 => ?_)
                  · refine zwW_p [(1, 0, 2), (0, -1, 0)] (q := 242) (ls' := [(2, 37), (0, a), (0, kL12), w3L12]) (st' := [(0, -1), (2, 37)]) (by decide +kernel) rfl ?_
                    refine zwW_ps IhL12 (kd := 13) (bn := 88) (n := 97) (lo := -2147483648) (hi := 2147483647) (nx := 245) (by decide +kernel) (by first | decide | exact ⟨by decide, by decide⟩) ?_
                    intro h15 eh15 Ih15
                    have th15_37_2 : fld h15 37 2 = fld hL12 37 2 := by rw [eh15]; exact fld_wr (by decide)
                    have th15_37_86 : fld h15 37 86 = fld hL12 37 86 := by rw [eh15]; exact fld_wr (by decide)
                    have th15_37_87 : fld h15 37 87 = fld hL12 37 87 := by rw [eh15]; exact fld_wr (by decide)
                    have Oh15 : zMR [(37, 37, 88, 89)] hL12 h15 := zMR.one (by first | decide | exact ⟨by decide, by decide⟩) (by first | decide | exact ⟨by decide, by decide⟩) eh15
                    have MYh15 := iL12_2.mr Oh15 (by decide +kernel)
                    have Rh15 : zMR ms148 h h15 := RhL12.w (a1 := 37) (a2 := 37) (j1 := 88) (j2 := 89) (by decide +kernel) (by first | decide | exact ⟨by decide, by decide⟩) (by first | decide | exact ⟨by decide, by decide⟩) eh15
                    refine zwW_p [(1, 0, 2), (0, 0, 0)] (q := 247) (ls' := [(2, 37), (0, a), (0, kL12), w3L12]) (st' := [(0, 0), (2, 37)]) (by decide +kernel) rfl ?_
                    refine zwW_cmv Ih15 (op := 60) (k' := 213) (n := 1) (kd := 13) (m := 97) (nx := 250) (r := 37) (tl := [(0, 0)]) (st' := []) (by decide +kernel) rfl (by decide +kernel) rfl (ztries0 sc h15 Ih15 (by rw [show fld h15 37 86 = kL12 by omega]; exact MYh15) ⟨by decide, fun k i hk => by omega⟩ (by omega)) ?_
                    rintro h17 ⟨Ih17, Qh17, f16⟩
                    have Rh17 : zMR ms148 h h17 := Rh15.tr Qh17 (by decide +kernel)
                    have MYh17 := MYh15.mr Qh17 (by decide +kernel)
                    have th17_37_2 : fld h17 37 2 = fld h15 37 2 := Qh17.f (a1 := 37) (a2 := 37) (j1 := 2) (j2 := 3) (by decide +kernel) (by first | decide | exact ⟨by decide, by decide⟩) (by first | decide | exact ⟨by decide, by decide⟩)
                    have th17_37_86 : fld h17 37 86 = fld h15 37 86 := Qh17.f (a1 := 37) (a2 := 37) (j1 := 86) (j2 := 87) (by decide +kernel) (by first | decide | exact ⟨by decide, by decide⟩) (by first | decide | exact ⟨by decide, by decide⟩)
                    have th17_37_87 : fld h17 37 87 = fld h15 37 87 := Qh17.f (a1 := 37) (a2 := 37) (j1 := 87) (j2 := 88) (by decide +kernel) (by first | decide | exact ⟨by decide, by decide⟩) (by first | decide | exact ⟨by decide, by decide⟩)
                    refine zwW_p [(0, 1, 0)] (q := 251) (ls' := [(2, 37), (0, a), (0, kL12), w3L12]) (st' := [(0, 1)]) (by decide +kernel) rfl ?_
                    refine zwW_ret (nx := 252) (a := 1) (b := 0) (by decide +kernel) rfl (Or.inr (Or.inl ⟨rfl, Or.inr rfl⟩)) ?_
                    exact ⟨Ih17, Rh17, Or.inl rfl⟩
                  · refine zwW_p [(1, 0, 2)] (q := 101) (ls' := [(2, 37), (0, a), (0, kL12), w3L12]) (st' := [(2, 37)]) (by decide +kernel) rfl ?_
                    refine zwW_gc IhL12 (kd := 13) (bn := 80) (n := 97) (c := 187) (nx := 104) (by decide +kernel) ?_
                    refine zwW_p [(1, 2, 0), (1, 0, 2)] (q := 106) (ls' := [(2, 37), (0, a), (0, kL12), w3L12]) (st' := [(2, 37), (0, kL12), (2, 187)]) (by decide +kernel) rfl ?_
                    refine zwW_gc IhL12 (kd := 13) (bn := 63) (n := 97) (c := 175) (nx := 109) (by decide +kernel) ?_
                    refine zwW_p [(1, 0, 2)] (q := 110) (ls' := [(2, 37), (0, a), (0, kL12), w3L12]) (st' := [(2, 37), (2, 175), (0, kL12), (2, 187)]) (by decide +kernel) rfl ?_
                    refine zwW_gc IhL12 (kd := 13) (bn := 79) (n := 97) (c := 186) (nx := 113) (by decide +kernel) ?_
                    refine zwW_p [(1, 2, 0)] (q := 114) (ls' := [(2, 37), (0, a), (0, kL12), w3L12]) (st' := [(0, kL12), (2, 186), (2, 175), (0, kL12), (2, 187)]) (by decide +kernel) rfl ?_
                    have ib1 : 0 ≤ kL12 ∧ kL12 < ((6 : Nat) : Int) := (by first | omega | exact ⟨by omega, by omega⟩)
                    refine zwW_al IhL12 (a1 := 186) (a2 := 186) (kd := 20) (n := 6) (t := 0) (lo := 0) (hi := 299) (nx := 115) (by decide +kernel) (by first | decide | exact ⟨by decide, by decide⟩) ib1 ?_
                    intro v18 ev18 lv18 uv18
                    have ib2 : 0 ≤ v18 ∧ v18 < ((300 : Nat) : Int) := (by first | omega | exact ⟨by omega, by omega⟩)
                    refine zwW_al IhL12 (a1 := 175) (a2 := 175) (kd := 20) (n := 300) (t := 0) (lo := -2147483648) (hi := 2147483647) (nx := 116) (by decide +kernel) (by first | decide | exact ⟨by decide, by decide⟩) ib2 ?_
                    intro v19 ev19 lv19 uv19
                    refine zwW_p [(1, 0, 2)] (q := 117) (ls' := [(2, 37), (0, a), (0, kL12), w3L12]) (st' := [(2, 37), (0, v19), (0, kL12), (2, 187)]) (by decide +kernel) rfl ?_
                    refine zwW_gc IhL12 (kd := 13) (bn := 63) (n := 97) (c := 175) (nx := 120) (by decide +kernel) ?_
                    refine zwW_p [(1, 0, 2)] (q := 121) (ls' := [(2, 37), (0, a), (0, kL12), w3L12]) (st' := [(2, 37), (2, 175), (0, v19), (0, kL12), (2, 187)]) (by decide +kernel) rfl ?_
                    refine zwW_gc IhL12 (kd := 13) (bn := 79) (n := 97) (c := 186) (nx := 124) (by decide +kernel) ?_
                    refine zwW_p [(1, 2, 0)] (q := 125) (ls' := [(2, 37), (0, a), (0, kL12), w3L12]) (st' := [(0, kL12), (2, 186), (2, 175), (0, v19), (0, kL12), (2, 187)]) (by decide +kernel) rfl ?_
                    refine zwW_al IhL12 (a1 := 186) (a2 := 186) (kd := 20) (n := 6) (t := 0) (lo := 0) (hi := 299) (nx := 126) (by decide +kernel) (by first | decide | exact ⟨by decide, by decide⟩) ib1 ?_
                    intro v20 ev20 lv20 uv20
                    have ib3 : 0 ≤ v20 ∧ v20 < ((300 : Nat) : Int) := (by first | omega | exact ⟨by omega, by omega⟩)
                    refine zwW_al IhL12 (a1 := 175) (a2 := 175) (kd := 20) (n := 300) (t := 0) (lo := -2147483648) (hi := 2147483647) (nx := 127) (by decide +kernel) (by first | decide | exact ⟨by decide, by decide⟩) ib3 ?_
                    intro v21 ev21 lv21 uv21
                    refine zwW_p [(0, 2, 0)] (q := 128) (ls' := [(2, 37), (0, a), (0, kL12), w3L12]) (st' := [(0, 2), (0, v21), (0, v19), (0, kL12), (2, 187)]) (by decide +kernel) rfl ?_
                    refine zwW_tmod (nx := 129) (by decide +kernel) (by omega) ?_
                    refine zwW_sbw (nx := 130) (by decide +kernel) ?_
                    intro v22 ev22 lv22 uv22
                    refine zwW_as IhL12 (a1 := 187) (a2 := 187) (n := 6) (lo := -2147483648) (hi := 2147483647) (nx := 131) (by decide +kernel) (by first | decide | exact ⟨by decide, by decide⟩) ib1 (by first | omega | exact ⟨by omega, by omega⟩) ?_
                    intro h23 eh23 Ih23
                    have jbh23 : 0 ≤ kL12.toNat ∧ kL12.toNat < 6 := ⟨Nat.zero_le _, zit ib1⟩
                    have th23_37_2 : fld h23 37 2 = fld hL12 37 2 := by rw [eh23]; exact fld_wr (Or.inl (by decide))
                    have th23_37_86 : fld h23 37 86 = fld hL12 37 86 := by rw [eh23]; exact fld_wr (Or.inl (by decide))
                    have th23_37_87 : fld h23 37 87 = fld hL12 37 87 := by rw [eh23]; exact fld_wr (Or.inl (by decide))
                    have Oh23 : zMR [(187, 187, 0, 6)] hL12 h23 := zMR.one (by first | decide | exact ⟨by decide, by decide⟩) jbh23 eh23
                    have MYh23 := iL12_2.mr Oh23 (by decide +kernel)
                    have Rh23 : zMR ms148 h h23 := RhL12.w (a1 := 187) (a2 := 187) (j1 := 0) (j2 := 6) (by decide +kernel) (by first | decide | exact ⟨by decide, by decide⟩) jbh23 eh23
                    refine zwW_p [(0, 0, 0), (2, 3, 0)] (q := 133) (ls' := [(2, 37), (0, a), (0, kL12), (0, 0)]) (st' := []) (by decide +kernel) rfl ?_
                    have L24 : ∀ (n0 : Nat) (iL24 : Int) (hL24 : Hp), n0 = ((100 - iL24)).toNat → (0 ≤ iL24 ∧ iL24 ≤ 6) → (fld hL24 37 86 = fld h 37 86) → (zMYn hL24 kL12) → (zMYr hL24 kL12 iL24) → (kL12 < fld h 37 86) → zI hL24 → zMR ms148 h hL24 → zwW sc (80) 148 133 [(2, 37), (0, a), (0, kL12), (0, iL24)] [] hL24 (zwRt 0 (fun x g => zI g ∧ zMR ms148 h g ∧ ((x = 1) ∨ (x = 0)))) := by
                      intro n0
                      induction n0 using Nat.strongRecOn with
                      | ind n0 IHL24 =>
                        intro iL24 hL24 hnL24 iL24_0 iL24_1 iL24_2 iL24_3 iL24_4 IhL24 RhL24
                        refine zwW_p [(1, 3, 0), (1, 0, 2)] (q := 135) (ls' := [(2, 37), (0, a), (0, kL12), (0, iL24)]) (st' := [(2, 37), (0, iL24)]) (by decide +kernel) rfl ?_
                        refine zwW_gs IhL24 (kd := 13) (bn := 87) (n := 97) (t := 0) (lo := 0) (hi := 6) (nx := 138) (by decide +kernel) ?_
                        intro v25 ev25 lv25 uv25
                        refine zwic_ge (q := 234) (nx := 141) (by decide +kernel) (fun c26 => ?_) (fun c26 => ?_)
                        · refine zwW_inc (i := 2) (c := 1) (x := kL12) (nx := 237) (by decide +kernel) rfl (by first | omega | exact ⟨by omega, by omega⟩) (ls' := [(2, 37), (0, a), (0, (kL12 + 1)), (0, iL24)]) rfl ?_
                          refine zwW_p [(24, 92, 0)] (q := 92) (ls' := [(2, 37), (0, a), (0, (kL12 + 1)), (0, iL24)]) (st' := []) (by decide +kernel) rfl ?_
                          exact IHL12 ((100 - (kL12 + 1))).toNat (by omega) (kL12 + 1) (0, iL24) hL24 rfl (by omega) (by omega) ((iL24_2).s iL24_3 (by omega)) (by omega) IhL24 RhL24
                        · refine zwW_p [(1, 0, 2)] (q := 142) (ls' := [(2, 37), (0, a), (0, kL12), (0, iL24)]) (st' := [(2, 37)]) (by decide +kernel) rfl ?_
                          refine zwW_gc IhL24 (kd := 13) (bn := 84) (n := 97) (c := 191) (nx := 145) (by decide +kernel) ?_
                          refine zwW_p [(1, 2, 0)] (q := 146) (ls' := [(2, 37), (0, a), (0, kL12), (0, iL24)]) (st' := [(0, kL12), (2, 191)]) (by decide +kernel) rfl ?_
                          refine zwW_ro IhL24 (a := 191) (n := 6) (kd := 29) (base := 192) (step := 1) (nx := 147) (by decide +kernel) rfl (by first | omega | exact ⟨by omega, by omega⟩) ?_
                          rw [show ((192 : Nat) : Int) + ((1 : Nat) : Int) * kL12 = (192 + kL12) by omega]
                          refine zwW_p [(1, 3, 0), (1, 0, 2)] (q := 149) (ls' := [(2, 37), (0, a), (0, kL12), (0, iL24)]) (st' := [(2, 37), (0, iL24), (2, (192 + kL12))]) (by decide +kernel) rfl ?_
                          refine zwW_gc IhL24 (kd := 13) (bn := 80) (n := 97) (c := 187) (nx := 152) (by decide +kernel) ?_
                          refine zwW_p [(1, 2, 0)] (q := 153) (ls' := [(2, 37), (0, a), (0, kL12), (0, iL24)]) (st' := [(0, kL12), (2, 187), (0, iL24), (2, (192 + kL12))]) (by decide +kernel) rfl ?_
                          refine zwW_al IhL24 (a1 := 187) (a2 := 187) (kd := 20) (n := 6) (t := 0) (lo := -2147483648) (hi := 2147483647) (nx := 154) (by decide +kernel) (by first | decide | exact ⟨by decide, by decide⟩) ib1 ?_
                          intro v27 ev27 lv27 uv27
                          refine zwW_p [(0, 2, 0)] (q := 155) (ls' := [(2, 37), (0, a), (0, kL12), (0, iL24)]) (st' := [(0, 2), (0, v27), (0, iL24), (2, (192 + kL12))]) (by decide +kernel) rfl ?_
                          refine zwic_lt (q := 187) (nx := 158) (by decide +kernel) (fun c28 => ?_) (fun c28 => ?_)
                          · refine zwW_p [(0, 0, 0)] (q := 188) (ls' := [(2, 37), (0, a), (0, kL12), (0, iL24)]) (st' := [(0, 0), (0, iL24), (2, (192 + kL12))]) (by decide +kernel) rfl ?_
                            have ib4 : 0 ≤ iL24 ∧ iL24 < ((6 : Nat) : Int) := (by first | omega | exact ⟨by omega, by omega⟩)
                            refine zwW_asz IhL24 (a1 := 192) (a2 := 197) (n := 6) (nx := 189) (by decide +kernel) (by first | omega | exact ⟨by omega, by omega⟩) ib4 (by omega) ?_
                            intro h29 eh29 Ih29
                            have rbh29 : ((192 : Nat) : Int) ≤ (192 + kL12) ∧ (192 + kL12) ≤ ((197 : Nat) : Int) := (by first | omega | exact ⟨by omega, by omega⟩)
                            have jbh29 : 0 ≤ iL24.toNat ∧ iL24.toNat < 6 := ⟨Nat.zero_le _, zit ib4⟩
                            have th29_37_2 : fld h29 37 2 = fld hL24 37 2 := by rw [eh29]; exact fld_wr (Or.inl (zne_l (by decide) rbh29.1))
                            have th29_37_86 : fld h29 37 86 = fld hL24 37 86 := by rw [eh29]; exact fld_wr (Or.inl (zne_l (by decide) rbh29.1))
                            have th29_37_87 : fld h29 37 87 = fld hL24 37 87 := by rw [eh29]; exact fld_wr (Or.inl (zne_l (by decide) rbh29.1))
                            have Oh29 : zMR [(192, 197, 0, 6)] hL24 h29 := zMR.one rbh29 jbh29 eh29
                            have E188 : h29 = wr hL24 (192 + kL12) (iL24).toNat 0 := by rw [eh29, show (192 + kL12) = 192 + kL12 by omega]
                            have MRh29 := (iL24_3).s E188 (by omega) (IhL24.s (a1 := 192) (a2 := 197) (by decide +kernel) (by omega) (by omega)) (by omega) (by first | exact fun hq => absurd rfl hq | exact fun _ => J183)
                            have MYh29 := (iL24_2).w E188 (by omega)
                            have Rh29 : zMR ms148 h h29 := RhL24.w (a1 := 192) (a2 := 197) (j1 := 0) (j2 := 6) (by decide +kernel) rbh29 jbh29 eh29
                            refine zwW_p [(1, 0, 2)] (q := 190) (ls' := [(2, 37), (0, a), (0, kL12), (0, iL24)]) (st' := [(2, 37)]) (by decide +kernel) rfl ?_
                            refine zwW_gc Ih29 (kd := 13) (bn := 85) (n := 97) (c := 198) (nx := 193) (by decide +kernel) ?_
                            refine zwW_p [(1, 2, 0)] (q := 194) (ls' := [(2, 37), (0, a), (0, kL12), (0, iL24)]) (st' := [(0, kL12), (2, 198)]) (by decide +kernel) rfl ?_
                            refine zwW_ro Ih29 (a := 198) (n := 6) (kd := 26) (base := 199) (step := 1) (nx := 195) (by decide +kernel) rfl (by first | omega | exact ⟨by omega, by omega⟩) ?_
                            rw [show ((199 : Nat) : Int) + ((1 : Nat) : Int) * kL12 = (199 + kL12) by omega]
                            refine zwW_p [(1, 3, 0), (1, 0, 2), (1, 0, 2)] (q := 198) (ls' := [(2, 37), (0, a), (0, kL12), (0, iL24)]) (st' := [(2, 37), (2, 37), (0, iL24), (2, (199 + kL12))]) (by decide +kernel) rfl ?_
                            refine zwW_gc Ih29 (kd := 13) (bn := 20) (n := 97) (c := 79) (nx := 201) (by decide +kernel) ?_
                            refine zwW_p [(1, 0, 2)] (q := 202) (ls' := [(2, 37), (0, a), (0, kL12), (0, iL24)]) (st' := [(2, 37), (2, 79), (2, 37), (0, iL24), (2, (199 + kL12))]) (by decide +kernel) rfl ?_
                            refine zwW_gc Ih29 (kd := 13) (bn := 58) (n := 97) (c := 170) (nx := 205) (by decide +kernel) ?_
                            refine zwW_p [(1, 0, 2)] (q := 206) (ls' := [(2, 37), (0, a), (0, kL12), (0, iL24)]) (st' := [(2, 37), (2, 170), (2, 79), (2, 37), (0, iL24), (2, (199 + kL12))]) (by decide +kernel) rfl ?_
                            refine zwW_gc Ih29 (kd := 13) (bn := 79) (n := 97) (c := 186) (nx := 209) (by decide +kernel) ?_
                            refine zwW_p [(1, 2, 0)] (q := 210) (ls' := [(2, 37), (0, a), (0, kL12), (0, iL24)]) (st' := [(0, kL12), (2, 186), (2, 170), (2, 79), (2, 37), (0, iL24), (2, (199 + kL12))]) (by decide +kernel) rfl ?_
                            refine zwW_al Ih29 (a1 := 186) (a2 := 186) (kd := 20) (n := 6) (t := 0) (lo := 0) (hi := 299) (nx := 211) (by decide +kernel) (by first | decide | exact ⟨by decide, by decide⟩) ib1 ?_
                            intro v30 ev30 lv30 uv30
                            have ib5 : 0 ≤ v30 ∧ v30 < ((300 : Nat) : Int) := (by first | omega | exact ⟨by omega, by omega⟩)
                            refine zwW_al Ih29 (a1 := 170) (a2 := 170) (kd := 20) (n := 300) (t := 0) (lo := 0) (hi := 19) (nx := 212) (by decide +kernel) (by first | decide | exact ⟨by decide, by decide⟩) ib5 ?_
                            intro v31 ev31 lv31 uv31
                            have ib6 : 0 ≤ v31 ∧ v31 < ((20 : Nat) : Int) := (by first | omega | exact ⟨by omega, by omega⟩)
                            refine zwW_al Ih29 (a1 := 79) (a2 := 79) (kd := 20) (n := 20) (t := 0) (lo := 0) (hi := 7) (nx := 213) (by decide +kernel) (by first | decide | exact ⟨by decide, by decide⟩) ib6 ?_
                            intro v32 ev32 lv32 uv32
                            refine zwW_p [(1, 0, 2)] (q := 214) (ls' := [(2, 37), (0, a), (0, kL12), (0, iL24)]) (st' := [(2, 37), (0, v32), (2, 37), (0, iL24), (2, (199 + kL12))]) (by decide +kernel) rfl ?_
                            refine zwW_gc Ih29 (kd := 13) (bn := 20) (n := 97) (c := 79) (nx := 217) (by decide +kernel) ?_
                            refine zwW_p [(1, 0, 2)] (q := 218) (ls' := [(2, 37), (0, a), (0, kL12), (0, iL24)]) (st' := [(2, 37), (2, 79), (0, v32), (2, 37), (0, iL24), (2, (199 + kL12))]) (by decide +kernel) rfl ?_
                            refine zwW_gc Ih29 (kd := 13) (bn := 81) (n := 97) (c := 188) (nx := 221) (by decide +kernel) ?_
                            refine zwW_p [(1, 3, 0)] (q := 222) (ls' := [(2, 37), (0, a), (0, kL12), (0, iL24)]) (st' := [(0, iL24), (2, 188), (2, 79), (0, v32), (2, 37), (0, iL24), (2, (199 + kL12))]) (by decide +kernel) rfl ?_
                            refine zwW_al Ih29 (a1 := 188) (a2 := 188) (kd := 20) (n := 6) (t := 0) (lo := 0) (hi := 19) (nx := 223) (by decide +kernel) (by first | decide | exact ⟨by decide, by decide⟩) ib4 ?_
                            intro v33 ev33 lv33 uv33
                            have ib7 : 0 ≤ v33 ∧ v33 < ((20 : Nat) : Int) := (by first | omega | exact ⟨by omega, by omega⟩)
                            refine zwW_al Ih29 (a1 := 79) (a2 := 79) (kd := 20) (n := 20) (t := 0) (lo := 0) (hi := 7) (nx := 224) (by decide +kernel) (by first | decide | exact ⟨by decide, by decide⟩) ib7 ?_
                            intro v34 ev34 lv34 uv34
                            refine zwW_cm Ih29 (op := 60) (k' := 106) (n := 2) (kd := 13) (m := 97) (nx := 227) (r := 37) (tl := [(0, v32), (0, v34)]) (st' := [(0, iL24), (2, (199 + kL12))]) (by decide +kernel) rfl (by decide +kernel) rfl (m106 h29 Ih29 v32 v34 (by omega) (by omega)) ?_
                            rintro v35 h39 ⟨Ih39, Qh39, f36, f37, f38⟩
                            have Rh39 : zMR ms148 h h39 := Rh29.tr Qh39 (by decide +kernel)
                            have MYh39 := MYh29.mr Qh39 (by decide +kernel)
                            have MRh39 := MRh29.mr Qh39 (by decide +kernel)
                            have th39_37_2 : fld h39 37 2 = fld h29 37 2 := Qh39.f (a1 := 37) (a2 := 37) (j1 := 2) (j2 := 3) (by decide +kernel) (by first | decide | exact ⟨by decide, by decide⟩) (by first | decide | exact ⟨by decide, by decide⟩)
                            have th39_37_86 : fld h39 37 86 = fld h29 37 86 := Qh39.f (a1 := 37) (a2 := 37) (j1 := 86) (j2 := 87) (by decide +kernel) (by first | decide | exact ⟨by decide, by decide⟩) (by first | decide | exact ⟨by decide, by decide⟩)
                            have th39_37_87 : fld h39 37 87 = fld h29 37 87 := Qh39.f (a1 := 37) (a2 := 37) (j1 := 87) (j2 := 88) (by decide +kernel) (by first | decide | exact ⟨by decide, by decide⟩) (by first | decide | exact ⟨by decide, by decide⟩)
                            refine zwW_as Ih39 (a1 := 199) (a2 := 204) (n := 6) (lo := -1) (hi := 4608) (nx := 228) (by decide +kernel) (by first | omega | exact ⟨by omega, by omega⟩) ib4 (by first | omega | exact ⟨by omega, by omega⟩) ?_
                            intro h40 eh40 Ih40
                            have rbh40 : ((199 : Nat) : Int) ≤ (199 + kL12) ∧ (199 + kL12) ≤ ((204 : Nat) : Int) := (by first | omega | exact ⟨by omega, by omega⟩)
                            have jbh40 : 0 ≤ iL24.toNat ∧ iL24.toNat < 6 := ⟨Nat.zero_le _, zit ib4⟩
                            have th40_37_2 : fld h40 37 2 = fld h39 37 2 := by rw [eh40]; exact fld_wr (Or.inl (zne_l (by decide) rbh40.1))
                            have th40_37_86 : fld h40 37 86 = fld h39 37 86 := by rw [eh40]; exact fld_wr (Or.inl (zne_l (by decide) rbh40.1))
                            have th40_37_87 : fld h40 37 87 = fld h39 37 87 := by rw [eh40]; exact fld_wr (Or.inl (zne_l (by decide) rbh40.1))
                            have Oh40 : zMR [(199, 204, 0, 6)] h39 h40 := zMR.one rbh40 jbh40 eh40
                            have MYh40 := MYh39.mr Oh40 (by decide +kernel)
                            have MRh40 := MRh39.mr Oh40 (by decide +kernel)
                            have Rh40 : zMR ms148 h h40 := Rh39.w (a1 := 199) (a2 := 204) (j1 := 0) (j2 := 6) (by decide +kernel) rbh40 jbh40 eh40
                            refine zwW_inc (i := 3) (c := 1) (x := iL24) (nx := 231) (by decide +kernel) rfl (by first | omega | exact ⟨by omega, by omega⟩) (ls' := [(2, 37), (0, a), (0, kL12), (0, (iL24 + 1))]) rfl ?_
                            refine zwW_p [(24, 133, 0)] (q := 133) (ls' := [(2, 37), (0, a), (0, kL12), (0, (iL24 + 1))]) (st' := []) (by decide +kernel) rfl ?_
                            exact IHL24 ((100 - (iL24 + 1))).toNat (by omega) (iL24 + 1) h40 rfl (by omega) (by omega) (MYh40) (MRh40) (by omega) Ih40 Rh40
                          · refine zwW_p [(1, 0, 2), (1, 0, 2)] (q := 160) (ls' := [(2, 37), (0, a), (0, kL12), (0, iL24)]) (st' := [(2, 37), (2, 37), (0, iL24), (2, (192 + kL12))]) (by decide +kernel) rfl ?_
                            refine zwW_gc IhL24 (kd := 13) (bn := 81) (n := 97) (c := 188) (nx := 163) (by decide +kernel) ?_
                            refine zwW_p [(1, 3, 0)] (q := 164) (ls' := [(2, 37), (0, a), (0, kL12), (0, iL24)]) (st' := [(0, iL24), (2, 188), (2, 37), (0, iL24), (2, (192 + kL12))]) (by decide +kernel) rfl ?_
                            have ib8 : 0 ≤ iL24 ∧ iL24 < ((6 : Nat) : Int) := (by first | omega | exact ⟨by omega, by omega⟩)
                            refine zwW_al IhL24 (a1 := 188) (a2 := 188) (kd := 20) (n := 6) (t := 0) (lo := 0) (hi := 19) (nx := 165) (by decide +kernel) (by first | decide | exact ⟨by decide, by decide⟩) ib8 ?_
                            intro v41 ev41 lv41 uv41
                            refine zwW_p [(1, 0, 2)] (q := 166) (ls' := [(2, 37), (0, a), (0, kL12), (0, iL24)]) (st' := [(2, 37), (0, v41), (2, 37), (0, iL24), (2, (192 + kL12))]) (by decide +kernel) rfl ?_
                            refine zwW_gc IhL24 (kd := 13) (bn := 79) (n := 97) (c := 186) (nx := 169) (by decide +kernel) ?_
                            refine zwW_p [(1, 2, 0)] (q := 170) (ls' := [(2, 37), (0, a), (0, kL12), (0, iL24)]) (st' := [(0, kL12), (2, 186), (0, v41), (2, 37), (0, iL24), (2, (192 + kL12))]) (by decide +kernel) rfl ?_
                            refine zwW_al IhL24 (a1 := 186) (a2 := 186) (kd := 20) (n := 6) (t := 0) (lo := 0) (hi := 299) (nx := 171) (by decide +kernel) (by first | decide | exact ⟨by decide, by decide⟩) ib1 ?_
                            intro v42 ev42 lv42 uv42
                            refine zwW_p [(1, 0, 2)] (q := 172) (ls' := [(2, 37), (0, a), (0, kL12), (0, iL24)]) (st' := [(2, 37), (0, v42), (0, v41), (2, 37), (0, iL24), (2, (192 + kL12))]) (by decide +kernel) rfl ?_
                            refine zwW_gc IhL24 (kd := 13) (bn := 80) (n := 97) (c := 187) (nx := 175) (by decide +kernel) ?_
                            refine zwW_p [(1, 2, 0)] (q := 176) (ls' := [(2, 37), (0, a), (0, kL12), (0, iL24)]) (st' := [(0, kL12), (2, 187), (0, v42), (0, v41), (2, 37), (0, iL24), (2, (192 + kL12))]) (by decide +kernel) rfl ?_
                            refine zwW_al IhL24 (a1 := 187) (a2 := 187) (kd := 20) (n := 6) (t := 0) (lo := -2147483648) (hi := 2147483647) (nx := 177) (by decide +kernel) (by first | decide | exact ⟨by decide, by decide⟩) ib1 ?_
                            intro v43 ev43 lv43 uv43
                            have xh177 : v41 = fld hL24 188 (iL24).toNat := by omega
                            refine zwW_cm IhL24 (op := 60) (k' := 208) (n := 3) (kd := 13) (m := 97) (nx := 180) (r := 37) (tl := [(0, v41), (0, v42), (0, v43)]) (st' := [(0, iL24), (2, (192 + kL12))]) (by decide +kernel) rfl (by decide +kernel) rfl (m208 hL24 IhL24 v41 v42 v43 (by omega) (by omega) (by omega) (by omega) (by omega) (hW.mr I RhL24 (by decide +kernel))) ?_
                            rintro v44 h48 ⟨Ih48, Qh48, f45, f46, f47⟩
                            have Rh48 : zMR ms148 h h48 := RhL24.tr Qh48 (by decide +kernel)
                            have MYh48 := iL24_2.mr Qh48 (by decide +kernel)
                            have MRh48 := iL24_3.mr Qh48 (by decide +kernel)
                            have th48_37_2 : fld h48 37 2 = fld hL24 37 2 := Qh48.f (a1 := 37) (a2 := 37) (j1 := 2) (j2 := 3) (by decide +kernel) (by first | decide | exact ⟨by decide, by decide⟩) (by first | decide | exact ⟨by decide, by decide⟩)
                            have th48_37_86 : fld h48 37 86 = fld hL24 37 86 := Qh48.f (a1 := 37) (a2 := 37) (j1 := 86) (j2 := 87) (by decide +kernel) (by first | decide | exact ⟨by decide, by decide⟩) (by first | decide | exact ⟨by decide, by decide⟩)
                            have th48_37_87 : fld h48 37 87 = fld hL24 37 87 := Qh48.f (a1 := 37) (a2 := 37) (j1 := 87) (j2 := 88) (by decide +kernel) (by first | decide | exact ⟨by decide, by decide⟩) (by first | decide | exact ⟨by decide, by decide⟩)
                            have Q177 : fld h48 91 = fld hL24 91 := Qh48.rg (a := 91) (b := 91) (by decide +kernel) (r := 91) (by decide) (by decide)
                            have T177 : fld h48 188 = fld hL24 188 := Qh48.rg (a := 188) (b := 188) (by decide +kernel) (r := 188) (by decide) (by decide)
                            have U177 := f47
                            refine zwif_ne (q := 187) (nx := 183) (by decide +kernel) (fun c49 => ?_) (fun c49 => ?_)
                            · refine zwW_p [(0, 0, 0)] (q := 188) (ls' := [(2, 37), (0, a), (0, kL12), (0, iL24)]) (st' := [(0, 0), (0, iL24), (2, (192 + kL12))]) (by decide +kernel) rfl ?_
                              refine zwW_asz Ih48 (a1 := 192) (a2 := 197) (n := 6) (nx := 189) (by decide +kernel) (by first | omega | exact ⟨by omega, by omega⟩) ib8 (by omega) ?_
                              intro h50 eh50 Ih50
                              have rbh50 : ((192 : Nat) : Int) ≤ (192 + kL12) ∧ (192 + kL12) ≤ ((197 : Nat) : Int) := (by first | omega | exact ⟨by omega, by omega⟩)
                              have jbh50 : 0 ≤ iL24.toNat ∧ iL24.toNat < 6 := ⟨Nat.zero_le _, zit ib8⟩
                              have th50_37_2 : fld h50 37 2 = fld h48 37 2 := by rw [eh50]; exact fld_wr (Or.inl (zne_l (by decide) rbh50.1))
                              have th50_37_86 : fld h50 37 86 = fld h48 37 86 := by rw [eh50]; exact fld_wr (Or.inl (zne_l (by decide) rbh50.1))
                              have th50_37_87 : fld h50 37 87 = fld h48 37 87 := by rw [eh50]; exact fld_wr (Or.inl (zne_l (by decide) rbh50.1))
                              have Oh50 : zMR [(192, 197, 0, 6)] h48 h50 := zMR.one rbh50 jbh50 eh50
                              have E188 : h50 = wr h48 (192 + kL12) (iL24).toNat 0 := by rw [eh50, show (192 + kL12) = 192 + kL12 by omega]
                              have MRh50 := (MRh48).s E188 (by omega) (Ih48.s (a1 := 192) (a2 := 197) (by decide +kernel) (by omega) (by omega)) (by omega) (by first | exact fun hq => absurd rfl hq | exact fun _ => J183)
                              have MYh50 := (MYh48).w E188 (by omega)
                              have Rh50 : zMR ms148 h h50 := Rh48.w (a1 := 192) (a2 := 197) (j1 := 0) (j2 := 6) (by decide +kernel) rbh50 jbh50 eh50
                              refine zwW_p [(1, 0, 2)] (q := 190) (ls' := [(2, 37), (0, a), (0, kL12), (0, iL24)]) (st' := [(2, 37)]) (by decide +kernel) rfl ?_
                              refine zwW_gc Ih50 (kd := 13) (bn := 85) (n := 97) (c := 198) (nx := 193) (by decide +kernel) ?_
                              refine zwW_p [(1, 2, 0)] (q := 194) (ls' := [(2, 37), (0, a), (0, kL12), (0, iL24)]) (st' := [(0, kL12), (2, 198)]) (by decide +kernel) rfl ?_
                              refine zwW_ro Ih50 (a := 198) (n := 6) (kd := 26) (base := 199) (step := 1) (nx := 195) (by decide +kernel) rfl (by first | omega | exact ⟨by omega, by omega⟩) ?_
                              rw [show ((199 : Nat) : Int) + ((1 : Nat) : Int) * kL12 = (199 + kL12) by omega]
                              refine zwW_p [(1, 3, 0), (1, 0, 2), (1, 0, 2)] (q := 198) (ls' := [(2, 37), (0, a), (0, kL12), (0, iL24)]) (st' := [(2, 37), (2, 37), (0, iL24), (2, (199 + kL12))]) (by decide +kernel) rfl ?_
                              refine zwW_gc Ih50 (kd := 13) (bn := 20) (n := 97) (c := 79) (nx := 201) (by decide +kernel) ?_
                              refine zwW_p [(1, 0, 2)] (q := 202) (ls' := [(2, 37), (0, a), (0, kL12), (0, iL24)]) (st' := [(2, 37), (2, 79), (2, 37), (0, iL24), (2, (199 + kL12))]) (by decide +kernel) rfl ?_
                              refine zwW_gc Ih50 (kd := 13) (bn := 58) (n := 97) (c := 170) (nx := 205) (by decide +kernel) ?_
                              refine zwW_p [(1, 0, 2)] (q := 206) (ls' := [(2, 37), (0, a), (0, kL12), (0, iL24)]) (st' := [(2, 37), (2, 170), (2, 79), (2, 37), (0, iL24), (2, (199 + kL12))]) (by decide +kernel) rfl ?_
                              refine zwW_gc Ih50 (kd := 13) (bn := 79) (n := 97) (c := 186) (nx := 209) (by decide +kernel) ?_
                              refine zwW_p [(1, 2, 0)] (q := 210) (ls' := [(2, 37), (0, a), (0, kL12), (0, iL24)]) (st' := [(0, kL12), (2, 186), (2, 170), (2, 79), (2, 37), (0, iL24), (2, (199 + kL12))]) (by decide +kernel) rfl ?_
                              refine zwW_al Ih50 (a1 := 186) (a2 := 186) (kd := 20) (n := 6) (t := 0) (lo := 0) (hi := 299) (nx := 211) (by decide +kernel) (by first | decide | exact ⟨by decide, by decide⟩) ib1 ?_
                              intro v51 ev51 lv51 uv51
                              have ib9 : 0 ≤ v51 ∧ v51 < ((300 : Nat) : Int) := (by first | omega | exact ⟨by omega, by omega⟩)
                              refine zwW_al Ih50 (a1 := 170) (a2 := 170) (kd := 20) (n := 300) (t := 0) (lo := 0) (hi := 19) (nx := 212) (by decide +kernel) (by first | decide | exact ⟨by decide, by decide⟩) ib9 ?_
                              intro v52 ev52 lv52 uv52
                              have ib10 : 0 ≤ v52 ∧ v52 < ((20 : Nat) : Int) := (by first | omega | exact ⟨by omega, by omega⟩)
                              refine zwW_al Ih50 (a1 := 79) (a2 := 79) (kd := 20) (n := 20) (t := 0) (lo := 0) (hi := 7) (nx := 213) (by decide +kernel) (by first | decide | exact ⟨by decide, by decide⟩) ib10 ?_
                              intro v53 ev53 lv53 uv53
                              refine zwW_p [(1, 0, 2)] (q := 214) (ls' := [(2, 37), (0, a), (0, kL12), (0, iL24)]) (st' := [(2, 37), (0, v53), (2, 37), (0, iL24), (2, (199 + kL12))]) (by decide +kernel) rfl ?_
                              refine zwW_gc Ih50 (kd := 13) (bn := 20) (n := 97) (c := 79) (nx := 217) (by decide +kernel) ?_
                              refine zwW_p [(1, 0, 2)] (q := 218) (ls' := [(2, 37), (0, a), (0, kL12), (0, iL24)]) (st' := [(2, 37), (2, 79), (0, v53), (2, 37), (0, iL24), (2, (199 + kL12))]) (by decide +kernel) rfl ?_
                              refine zwW_gc Ih50 (kd := 13) (bn := 81) (n := 97) (c := 188) (nx := 221) (by decide +kernel) ?_
                              refine zwW_p [(1, 3, 0)] (q := 222) (ls' := [(2, 37), (0, a), (0, kL12), (0, iL24)]) (st' := [(0, iL24), (2, 188), (2, 79), (0, v53), (2, 37), (0, iL24), (2, (199 + kL12))]) (by decide +kernel) rfl ?_
                              refine zwW_al Ih50 (a1 := 188) (a2 := 188) (kd := 20) (n := 6) (t := 0) (lo := 0) (hi := 19) (nx := 223) (by decide +kernel) (by first | decide | exact ⟨by decide, by decide⟩) ib8 ?_
                              intro v54 ev54 lv54 uv54
                              have ib11 : 0 ≤ v54 ∧ v54 < ((20 : Nat) : Int) := (by first | omega | exact ⟨by omega, by omega⟩)
                              refine zwW_al Ih50 (a1 := 79) (a2 := 79) (kd := 20) (n := 20) (t := 0) (lo := 0) (hi := 7) (nx := 224) (by decide +kernel) (by first | decide | exact ⟨by decide, by decide⟩) ib11 ?_
                              intro v55 ev55 lv55 uv55
                              refine zwW_cm Ih50 (op := 60) (k' := 106) (n := 2) (kd := 13) (m := 97) (nx := 227) (r := 37) (tl := [(0, v53), (0, v55)]) (st' := [(0, iL24), (2, (199 + kL12))]) (by decide +kernel) rfl (by decide +kernel) rfl (m106 h50 Ih50 v53 v55 (by omega) (by omega)) ?_
                              rintro v56 h60 ⟨Ih60, Qh60, f57, f58, f59⟩
                              have Rh60 : zMR ms148 h h60 := Rh50.tr Qh60 (by decide +kernel)
                              have MYh60 := MYh50.mr Qh60 (by decide +kernel)
                              have MRh60 := MRh50.mr Qh60 (by decide +kernel)
                              have th60_37_2 : fld h60 37 2 = fld h50 37 2 := Qh60.f (a1 := 37) (a2 := 37) (j1 := 2) (j2 := 3) (by decide +kernel) (by first | decide | exact ⟨by decide, by decide⟩) (by first | decide | exact ⟨by decide, by decide⟩)
                              have th60_37_86 : fld h60 37 86 = fld h50 37 86 := Qh60.f (a1 := 37) (a2 := 37) (j1 := 86) (j2 := 87) (by decide +kernel) (by first | decide | exact ⟨by decide, by decide⟩) (by first | decide | exact ⟨by decide, by decide⟩)
                              have th60_37_87 : fld h60 37 87 = fld h50 37 87 := Qh60.f (a1 := 37) (a2 := 37) (j1 := 87) (j2 := 88) (by decide +kernel) (by first | decide | exact ⟨by decide, by decide⟩) (by first | decide | exact ⟨by decide, by decide⟩)
                              refine zwW_as Ih60 (a1 := 199) (a2 := 204) (n := 6) (lo := -1) (hi := 4608) (nx := 228) (by decide +kernel) (by first | omega | exact ⟨by omega, by omega⟩) ib8 (by first | omega | exact ⟨by omega, by omega⟩) ?_
                              intro h61 eh61 Ih61
                              have rbh61 : ((199 : Nat) : Int) ≤ (199 + kL12) ∧ (199 + kL12) ≤ ((204 : Nat) : Int) := (by first | omega | exact ⟨by omega, by omega⟩)
                              have jbh61 : 0 ≤ iL24.toNat ∧ iL24.toNat < 6 := ⟨Nat.zero_le _, zit ib8⟩
                              have th61_37_2 : fld h61 37 2 = fld h60 37 2 := by rw [eh61]; exact fld_wr (Or.inl (zne_l (by decide) rbh61.1))
                              have th61_37_86 : fld h61 37 86 = fld h60 37 86 := by rw [eh61]; exact fld_wr (Or.inl (zne_l (by decide) rbh61.1))
                              have th61_37_87 : fld h61 37 87 = fld h60 37 87 := by rw [eh61]; exact fld_wr (Or.inl (zne_l (by decide) rbh61.1))
                              have Oh61 : zMR [(199, 204, 0, 6)] h60 h61 := zMR.one rbh61 jbh61 eh61
                              have MYh61 := MYh60.mr Oh61 (by decide +kernel)
                              have MRh61 := MRh60.mr Oh61 (by decide +kernel)
                              have Rh61 : zMR ms148 h h61 := Rh60.w (a1 := 199) (a2 := 204) (j1 := 0) (j2 := 6) (by decide +kernel) rbh61 jbh61 eh61
                              refine zwW_inc (i := 3) (c := 1) (x := iL24) (nx := 231) (by decide +kernel) rfl (by first | omega | exact ⟨by omega, by omega⟩) (ls' := [(2, 37), (0, a), (0, kL12), (0, (iL24 + 1))]) rfl ?_
                              refine zwW_p [(24, 133, 0)] (q := 133) (ls' := [(2, 37), (0, a), (0, kL12), (0, (iL24 + 1))]) (st' := []) (by decide +kernel) rfl ?_
                              exact IHL24 ((100 - (iL24 + 1))).toNat (by omega) (iL24 + 1) h61 rfl (by omega) (by omega) (MYh61) (MRh61) (by omega) Ih61 Rh61
                            · have J183 : 0 < fld h48 91 (fld h48 188 (iL24).toNat).toNat := by rw [Q177, T177, ← xh177]; exact U177 (by omega)
                              refine zwW_p [(0, 1, 0), (24, 188, 0)] (q := 188) (ls' := [(2, 37), (0, a), (0, kL12), (0, iL24)]) (st' := [(0, 1), (0, iL24), (2, (192 + kL12))]) (by decide +kernel) rfl ?_
                              refine zwW_asz Ih48 (a1 := 192) (a2 := 197) (n := 6) (nx := 189) (by decide +kernel) (by first | omega | exact ⟨by omega, by omega⟩) ib8 (by omega) ?_
                              intro h62 eh62 Ih62
                              have rbh62 : ((192 : Nat) : Int) ≤ (192 + kL12) ∧ (192 + kL12) ≤ ((197 : Nat) : Int) := (by first | omega | exact ⟨by omega, by omega⟩)
                              have jbh62 : 0 ≤ iL24.toNat ∧ iL24.toNat < 6 := ⟨Nat.zero_le _, zit ib8⟩
                              have th62_37_2 : fld h62 37 2 = fld h48 37 2 := by rw [eh62]; exact fld_wr (Or.inl (zne_l (by decide) rbh62.1))
                              have th62_37_86 : fld h62 37 86 = fld h48 37 86 := by rw [eh62]; exact fld_wr (Or.inl (zne_l (by decide) rbh62.1))
                              have th62_37_87 : fld h62 37 87 = fld h48 37 87 := by rw [eh62]; exact fld_wr (Or.inl (zne_l (by decide) rbh62.1))
                              have Oh62 : zMR [(192, 197, 0, 6)] h48 h62 := zMR.one rbh62 jbh62 eh62
                              have E188 : h62 = wr h48 (192 + kL12) (iL24).toNat 1 := by rw [eh62, show (192 + kL12) = 192 + kL12 by omega]
                              have MRh62 := (MRh48).s E188 (by omega) (Ih48.s (a1 := 192) (a2 := 197) (by decide +kernel) (by omega) (by omega)) (by omega) (by first | exact fun hq => absurd rfl hq | exact fun _ => J183)
                              have MYh62 := (MYh48).w E188 (by omega)
                              have Rh62 : zMR ms148 h h62 := Rh48.w (a1 := 192) (a2 := 197) (j1 := 0) (j2 := 6) (by decide +kernel) rbh62 jbh62 eh62
                              refine zwW_p [(1, 0, 2)] (q := 190) (ls' := [(2, 37), (0, a), (0, kL12), (0, iL24)]) (st' := [(2, 37)]) (by decide +kernel) rfl ?_
                              refine zwW_gc Ih62 (kd := 13) (bn := 85) (n := 97) (c := 198) (nx := 193) (by decide +kernel) ?_
                              refine zwW_p [(1, 2, 0)] (q := 194) (ls' := [(2, 37), (0, a), (0, kL12), (0, iL24)]) (st' := [(0, kL12), (2, 198)]) (by decide +kernel) rfl ?_
                              refine zwW_ro Ih62 (a := 198) (n := 6) (kd := 26) (base := 199) (step := 1) (nx := 195) (by decide +kernel) rfl (by first | omega | exact ⟨by omega, by omega⟩) ?_
                              rw [show ((199 : Nat) : Int) + ((1 : Nat) : Int) * kL12 = (199 + kL12) by omega]
                              refine zwW_p [(1, 3, 0), (1, 0, 2), (1, 0, 2)] (q := 198) (ls' := [(2, 37), (0, a), (0, kL12), (0, iL24)]) (st' := [(2, 37), (2, 37), (0, iL24), (2, (199 + kL12))]) (by decide +kernel) rfl ?_
                              refine zwW_gc Ih62 (kd := 13) (bn := 20) (n := 97) (c := 79) (nx := 201) (by decide +kernel) ?_
                              refine zwW_p [(1, 0, 2)] (q := 202) (ls' := [(2, 37), (0, a), (0, kL12), (0, iL24)]) (st' := [(2, 37), (2, 79), (2, 37), (0, iL24), (2, (199 + kL12))]) (by decide +kernel) rfl ?_
                              refine zwW_gc Ih62 (kd := 13) (bn := 58) (n := 97) (c := 170) (nx := 205) (by decide +kernel) ?_
                              refine zwW_p [(1, 0, 2)] (q := 206) (ls' := [(2, 37), (0, a), (0, kL12), (0, iL24)]) (st' := [(2, 37), (2, 170), (2, 79), (2, 37), (0, iL24), (2, (199 + kL12))]) (by decide +kernel) rfl ?_
                              refine zwW_gc Ih62 (kd := 13) (bn := 79) (n := 97) (c := 186) (nx := 209) (by decide +kernel) ?_
                              refine zwW_p [(1, 2, 0)] (q := 210) (ls' := [(2, 37), (0, a), (0, kL12), (0, iL24)]) (st' := [(0, kL12), (2, 186), (2, 170), (2, 79), (2, 37), (0, iL24), (2, (199 + kL12))]) (by decide +kernel) rfl ?_
                              refine zwW_al Ih62 (a1 := 186) (a2 := 186) (kd := 20) (n := 6) (t := 0) (lo := 0) (hi := 299) (nx := 211) (by decide +kernel) (by first | decide | exact ⟨by decide, by decide⟩) ib1 ?_
                              intro v63 ev63 lv63 uv63
                              have ib12 : 0 ≤ v63 ∧ v63 < ((300 : Nat) : Int) := (by first | omega | exact ⟨by omega, by omega⟩)
                              refine zwW_al Ih62 (a1 := 170) (a2 := 170) (kd := 20) (n := 300) (t := 0) (lo := 0) (hi := 19) (nx := 212) (by decide +kernel) (by first | decide | exact ⟨by decide, by decide⟩) ib12 ?_
                              intro v64 ev64 lv64 uv64
                              have ib13 : 0 ≤ v64 ∧ v64 < ((20 : Nat) : Int) := (by first | omega | exact ⟨by omega, by omega⟩)
                              refine zwW_al Ih62 (a1 := 79) (a2 := 79) (kd := 20) (n := 20) (t := 0) (lo := 0) (hi := 7) (nx := 213) (by decide +kernel) (by first | decide | exact ⟨by decide, by decide⟩) ib13 ?_
                              intro v65 ev65 lv65 uv65
                              refine zwW_p [(1, 0, 2)] (q := 214) (ls' := [(2, 37), (0, a), (0, kL12), (0, iL24)]) (st' := [(2, 37), (0, v65), (2, 37), (0, iL24), (2, (199 + kL12))]) (by decide +kernel) rfl ?_
                              refine zwW_gc Ih62 (kd := 13) (bn := 20) (n := 97) (c := 79) (nx := 217) (by decide +kernel) ?_
                              refine zwW_p [(1, 0, 2)] (q := 218) (ls' := [(2, 37), (0, a), (0, kL12), (0, iL24)]) (st' := [(2, 37), (2, 79), (0, v65), (2, 37), (0, iL24), (2, (199 + kL12))]) (by decide +kernel) rfl ?_
                              refine zwW_gc Ih62 (kd := 13) (bn := 81) (n := 97) (c := 188) (nx := 221) (by decide +kernel) ?_
                              refine zwW_p [(1, 3, 0)] (q := 222) (ls' := [(2, 37), (0, a), (0, kL12), (0, iL24)]) (st' := [(0, iL24), (2, 188), (2, 79), (0, v65), (2, 37), (0, iL24), (2, (199 + kL12))]) (by decide +kernel) rfl ?_
                              refine zwW_al Ih62 (a1 := 188) (a2 := 188) (kd := 20) (n := 6) (t := 0) (lo := 0) (hi := 19) (nx := 223) (by decide +kernel) (by first | decide | exact ⟨by decide, by decide⟩) ib8 ?_
                              intro v66 ev66 lv66 uv66
                              have ib14 : 0 ≤ v66 ∧ v66 < ((20 : Nat) : Int) := (by first | omega | exact ⟨by omega, by omega⟩)
                              refine zwW_al Ih62 (a1 := 79) (a2 := 79) (kd := 20) (n := 20) (t := 0) (lo := 0) (hi := 7) (nx := 224) (by decide +kernel) (by first | decide | exact ⟨by decide, by decide⟩) ib14 ?_
                              intro v67 ev67 lv67 uv67
                              refine zwW_cm Ih62 (op := 60) (k' := 106) (n := 2) (kd := 13) (m := 97) (nx := 227) (r := 37) (tl := [(0, v65), (0, v67)]) (st' := [(0, iL24), (2, (199 + kL12))]) (by decide +kernel) rfl (by decide +kernel) rfl (m106 h62 Ih62 v65 v67 (by omega) (by omega)) ?_
                              rintro v68 h72 ⟨Ih72, Qh72, f69, f70, f71⟩
                              have Rh72 : zMR ms148 h h72 := Rh62.tr Qh72 (by decide +kernel)
                              have MYh72 := MYh62.mr Qh72 (by decide +kernel)
                              have MRh72 := MRh62.mr Qh72 (by decide +kernel)
                              have th72_37_2 : fld h72 37 2 = fld h62 37 2 := Qh72.f (a1 := 37) (a2 := 37) (j1 := 2) (j2 := 3) (by decide +kernel) (by first | decide | exact ⟨by decide, by decide⟩) (by first | decide | exact ⟨by decide, by decide⟩)
                              have th72_37_86 : fld h72 37 86 = fld h62 37 86 := Qh72.f (a1 := 37) (a2 := 37) (j1 := 86) (j2 := 87) (by decide +kernel) (by first | decide | exact ⟨by decide, by decide⟩) (by first | decide | exact ⟨by decide, by decide⟩)
                              have th72_37_87 : fld h72 37 87 = fld h62 37 87 := Qh72.f (a1 := 37) (a2 := 37) (j1 := 87) (j2 := 88) (by decide +kernel) (by first | decide | exact ⟨by decide, by decide⟩) (by first | decide | exact ⟨by decide, by decide⟩)
                              refine zwW_as Ih72 (a1 := 199) (a2 := 204) (n := 6) (lo := -1) (hi := 4608) (nx := 228) (by decide +kernel) (by first | omega | exact ⟨by omega, by omega⟩) ib8 (by first | omega | exact ⟨by omega, by omega⟩) ?_
                              intro h73 eh73 Ih73
                              have rbh73 : ((199 : Nat) : Int) ≤ (199 + kL12) ∧ (199 + kL12) ≤ ((204 : Nat) : Int) := (by first | omega | exact ⟨by omega, by omega⟩)
                              have jbh73 : 0 ≤ iL24.toNat ∧ iL24.toNat < 6 := ⟨Nat.zero_le _, zit ib8⟩
                              have th73_37_2 : fld h73 37 2 = fld h72 37 2 := by rw [eh73]; exact fld_wr (Or.inl (zne_l (by decide) rbh73.1))
                              have th73_37_86 : fld h73 37 86 = fld h72 37 86 := by rw [eh73]; exact fld_wr (Or.inl (zne_l (by decide) rbh73.1))
                              have th73_37_87 : fld h73 37 87 = fld h72 37 87 := by rw [eh73]; exact fld_wr (Or.inl (zne_l (by decide) rbh73.1))
                              have Oh73 : zMR [(199, 204, 0, 6)] h72 h73 := zMR.one rbh73 jbh73 eh73
                              have MYh73 := MYh72.mr Oh73 (by decide +kernel)
                              have MRh73 := MRh72.mr Oh73 (by decide +kernel)
                              have Rh73 : zMR ms148 h h73 := Rh72.w (a1 := 199) (a2 := 204) (j1 := 0) (j2 := 6) (by decide +kernel) rbh73 jbh73 eh73
                              refine zwW_inc (i := 3) (c := 1) (x := iL24) (nx := 231) (by decide +kernel) rfl (by first | omega | exact ⟨by omega, by omega⟩) (ls' := [(2, 37), (0, a), (0, kL12), (0, (iL24 + 1))]) rfl ?_
                              refine zwW_p [(24, 133, 0)] (q := 133) (ls' := [(2, 37), (0, a), (0, kL12), (0, (iL24 + 1))]) (st' := []) (by decide +kernel) rfl ?_
                              exact IHL24 ((100 - (iL24 + 1))).toNat (by omega) (iL24 + 1) h73 rfl (by omega) (by omega) (MYh73) (MRh73) (by omega) Ih73 Rh73
                    exact L24 _ 0 h23 rfl (by omega) (by omega) (MYh23) (⟨by omega, fun i hi => by omega⟩) (by omega) Ih23 Rh23
              exact L12 _ 0 (9, 0) hL9 rfl (by omega) (by omega) (⟨by omega, fun k i hk => by omega⟩) (by omega) IhL9 RhL9
            · refine zwW_p [(1, 1, 0), (1, 2, 0)] (q := 44) (ls' := [(2, 37), (0, a), (0, qL9), (9, 0)]) (st' := [(0, qL9), (0, a)]) (by decide +kernel) rfl ?_
              refine zwW_any2 (a := 9) (nx := 45) (by decide +kernel) rfl (by first | omega | exact ⟨by omega, by omega⟩) (Or.inr (by first | decide | exact ⟨by decide, by decide⟩)) ?_
              intro v74 lv74 uv74
              refine zwW_p [(0, 1, 0)] (q := 46) (ls' := [(2, 37), (0, a), (0, qL9), (9, 0)]) (st' := [(0, 1), (0, v74)]) (by decide +kernel) rfl ?_
              refine zwW_any2 (a := 5) (nx := 47) (by decide +kernel) rfl (by first | omega | exact ⟨by omega, by omega⟩) (Or.inr (by first | decide | exact ⟨by decide, by decide⟩)) ?_
              intro v75 lv75 uv75
              refine zwif_ne (q := 53) (nx := 50) (by decide +kernel) (fun c76 => ?_) (fun c76 => ?_)
              · refine zwW_p [(1, 0, 2)] (q := 54) (ls' := [(2, 37), (0, a), (0, qL9), (9, 0)]) (st' := [(2, 37)]) (by decide +kernel) rfl ?_
                refine zwW_gs IhL9 (kd := 13) (bn := 87) (n := 97) (t := 0) (lo := 0) (hi := 6) (nx := 57) (by decide +kernel) ?_
                intro v77 ev77 lv77 uv77
                refine zwW_p [(0, 6, 0)] (q := 59) (ls' := [(2, 37), (0, a), (0, qL9), (9, 0)]) (st' := [(0, 6), (0, v77)]) (by decide +kernel) rfl ?_
                refine zwic_ne (q := 64) (nx := 62) (by decide +kernel) (fun c78 => ?_) (fun c78 => ?_)
                · refine zwW_p [(1, 0, 2)] (q := 65) (ls' := [(2, 37), (0, a), (0, qL9), (9, 0)]) (st' := [(2, 37)]) (by decide +kernel) rfl ?_
                  refine zwW_gc IhL9 (kd := 13) (bn := 81) (n := 97) (c := 188) (nx := 68) (by decide +kernel) ?_
                  refine zwW_p [(1, 0, 2)] (q := 69) (ls' := [(2, 37), (0, a), (0, qL9), (9, 0)]) (st' := [(2, 37), (2, 188)]) (by decide +kernel) rfl ?_
                  refine zwW_gs IhL9 (kd := 13) (bn := 87) (n := 97) (t := 0) (lo := 0) (hi := 6) (nx := 72) (by decide +kernel) ?_
                  intro v79 ev79 lv79 uv79
                  refine zwW_p [(1, 2, 0)] (q := 73) (ls' := [(2, 37), (0, a), (0, qL9), (9, 0)]) (st' := [(0, qL9), (0, v79), (2, 188)]) (by decide +kernel) rfl ?_
                  have ib15 : 0 ≤ v79 ∧ v79 < ((6 : Nat) : Int) := (by first | omega | exact ⟨by omega, by omega⟩)
                  refine zwW_as IhL9 (a1 := 188) (a2 := 188) (n := 6) (lo := 0) (hi := 19) (nx := 74) (by decide +kernel) (by first | decide | exact ⟨by decide, by decide⟩) ib15 (by first | omega | exact ⟨by omega, by omega⟩) ?_
                  intro h80 eh80 Ih80
                  have jbh80 : 0 ≤ v79.toNat ∧ v79.toNat < 6 := ⟨Nat.zero_le _, zit ib15⟩
                  have th80_37_2 : fld h80 37 2 = fld hL9 37 2 := by rw [eh80]; exact fld_wr (Or.inl (by decide))
                  have th80_37_86 : fld h80 37 86 = fld hL9 37 86 := by rw [eh80]; exact fld_wr (Or.inl (by decide))
                  have th80_37_87 : fld h80 37 87 = fld hL9 37 87 := by rw [eh80]; exact fld_wr (Or.inl (by decide))
                  have Oh80 : zMR [(188, 188, 0, 6)] hL9 h80 := zMR.one (by first | decide | exact ⟨by decide, by decide⟩) jbh80 eh80
                  have Rh80 : zMR ms148 h h80 := RhL9.w (a1 := 188) (a2 := 188) (j1 := 0) (j2 := 6) (by decide +kernel) (by first | decide | exact ⟨by decide, by decide⟩) jbh80 eh80
                  refine zwW_p [(1, 0, 2), (12, 0, 0)] (q := 76) (ls' := [(2, 37), (0, a), (0, qL9), (9, 0)]) (st' := [(2, 37), (2, 37)]) (by decide +kernel) rfl ?_
                  refine zwW_gs Ih80 (kd := 13) (bn := 87) (n := 97) (t := 0) (lo := 0) (hi := 6) (nx := 79) (by decide +kernel) ?_
                  intro v81 ev81 lv81 uv81
                  refine zwW_p [(0, 1, 0)] (q := 80) (ls' := [(2, 37), (0, a), (0, qL9), (9, 0)]) (st' := [(0, 1), (0, v81), (2, 37)]) (by decide +kernel) rfl ?_
                  refine zwW_add (nx := 81) (by decide +kernel) (by first | omega | exact ⟨by omega, by omega⟩) ?_
                  refine zwW_ps Ih80 (kd := 13) (bn := 87) (n := 97) (lo := 0) (hi := 6) (nx := 84) (by decide +kernel) (by first | omega | exact ⟨by omega, by omega⟩) ?_
                  intro h82 eh82 Ih82
                  have th82_37_2 : fld h82 37 2 = fld h80 37 2 := by rw [eh82]; exact fld_wr (by decide)
                  have th82_37_86 : fld h82 37 86 = fld h80 37 86 := by rw [eh82]; exact fld_wr (by decide)
                  have th82_37_87 : fld h82 37 87 = (v81 + 1) := by rw [eh82]; exact fld_wr_eq (Ih80.s (a1 := 37) (a2 := 37) (k := 13) (n := 97) (by decide +kernel) (by decide) (by decide)) (by decide)
                  have Oh82 : zMR [(37, 37, 87, 88)] h80 h82 := zMR.one (by first | decide | exact ⟨by decide, by decide⟩) (by first | decide | exact ⟨by decide, by decide⟩) eh82
                  have Rh82 : zMR ms148 h h82 := Rh80.w (a1 := 37) (a2 := 37) (j1 := 87) (j2 := 88) (by decide +kernel) (by first | decide | exact ⟨by decide, by decide⟩) (by first | decide | exact ⟨by decide, by decide⟩) eh82
                  refine zwW_inc (i := 2) (c := 1) (x := qL9) (nx := 87) (by decide +kernel) rfl (by first | omega | exact ⟨by omega, by omega⟩) (ls' := [(2, 37), (0, a), (0, (qL9 + 1)), (9, 0)]) rfl ?_
                  refine zwW_p [(24, 34, 0)] (q := 34) (ls' := [(2, 37), (0, a), (0, (qL9 + 1)), (9, 0)]) (st' := []) (by decide +kernel) rfl ?_
                  exact IHL9 ((100 - (qL9 + 1))).toNat (by omega) (qL9 + 1) h82 rfl (by omega) (by omega) Ih82 Rh82
                · refine zwW_p [(0, 0, 0)] (q := 63) (ls' := [(2, 37), (0, a), (0, qL9), (9, 0)]) (st' := [(0, 0)]) (by decide +kernel) rfl ?_
                  refine zwW_ret (nx := 64) (a := 1) (b := 0) (by decide +kernel) rfl (Or.inr (Or.inl ⟨rfl, Or.inl rfl⟩)) ?_
                  exact ⟨IhL9, RhL9, Or.inr rfl⟩
              · refine zwW_p [(24, 84, 0)] (q := 84) (ls' := [(2, 37), (0, a), (0, qL9), (9, 0)]) (st' := []) (by decide +kernel) rfl ?_
                refine zwW_inc (i := 2) (c := 1) (x := qL9) (nx := 87) (by decide +kernel) rfl (by first | omega | exact ⟨by omega, by omega⟩) (ls' := [(2, 37), (0, a), (0, (qL9 + 1)), (9, 0)]) rfl ?_
                refine zwW_p [(24, 34, 0)] (q := 34) (ls' := [(2, 37), (0, a), (0, (qL9 + 1)), (9, 0)]) (st' := []) (by decide +kernel) rfl ?_
                exact IHL9 ((100 - (qL9 + 1))).toNat (by omega) (qL9 + 1) hL9 rfl (by omega) (by omega) IhL9 RhL9
        exact L9 _ 0 h8 rfl (by omega) (by omega) Ih8 Rh8
      · refine zwW_p [(0, 0, 0)] (q := 26) (ls' := [(2, 37), (0, a), (9, 0), (9, 0)]) (st' := [(0, 0)]) (by decide +kernel) rfl ?_
        refine zwW_ret (nx := 27) (a := 1) (b := 0) (by decide +kernel) rfl (Or.inr (Or.inl ⟨rfl, Or.inl rfl⟩)) ?_
        exact ⟨I, R, Or.inr rfl⟩
  · refine zwif_eq (q := 25) (nx := 18) (by decide +kernel) (fun c83 => ?_) (fun c83 => ?_)
    · refine zwW_p [(0, 0, 0)] (q := 26) (ls' := [(2, 37), (0, a), (9, 0), (9, 0)]) (st' := [(0, 0)]) (by decide +kernel) rfl ?_
      refine zwW_ret (nx := 27) (a := 1) (b := 0) (by decide +kernel) rfl (Or.inr (Or.inl ⟨rfl, Or.inl rfl⟩)) ?_
      exact ⟨I, R, Or.inr rfl⟩
    · exfalso; omega
def ms50 : Zms := [(37, 37, 87, 88), (37, 37, 88, 91), (97, 97, 0, 8), (168, 168, 0, 13), (169, 169, 0, 420), (187, 187, 0, 6), (188, 188, 0, 6), (189, 189, 0, 6), (190, 190, 0, 6), (192, 197, 0, 6), (199, 204, 0, 6)]
-- WheelLandModel.hands(II)I
theorem m50 {sc : List Int} (h : Hp) (I : zI h) (a b : Int) (q_a : -2147483648 ≤ a ∧ a ≤ 2147483647) (hW : zCW h) : zwC sc 82 50 [(2, 37), (0, a), (0, b)] h (zwRt 0 (fun x g => zI g ∧ zMR ms50 h g ∧ (-2147483648 ≤ x ∧ x ≤ 2147483647))) := by
  refine zwC_of (D := 81) 3 (by decide +kernel) rfl (ls := [(2, 37), (0, a), (0, b)]) rfl ?_
  have R : zMR ms50 h h := zMR.rf _ _
  refine zwW_p [(1, 0, 2), (1, 1, 0)] (q := 2) (ls' := [(2, 37), (0, a), (0, b)]) (st' := [(0, a), (2, 37)]) (by decide +kernel) rfl ?_
  refine zwW_cm I (op := 60) (k' := 148) (n := 1) (kd := 13) (m := 97) (nx := 5) (r := 37) (tl := [(0, a)]) (st' := []) (by decide +kernel) rfl (by decide +kernel) rfl (m148 h I a (by omega) (hW.mr I R (by decide +kernel))) ?_
  rintro x h1 ⟨Ih1, Qh1, rfl | rfl⟩
  · have Rh1 : zMR ms50 h h1 := R.tr Qh1 (by decide +kernel)
    refine zwif_ne (q := 10) (nx := 8) (by decide +kernel) (fun c2 => ?_) (fun c2 => ?_)
    · refine zwW_p [(1, 2, 0), (7, 0, 0), (0, 10, 1), (0, 9, 0), (1, 0, 2)] (q := 18) (ls' := [(2, 37), (0, a), (0, b)]) (st' := [(2, 37), (0, 9), (1, 10), (1, b)]) (by decide +kernel) rfl ?_
      refine zwW_gs Ih1 (kd := 13) (bn := 86) (n := 97) (t := 0) (lo := 0) (hi := 6) (nx := 21) (by decide +kernel) ?_
      intro v3 ev3 lv3 uv3
      refine zwW_add (nx := 22) (by decide +kernel) (by first | omega | exact ⟨by omega, by omega⟩) ?_
      refine zwW_p [(7, 0, 0)] (q := 23) (ls' := [(2, 37), (0, a), (0, b)]) (st' := [(1, (9 + v3)), (1, 10), (1, b)]) (by decide +kernel) rfl ?_
      refine zwW_cs (k' := 101) (n := 3) (nx := 26) (as := [(1, b), (1, 10), (1, (9 + v3))]) (st' := []) (by decide +kernel) rfl (m101 h1 b 10 (9 + v3)) rfl ?_
      rintro x _ ⟨rfl, ⟨rfl, c4⟩ | ⟨rfl, c4⟩⟩
      · refine zwif_eq (q := 61) (nx := 29) (by decide +kernel) (fun c5 => ?_) (fun c5 => ?_)
        · exfalso; omega
        · refine zwW_p [(1, 0, 2)] (q := 30) (ls' := [(2, 37), (0, a), (0, b)]) (st' := [(2, 37)]) (by decide +kernel) rfl ?_
          refine zwW_gc Ih1 (kd := 13) (bn := 83) (n := 97) (c := 190) (nx := 33) (by decide +kernel) ?_
          refine zwW_p [(1, 2, 0), (0, 10, 0)] (q := 36) (ls' := [(2, 37), (0, a), (0, b)]) (st' := [(0, 10), (0, b), (2, 190)]) (by decide +kernel) rfl ?_
          refine zwW_sub (nx := 37) (by decide +kernel) (by first | omega | exact ⟨by omega, by omega⟩) ?_
          have ib1 : 0 ≤ (b - 10) ∧ (b - 10) < ((6 : Nat) : Int) := (by first | omega | exact ⟨by omega, by omega⟩)
          refine zwW_al Ih1 (a1 := 190) (a2 := 190) (kd := 20) (n := 6) (t := 0) (lo := -1) (hi := 5) (nx := 38) (by decide +kernel) (by first | decide | exact ⟨by decide, by decide⟩) ib1 ?_
          intro v6 ev6 lv6 uv6
          refine zwW_p [(0, -1, 0)] (q := 39) (ls' := [(2, 37), (0, a), (0, b)]) (st' := [(0, -1), (0, v6)]) (by decide +kernel) rfl ?_
          refine zwic_ne (q := 46) (nx := 42) (by decide +kernel) (fun c7 => ?_) (fun c7 => ?_)
          · refine zwW_p [(1, 0, 2)] (q := 47) (ls' := [(2, 37), (0, a), (0, b)]) (st' := [(2, 37)]) (by decide +kernel) rfl ?_
            refine zwW_gc Ih1 (kd := 13) (bn := 81) (n := 97) (c := 188) (nx := 50) (by decide +kernel) ?_
            refine zwW_p [(1, 0, 2)] (q := 51) (ls' := [(2, 37), (0, a), (0, b)]) (st' := [(2, 37), (2, 188)]) (by decide +kernel) rfl ?_
            refine zwW_gc Ih1 (kd := 13) (bn := 83) (n := 97) (c := 190) (nx := 54) (by decide +kernel) ?_
            refine zwW_p [(1, 2, 0), (0, 10, 0)] (q := 57) (ls' := [(2, 37), (0, a), (0, b)]) (st' := [(0, 10), (0, b), (2, 190), (2, 188)]) (by decide +kernel) rfl ?_
            refine zwW_sub (nx := 58) (by decide +kernel) (by first | omega | exact ⟨by omega, by omega⟩) ?_
            refine zwW_al Ih1 (a1 := 190) (a2 := 190) (kd := 20) (n := 6) (t := 0) (lo := -1) (hi := 5) (nx := 59) (by decide +kernel) (by first | decide | exact ⟨by decide, by decide⟩) ib1 ?_
            intro v8 ev8 lv8 uv8
            have ib2 : 0 ≤ v8 ∧ v8 < ((6 : Nat) : Int) := (by first | omega | exact ⟨by omega, by omega⟩)
            refine zwW_al Ih1 (a1 := 188) (a2 := 188) (kd := 20) (n := 6) (t := 0) (lo := 0) (hi := 19) (nx := 60) (by decide +kernel) (by first | decide | exact ⟨by decide, by decide⟩) ib2 ?_
            intro v9 ev9 lv9 uv9
            refine zwW_ret (nx := 61) (a := 0) (b := 0) (by decide +kernel) rfl (Or.inl rfl) ?_
            exact ⟨Ih1, Rh1, by omega⟩
          · refine zwW_p [(0, -1, 0), (24, 60, 0)] (q := 60) (ls' := [(2, 37), (0, a), (0, b)]) (st' := [(0, -1)]) (by decide +kernel) rfl ?_
            refine zwW_ret (nx := 61) (a := 0) (b := 0) (by decide +kernel) rfl (Or.inl rfl) ?_
            exact ⟨Ih1, Rh1, by omega⟩
      · refine zwif_eq (q := 61) (nx := 29) (by decide +kernel) (fun c10 => ?_) (fun c10 => ?_)
        · refine zwW_p [(1, 2, 0)] (q := 62) (ls' := [(2, 37), (0, a), (0, b)]) (st' := [(0, b)]) (by decide +kernel) rfl ?_
          refine zwif_ne (q := 72) (nx := 65) (by decide +kernel) (fun c11 => ?_) (fun c11 => ?_)
          · refine zwW_p [(1, 2, 0), (0, 1, 0)] (q := 74) (ls' := [(2, 37), (0, a), (0, b)]) (st' := [(0, 1), (0, b)]) (by decide +kernel) rfl ?_
            refine zwic_ne (q := 84) (nx := 77) (by decide +kernel) (fun c12 => ?_) (fun c12 => ?_)
            · refine zwW_p [(1, 2, 0), (0, 2, 0)] (q := 86) (ls' := [(2, 37), (0, a), (0, b)]) (st' := [(0, 2), (0, b)]) (by decide +kernel) rfl ?_
              refine zwic_ne (q := 96) (nx := 89) (by decide +kernel) (fun c13 => ?_) (fun c13 => ?_)
              · refine zwW_p [(0, -1, 0)] (q := 97) (ls' := [(2, 37), (0, a), (0, b)]) (st' := [(0, -1)]) (by decide +kernel) rfl ?_
                refine zwW_ret (nx := 98) (a := 0) (b := 0) (by decide +kernel) rfl (Or.inl rfl) ?_
                exact ⟨Ih1, Rh1, by omega⟩
              · refine zwW_p [(1, 0, 2)] (q := 90) (ls' := [(2, 37), (0, a), (0, b)]) (st' := [(2, 37)]) (by decide +kernel) rfl ?_
                refine zwW_gs Ih1 (kd := 13) (bn := 90) (n := 97) (t := 0) (lo := -2147483648) (hi := 2147483647) (nx := 93) (by decide +kernel) ?_
                intro v14 ev14 lv14 uv14
                refine zwW_p [(24, 97, 0)] (q := 97) (ls' := [(2, 37), (0, a), (0, b)]) (st' := [(0, v14)]) (by decide +kernel) rfl ?_
                refine zwW_ret (nx := 98) (a := 0) (b := 0) (by decide +kernel) rfl (Or.inl rfl) ?_
                exact ⟨Ih1, Rh1, by omega⟩
            · refine zwW_p [(1, 0, 2)] (q := 78) (ls' := [(2, 37), (0, a), (0, b)]) (st' := [(2, 37)]) (by decide +kernel) rfl ?_
              refine zwW_gs Ih1 (kd := 13) (bn := 89) (n := 97) (t := 0) (lo := -2147483648) (hi := 2147483647) (nx := 81) (by decide +kernel) ?_
              intro v15 ev15 lv15 uv15
              refine zwW_p [(24, 97, 0)] (q := 97) (ls' := [(2, 37), (0, a), (0, b)]) (st' := [(0, v15)]) (by decide +kernel) rfl ?_
              refine zwW_ret (nx := 98) (a := 0) (b := 0) (by decide +kernel) rfl (Or.inl rfl) ?_
              exact ⟨Ih1, Rh1, by omega⟩
          · refine zwW_p [(1, 0, 2)] (q := 66) (ls' := [(2, 37), (0, a), (0, b)]) (st' := [(2, 37)]) (by decide +kernel) rfl ?_
            refine zwW_gs Ih1 (kd := 13) (bn := 88) (n := 97) (t := 0) (lo := -2147483648) (hi := 2147483647) (nx := 69) (by decide +kernel) ?_
            intro v16 ev16 lv16 uv16
            refine zwW_p [(24, 97, 0)] (q := 97) (ls' := [(2, 37), (0, a), (0, b)]) (st' := [(0, v16)]) (by decide +kernel) rfl ?_
            refine zwW_ret (nx := 98) (a := 0) (b := 0) (by decide +kernel) rfl (Or.inl rfl) ?_
            exact ⟨Ih1, Rh1, by omega⟩
        · exfalso; omega
    · exfalso; omega
  · have Rh1 : zMR ms50 h h1 := R.tr Qh1 (by decide +kernel)
    refine zwif_ne (q := 10) (nx := 8) (by decide +kernel) (fun c17 => ?_) (fun c17 => ?_)
    · exfalso; omega
    · refine zwW_p [(0, -1, 0)] (q := 9) (ls' := [(2, 37), (0, a), (0, b)]) (st' := [(0, -1)]) (by decide +kernel) rfl ?_
      refine zwW_ret (nx := 10) (a := 0) (b := 0) (by decide +kernel) rfl (Or.inl rfl) ?_
      exact ⟨Ih1, Rh1, by omega⟩
