/-! joined: 76.zfar 77.alaw -/
section
/-! contracts of methods -/
-- WheelLandModel.farOf(II)I
theorem m106_f {sc : List Int} (h : Hp) (I : zI h) (a b : Int) (p1 : 0 ≤ b) (p2 : b ≤ 7) (hR : zRO h) (pa : 0 ≤ a ∧ a < fld h 37 1) (pb : b < fld h 37 1) : zwC sc 1 106 [(2, 37), (0, a), (0, b)] h (zwRt 0 (fun x g => zI g ∧ zMR ms106 h g ∧ (-2147483648 ≤ x ∧ x ≤ 2147483647) ∧ (-1 ≤ x) ∧ (x ≤ 4608) ∧ (x = zDa h a.toNat b.toNat))) := by
  refine zwC_of (D := 0) 6 (by decide +kernel) rfl (ls := [(2, 37), (0, a), (0, b), (9, 0), (9, 0), (9, 0)]) rfl ?_
  have R : zMR ms106 h h := zMR.rf _ _
  have N0 := I.b (a1 := 37) (a2 := 37) (j1 := 1) (j2 := 2) (lo := 0) (hi := 8) (by decide +kernel) (r := 37) (j := 1) (by decide) (by decide) (by decide) (by decide)
  have G0 := hR.gd (A := a.toNat) (n := (fld h 37 1).toNat) (by omega) (by omega) (by omega)
  refine zwW_p [(0, 0, 0), (2, 3, 0)] (q := 2) (ls' := [(2, 37), (0, a), (0, b), (0, 0), (9, 0), (9, 0)]) (st' := []) (by decide +kernel) rfl ?_
  have L1 : ∀ (n : Nat) (vL1 : Int) (hL1 : Hp), n = ((100 - vL1)).toNat → (0 ≤ vL1 ∧ vL1 ≤ 8) → (fld hL1 37 1 = fld h 37 1) → (∀ j : Nat, (j : Int) < vL1 → fld hL1 97 j ≤ 0) → (∀ j : Nat, (j : Int) < vL1 → fld hL1 97 j = if j = a.toNat then 0 else -1) → zI hL1 → zMR ms106 h hL1 → zwW sc (0) 106 2 [(2, 37), (0, a), (0, b), (0, vL1), (9, 0), (9, 0)] [] hL1 (zwRt 0 (fun x g => zI g ∧ zMR ms106 h g ∧ (-2147483648 ≤ x ∧ x ≤ 2147483647) ∧ (-1 ≤ x) ∧ (x ≤ 4608) ∧ (x = zDa h a.toNat b.toNat))) := by
    intro n
    induction n using Nat.strongRecOn with
    | ind n IHL1 =>
      intro vL1 hL1 hnL1 iL1_0 iL1_1 iL1_2 iL1_3 IhL1 RhL1
      refine zwW_p [(1, 3, 0), (1, 0, 2)] (q := 4) (ls' := [(2, 37), (0, a), (0, b), (0, vL1), (9, 0), (9, 0)]) (st' := [(2, 37), (0, vL1)]) (by decide +kernel) rfl ?_
      refine zwW_gs IhL1 (kd := 13) (bn := 1) (n := 97) (t := 0) (lo := 0) (hi := 8) (nx := 7) (by decide +kernel) ?_
      intro v2 ev2 lv2 uv2
      refine zwic_ge (q := 32) (nx := 10) (by decide +kernel) (fun c3 => ?_) (fun c3 => ?_)
      · refine zwW_p [(0, 0, 0), (2, 3, 0)] (q := 34) (ls' := [(2, 37), (0, a), (0, b), (0, 0), (9, 0), (9, 0)]) (st' := []) (by decide +kernel) rfl ?_
        have L4 : ∀ (n : Nat) (kL4 : Int) (w4L4 w5L4 : Vl) (hL4 : Hp), n = ((100 - kL4)).toNat → (0 ≤ kL4 ∧ kL4 ≤ 8) → (fld hL4 37 1 = fld h 37 1) → (∀ j : Nat, (j : Int) < fld h 37 1 → fld hL4 97 j ≤ 9 * (64 * kL4)) → (zBf (zLa h) (zLe h a.toNat) (fld h 37 1).toNat (kL4).toNat 0 0 (fld hL4 97)) → zI hL4 → zMR ms106 h hL4 → zwW sc (0) 106 34 [(2, 37), (0, a), (0, b), (0, kL4), w4L4, w5L4] [] hL4 (zwRt 0 (fun x g => zI g ∧ zMR ms106 h g ∧ (-2147483648 ≤ x ∧ x ≤ 2147483647) ∧ (-1 ≤ x) ∧ (x ≤ 4608) ∧ (x = zDa h a.toNat b.toNat))) := by
          intro n
          induction n using Nat.strongRecOn with
          | ind n IHL4 =>
            intro kL4 w4L4 w5L4 hL4 hnL4 iL4_0 iL4_1 iL4_2 iL4_3 IhL4 RhL4
            refine zwW_p [(1, 3, 0), (1, 0, 2)] (q := 36) (ls' := [(2, 37), (0, a), (0, b), (0, kL4), w4L4, w5L4]) (st' := [(2, 37), (0, kL4)]) (by decide +kernel) rfl ?_
            refine zwW_gs IhL4 (kd := 13) (bn := 1) (n := 97) (t := 0) (lo := 0) (hi := 8) (nx := 39) (by decide +kernel) ?_
            intro v5 ev5 lv5 uv5
            refine zwic_ge (q := 175) (nx := 42) (by decide +kernel) (fun c6 => ?_) (fun c6 => ?_)
            · refine zwW_p [(1, 0, 2)] (q := 176) (ls' := [(2, 37), (0, a), (0, b), (0, kL4), w4L4, w5L4]) (st' := [(2, 37)]) (by decide +kernel) rfl ?_
              refine zwW_gc IhL4 (kd := 13) (bn := 39) (n := 97) (c := 97) (nx := 179) (by decide +kernel) ?_
              refine zwW_p [(1, 2, 0)] (q := 180) (ls' := [(2, 37), (0, a), (0, b), (0, kL4), w4L4, w5L4]) (st' := [(0, b), (2, 97)]) (by decide +kernel) rfl ?_
              refine zwW_al IhL4 (a1 := 97) (a2 := 97) (kd := 20) (n := 8) (t := 0) (lo := -1) (hi := 4608) (nx := 181) (by decide +kernel) (by first | decide | exact ⟨by decide, by decide⟩) (by first | omega | exact ⟨by omega, by omega⟩) ?_
              intro v7 ev7 lv7 uv7
              refine zwW_ret (nx := 182) (a := 0) (b := 0) (by decide +kernel) rfl (Or.inl rfl) ?_
              exact ⟨IhL4, RhL4, by omega, by omega, by omega, by have Z181 := zBf.fin G0 iL4_3 (by omega) (v := b.toNat) (by omega) (by omega); unfold zDa; rw [show v7 = fld hL4 97 b.toNat by omega]; exact Z181⟩
            · refine zwW_p [(0, 0, 0), (2, 4, 0)] (q := 45) (ls' := [(2, 37), (0, a), (0, b), (0, kL4), (0, 0), w5L4]) (st' := []) (by decide +kernel) rfl ?_
              have L8 : ∀ (n : Nat) (xL8 : Int) (w5L8 : Vl) (hL8 : Hp), n = ((100 - xL8)).toNat → (0 ≤ xL8 ∧ xL8 ≤ 8) → (fld hL8 37 1 = fld h 37 1) → (∀ j : Nat, (j : Int) < fld h 37 1 → fld hL8 97 j ≤ 9 * (64 * kL4 + 8 * xL8)) → (zBf (zLa h) (zLe h a.toNat) (fld h 37 1).toNat (kL4).toNat (xL8).toNat 0 (fld hL8 97)) → zI hL8 → zMR ms106 h hL8 → zwW sc (0) 106 45 [(2, 37), (0, a), (0, b), (0, kL4), (0, xL8), w5L8] [] hL8 (zwRt 0 (fun x g => zI g ∧ zMR ms106 h g ∧ (-2147483648 ≤ x ∧ x ≤ 2147483647) ∧ (-1 ≤ x) ∧ (x ≤ 4608) ∧ (x = zDa h a.toNat b.toNat))) := by
                intro n
                induction n using Nat.strongRecOn with
                | ind n IHL8 =>
                  intro xL8 w5L8 hL8 hnL8 iL8_0 iL8_1 iL8_2 iL8_3 IhL8 RhL8
                  refine zwW_p [(1, 4, 0), (1, 0, 2)] (q := 48) (ls' := [(2, 37), (0, a), (0, b), (0, kL4), (0, xL8), w5L8]) (st' := [(2, 37), (0, xL8)]) (by decide +kernel) rfl ?_
                  refine zwW_gs IhL8 (kd := 13) (bn := 1) (n := 97) (t := 0) (lo := 0) (hi := 8) (nx := 51) (by decide +kernel) ?_
                  intro v9 ev9 lv9 uv9
                  refine zwic_ge (q := 169) (nx := 54) (by decide +kernel) (fun c10 => ?_) (fun c10 => ?_)
                  · refine zwW_inc (i := 3) (c := 1) (x := kL4) (nx := 172) (by decide +kernel) rfl (by first | omega | exact ⟨by omega, by omega⟩) (ls' := [(2, 37), (0, a), (0, b), (0, (kL4 + 1)), (0, xL8), w5L8]) rfl ?_
                    refine zwW_p [(24, 34, 0)] (q := 34) (ls' := [(2, 37), (0, a), (0, b), (0, (kL4 + 1)), (0, xL8), w5L8]) (st' := []) (by decide +kernel) rfl ?_
                    exact IHL4 ((100 - (kL4 + 1))).toNat (by omega) (kL4 + 1) (0, xL8) w5L8 hL8 rfl (by omega) (by omega) (fun j hj => by have := iL8_2 j hj; omega) (by rw [show (kL4 + 1).toNat = (kL4).toNat + 1 by omega]; exact zBf.nk G0 iL8_3 (by omega)) IhL8 RhL8
                  · refine zwW_p [(0, 0, 0), (2, 5, 0)] (q := 57) (ls' := [(2, 37), (0, a), (0, b), (0, kL4), (0, xL8), (0, 0)]) (st' := []) (by decide +kernel) rfl ?_
                    have L11 : ∀ (n : Nat) (yL11 : Int) (hL11 : Hp), n = ((100 - yL11)).toNat → (0 ≤ yL11 ∧ yL11 ≤ 8) → (fld hL11 37 1 = fld h 37 1) → (∀ j : Nat, (j : Int) < fld h 37 1 → fld hL11 97 j ≤ 9 * (64 * kL4 + 8 * xL8 + yL11)) → (zBf (zLa h) (zLe h a.toNat) (fld h 37 1).toNat (kL4).toNat (xL8).toNat (yL11).toNat (fld hL11 97)) → zI hL11 → zMR ms106 h hL11 → zwW sc (0) 106 57 [(2, 37), (0, a), (0, b), (0, kL4), (0, xL8), (0, yL11)] [] hL11 (zwRt 0 (fun x g => zI g ∧ zMR ms106 h g ∧ (-2147483648 ≤ x ∧ x ≤ 2147483647) ∧ (-1 ≤ x) ∧ (x ≤ 4608) ∧ (x = zDa h a.toNat b.toNat))) := by
                      intro n
                      induction n using Nat.strongRecOn with
                      | ind n IHL11 =>
                        intro yL11 hL11 hnL11 iL11_0 iL11_1 iL11_2 iL11_3 IhL11 RhL11
                        refine zwW_p [(1, 5, 0), (1, 0, 2)] (q := 60) (ls' := [(2, 37), (0, a), (0, b), (0, kL4), (0, xL8), (0, yL11)]) (st' := [(2, 37), (0, yL11)]) (by decide +kernel) rfl ?_
                        refine zwW_gs IhL11 (kd := 13) (bn := 1) (n := 97) (t := 0) (lo := 0) (hi := 8) (nx := 63) (by decide +kernel) ?_
                        intro v12 ev12 lv12 uv12
                        refine zwic_ge (q := 163) (nx := 66) (by decide +kernel) (fun c13 => ?_) (fun c13 => ?_)
                        · refine zwW_inc (i := 4) (c := 1) (x := xL8) (nx := 166) (by decide +kernel) rfl (by first | omega | exact ⟨by omega, by omega⟩) (ls' := [(2, 37), (0, a), (0, b), (0, kL4), (0, (xL8 + 1)), (0, yL11)]) rfl ?_
                          refine zwW_p [(24, 45, 0)] (q := 45) (ls' := [(2, 37), (0, a), (0, b), (0, kL4), (0, (xL8 + 1)), (0, yL11)]) (st' := []) (by decide +kernel) rfl ?_
                          exact IHL8 ((100 - (xL8 + 1))).toNat (by omega) (xL8 + 1) (0, yL11) hL11 rfl (by omega) (by omega) (fun j hj => by have := iL11_2 j hj; omega) (by rw [show (xL8 + 1).toNat = (xL8).toNat + 1 by omega]; exact zBf.nx iL11_3 (by omega)) IhL11 RhL11
                        · have D66 := hR.2.2 (xL8).toNat (yL11).toNat (by omega) (by omega)
                          have e66 : fld h (48 + (((xL8).toNat : Nat) : Int)) (yL11).toNat = fld hL11 (48 + xL8) (yL11).toNat := by rw [show (((xL8).toNat : Nat) : Int) = xL8 by omega]; exact (RhL11.f (a1 := 48) (a2 := 55) (j1 := 0) (j2 := 8) (by decide +kernel) (by first | omega | exact ⟨by omega, by omega⟩) (by first | omega | exact ⟨by omega, by omega⟩)).symm
                          rw [e66] at D66
                          refine zwW_p [(1, 0, 2)] (q := 67) (ls' := [(2, 37), (0, a), (0, b), (0, kL4), (0, xL8), (0, yL11)]) (st' := [(2, 37)]) (by decide +kernel) rfl ?_
                          refine zwW_gc IhL11 (kd := 13) (bn := 39) (n := 97) (c := 97) (nx := 70) (by decide +kernel) ?_
                          refine zwW_p [(1, 4, 0)] (q := 72) (ls' := [(2, 37), (0, a), (0, b), (0, kL4), (0, xL8), (0, yL11)]) (st' := [(0, xL8), (2, 97)]) (by decide +kernel) rfl ?_
                          refine zwW_al IhL11 (a1 := 97) (a2 := 97) (kd := 20) (n := 8) (t := 0) (lo := -1) (hi := 4608) (nx := 73) (by decide +kernel) (by first | decide | exact ⟨by decide, by decide⟩) (by first | omega | exact ⟨by omega, by omega⟩) ?_
                          intro v14 ev14 lv14 uv14
                          refine zwW_p [(0, -1, 0)] (q := 74) (ls' := [(2, 37), (0, a), (0, b), (0, kL4), (0, xL8), (0, yL11)]) (st' := [(0, -1), (0, v14)]) (by decide +kernel) rfl ?_
                          refine zwic_eq (q := 157) (nx := 77) (by decide +kernel) (fun c15 => ?_) (fun c15 => ?_)
                          · refine zwW_inc (i := 5) (c := 1) (x := yL11) (nx := 160) (by decide +kernel) rfl (by first | omega | exact ⟨by omega, by omega⟩) (ls' := [(2, 37), (0, a), (0, b), (0, kL4), (0, xL8), (0, (yL11 + 1))]) rfl ?_
                            refine zwW_p [(24, 57, 0)] (q := 57) (ls' := [(2, 37), (0, a), (0, b), (0, kL4), (0, xL8), (0, (yL11 + 1))]) (st' := []) (by decide +kernel) rfl ?_
                            exact IHL11 ((100 - (yL11 + 1))).toNat (by omega) (yL11 + 1) hL11 rfl (by omega) (by omega) (by first | exact fun j hj => (by have := iL11_2 j hj; omega) | exact W156) (by rw [show (yL11 + 1).toNat = (yL11).toNat + 1 by omega]; first | exact Z156 | exact zBf.sk G0 iL11_3 (by omega) (by omega) D66.1 (by omega)) IhL11 RhL11
                          · refine zwW_p [(1, 0, 2)] (q := 78) (ls' := [(2, 37), (0, a), (0, b), (0, kL4), (0, xL8), (0, yL11)]) (st' := [(2, 37)]) (by decide +kernel) rfl ?_
                            refine zwW_gc IhL11 (kd := 13) (bn := 4) (n := 97) (c := 47) (nx := 81) (by decide +kernel) ?_
                            refine zwW_p [(1, 4, 0)] (q := 83) (ls' := [(2, 37), (0, a), (0, b), (0, kL4), (0, xL8), (0, yL11)]) (st' := [(0, xL8), (2, 47)]) (by decide +kernel) rfl ?_
                            refine zwW_ro IhL11 (a := 47) (n := 8) (kd := 26) (base := 48) (step := 1) (nx := 84) (by decide +kernel) rfl (by first | omega | exact ⟨by omega, by omega⟩) ?_
                            rw [show ((48 : Nat) : Int) + ((1 : Nat) : Int) * xL8 = (48 + xL8) by omega]
                            refine zwW_p [(1, 5, 0)] (q := 86) (ls' := [(2, 37), (0, a), (0, b), (0, kL4), (0, xL8), (0, yL11)]) (st' := [(0, yL11), (2, (48 + xL8))]) (by decide +kernel) rfl ?_
                            refine zwW_al IhL11 (a1 := 48) (a2 := 55) (kd := 20) (n := 8) (t := 0) (lo := 0) (hi := 9) (nx := 87) (by decide +kernel) (by first | omega | exact ⟨by omega, by omega⟩) (by first | omega | exact ⟨by omega, by omega⟩) ?_
                            intro v16 ev16 lv16 uv16
                            refine zwif_ne (q := 93) (nx := 90) (by decide +kernel) (fun c17 => ?_) (fun c17 => ?_)
                            · refine zwW_p [(1, 0, 2)] (q := 94) (ls' := [(2, 37), (0, a), (0, b), (0, kL4), (0, xL8), (0, yL11)]) (st' := [(2, 37)]) (by decide +kernel) rfl ?_
                              refine zwW_gc IhL11 (kd := 13) (bn := 39) (n := 97) (c := 97) (nx := 97) (by decide +kernel) ?_
                              refine zwW_p [(1, 5, 0)] (q := 99) (ls' := [(2, 37), (0, a), (0, b), (0, kL4), (0, xL8), (0, yL11)]) (st' := [(0, yL11), (2, 97)]) (by decide +kernel) rfl ?_
                              refine zwW_al IhL11 (a1 := 97) (a2 := 97) (kd := 20) (n := 8) (t := 0) (lo := -1) (hi := 4608) (nx := 100) (by decide +kernel) (by first | decide | exact ⟨by decide, by decide⟩) (by first | omega | exact ⟨by omega, by omega⟩) ?_
                              intro v18 ev18 lv18 uv18
                              refine zwW_p [(0, -1, 0)] (q := 101) (ls' := [(2, 37), (0, a), (0, b), (0, kL4), (0, xL8), (0, yL11)]) (st' := [(0, -1), (0, v18)]) (by decide +kernel) rfl ?_
                              refine zwic_eq (q := 132) (nx := 104) (by decide +kernel) (fun c19 => ?_) (fun c19 => ?_)
                              · refine zwW_p [(1, 0, 2)] (q := 133) (ls' := [(2, 37), (0, a), (0, b), (0, kL4), (0, xL8), (0, yL11)]) (st' := [(2, 37)]) (by decide +kernel) rfl ?_
                                refine zwW_gc IhL11 (kd := 13) (bn := 39) (n := 97) (c := 97) (nx := 136) (by decide +kernel) ?_
                                refine zwW_p [(1, 5, 0), (1, 0, 2)] (q := 139) (ls' := [(2, 37), (0, a), (0, b), (0, kL4), (0, xL8), (0, yL11)]) (st' := [(2, 37), (0, yL11), (2, 97)]) (by decide +kernel) rfl ?_
                                refine zwW_gc IhL11 (kd := 13) (bn := 39) (n := 97) (c := 97) (nx := 142) (by decide +kernel) ?_
                                refine zwW_p [(1, 4, 0)] (q := 144) (ls' := [(2, 37), (0, a), (0, b), (0, kL4), (0, xL8), (0, yL11)]) (st' := [(0, xL8), (2, 97), (0, yL11), (2, 97)]) (by decide +kernel) rfl ?_
                                refine zwW_al IhL11 (a1 := 97) (a2 := 97) (kd := 20) (n := 8) (t := 0) (lo := -1) (hi := 4608) (nx := 145) (by decide +kernel) (by first | decide | exact ⟨by decide, by decide⟩) (by first | omega | exact ⟨by omega, by omega⟩) ?_
                                intro v20 ev20 lv20 uv20
                                refine zwW_p [(1, 0, 2)] (q := 146) (ls' := [(2, 37), (0, a), (0, b), (0, kL4), (0, xL8), (0, yL11)]) (st' := [(2, 37), (0, v20), (0, yL11), (2, 97)]) (by decide +kernel) rfl ?_
                                refine zwW_gc IhL11 (kd := 13) (bn := 4) (n := 97) (c := 47) (nx := 149) (by decide +kernel) ?_
                                refine zwW_p [(1, 4, 0)] (q := 151) (ls' := [(2, 37), (0, a), (0, b), (0, kL4), (0, xL8), (0, yL11)]) (st' := [(0, xL8), (2, 47), (0, v20), (0, yL11), (2, 97)]) (by decide +kernel) rfl ?_
                                refine zwW_ro IhL11 (a := 47) (n := 8) (kd := 26) (base := 48) (step := 1) (nx := 152) (by decide +kernel) rfl (by first | omega | exact ⟨by omega, by omega⟩) ?_
                                rw [show ((48 : Nat) : Int) + ((1 : Nat) : Int) * xL8 = (48 + xL8) by omega]
                                refine zwW_p [(1, 5, 0)] (q := 154) (ls' := [(2, 37), (0, a), (0, b), (0, kL4), (0, xL8), (0, yL11)]) (st' := [(0, yL11), (2, (48 + xL8)), (0, v20), (0, yL11), (2, 97)]) (by decide +kernel) rfl ?_
                                refine zwW_al IhL11 (a1 := 48) (a2 := 55) (kd := 20) (n := 8) (t := 0) (lo := 0) (hi := 9) (nx := 155) (by decide +kernel) (by first | omega | exact ⟨by omega, by omega⟩) (by first | omega | exact ⟨by omega, by omega⟩) ?_
                                intro v21 ev21 lv21 uv21
                                refine zwW_add (nx := 156) (by decide +kernel) (by first | omega | exact ⟨by omega, by omega⟩) ?_
                                have B156 := iL11_2 (xL8).toNat (by omega)
                                refine zwW_as IhL11 (a1 := 97) (a2 := 97) (n := 8) (lo := -1) (hi := 4608) (nx := 157) (by decide +kernel) (by first | decide | exact ⟨by decide, by decide⟩) (by first | omega | exact ⟨by omega, by omega⟩) (by first | omega | exact ⟨by omega, by omega⟩) ?_
                                intro h22 eh22 Ih22
                                have th22_37_1 : fld h22 37 1 = fld hL11 37 1 := by rw [eh22]; exact fld_wr (by omega)
                                have W156 : ∀ j : Nat, (j : Int) < fld h 37 1 → fld h22 97 j ≤ 9 * (64 * kL4 + 8 * xL8 + (yL11 + 1)) := fld_all (P := fun j z => (j : Int) < fld h 37 1 → z ≤ 9 * (64 * kL4 + 8 * xL8 + (yL11 + 1))) (fun j hj => by have := iL11_2 j hj; omega) (fun _ => by have := iL11_2 (xL8).toNat (by omega); omega) eh22
                                have Z156 : zBf (zLa h) (zLe h a.toNat) (fld h 37 1).toNat (kL4).toNat (xL8).toNat ((yL11).toNat + 1) (fld h22 97) := zBf.rl G0 iL11_3 (by omega) (by omega) D66.1 (by omega) (D66.2 (by omega)).1 (by omega) (by omega) (by rw [eh22, fld_wr_eq (IhL11.s (a1 := 97) (a2 := 97) (k := 20) (n := 8) (by decide +kernel) (by decide) (by decide)) (by omega)]; omega) (fun v hv => by rw [eh22]; exact fld_wr (Or.inr hv))
                                have Rh22 : zMR ms106 h h22 := RhL11.w (a1 := 97) (a2 := 97) (j1 := 0) (j2 := 8) (by decide +kernel) (by first | decide | exact ⟨by decide, by decide⟩) (by first | omega | exact ⟨by omega, by omega⟩) eh22
                                refine zwW_inc (i := 5) (c := 1) (x := yL11) (nx := 160) (by decide +kernel) rfl (by first | omega | exact ⟨by omega, by omega⟩) (ls' := [(2, 37), (0, a), (0, b), (0, kL4), (0, xL8), (0, (yL11 + 1))]) rfl ?_
                                refine zwW_p [(24, 57, 0)] (q := 57) (ls' := [(2, 37), (0, a), (0, b), (0, kL4), (0, xL8), (0, (yL11 + 1))]) (st' := []) (by decide +kernel) rfl ?_
                                exact IHL11 ((100 - (yL11 + 1))).toNat (by omega) (yL11 + 1) h22 rfl (by omega) (by omega) (by first | exact fun j hj => (by have := iL11_2 j hj; omega) | exact W156) (by rw [show (yL11 + 1).toNat = (yL11).toNat + 1 by omega]; first | exact Z156 | exact zBf.sk G0 iL11_3 (by omega) (by omega) D66.1 (by omega)) Ih22 Rh22
                              · refine zwW_p [(1, 0, 2)] (q := 105) (ls' := [(2, 37), (0, a), (0, b), (0, kL4), (0, xL8), (0, yL11)]) (st' := [(2, 37)]) (by decide +kernel) rfl ?_
                                refine zwW_gc IhL11 (kd := 13) (bn := 39) (n := 97) (c := 97) (nx := 108) (by decide +kernel) ?_
                                refine zwW_p [(1, 4, 0)] (q := 110) (ls' := [(2, 37), (0, a), (0, b), (0, kL4), (0, xL8), (0, yL11)]) (st' := [(0, xL8), (2, 97)]) (by decide +kernel) rfl ?_
                                refine zwW_al IhL11 (a1 := 97) (a2 := 97) (kd := 20) (n := 8) (t := 0) (lo := -1) (hi := 4608) (nx := 111) (by decide +kernel) (by first | decide | exact ⟨by decide, by decide⟩) (by first | omega | exact ⟨by omega, by omega⟩) ?_
                                intro v23 ev23 lv23 uv23
                                refine zwW_p [(1, 0, 2)] (q := 112) (ls' := [(2, 37), (0, a), (0, b), (0, kL4), (0, xL8), (0, yL11)]) (st' := [(2, 37), (0, v23)]) (by decide +kernel) rfl ?_
                                refine zwW_gc IhL11 (kd := 13) (bn := 4) (n := 97) (c := 47) (nx := 115) (by decide +kernel) ?_
                                refine zwW_p [(1, 4, 0)] (q := 117) (ls' := [(2, 37), (0, a), (0, b), (0, kL4), (0, xL8), (0, yL11)]) (st' := [(0, xL8), (2, 47), (0, v23)]) (by decide +kernel) rfl ?_
                                refine zwW_ro IhL11 (a := 47) (n := 8) (kd := 26) (base := 48) (step := 1) (nx := 118) (by decide +kernel) rfl (by first | omega | exact ⟨by omega, by omega⟩) ?_
                                rw [show ((48 : Nat) : Int) + ((1 : Nat) : Int) * xL8 = (48 + xL8) by omega]
                                refine zwW_p [(1, 5, 0)] (q := 120) (ls' := [(2, 37), (0, a), (0, b), (0, kL4), (0, xL8), (0, yL11)]) (st' := [(0, yL11), (2, (48 + xL8)), (0, v23)]) (by decide +kernel) rfl ?_
                                refine zwW_al IhL11 (a1 := 48) (a2 := 55) (kd := 20) (n := 8) (t := 0) (lo := 0) (hi := 9) (nx := 121) (by decide +kernel) (by first | omega | exact ⟨by omega, by omega⟩) (by first | omega | exact ⟨by omega, by omega⟩) ?_
                                intro v24 ev24 lv24 uv24
                                refine zwW_add (nx := 122) (by decide +kernel) (by first | omega | exact ⟨by omega, by omega⟩) ?_
                                refine zwW_p [(1, 0, 2)] (q := 123) (ls' := [(2, 37), (0, a), (0, b), (0, kL4), (0, xL8), (0, yL11)]) (st' := [(2, 37), (0, (v23 + v24))]) (by decide +kernel) rfl ?_
                                refine zwW_gc IhL11 (kd := 13) (bn := 39) (n := 97) (c := 97) (nx := 126) (by decide +kernel) ?_
                                refine zwW_p [(1, 5, 0)] (q := 128) (ls' := [(2, 37), (0, a), (0, b), (0, kL4), (0, xL8), (0, yL11)]) (st' := [(0, yL11), (2, 97), (0, (v23 + v24))]) (by decide +kernel) rfl ?_
                                refine zwW_al IhL11 (a1 := 97) (a2 := 97) (kd := 20) (n := 8) (t := 0) (lo := -1) (hi := 4608) (nx := 129) (by decide +kernel) (by first | decide | exact ⟨by decide, by decide⟩) (by first | omega | exact ⟨by omega, by omega⟩) ?_
                                intro v25 ev25 lv25 uv25
                                refine zwic_ge (q := 157) (nx := 132) (by decide +kernel) (fun c26 => ?_) (fun c26 => ?_)
                                · refine zwW_inc (i := 5) (c := 1) (x := yL11) (nx := 160) (by decide +kernel) rfl (by first | omega | exact ⟨by omega, by omega⟩) (ls' := [(2, 37), (0, a), (0, b), (0, kL4), (0, xL8), (0, (yL11 + 1))]) rfl ?_
                                  refine zwW_p [(24, 57, 0)] (q := 57) (ls' := [(2, 37), (0, a), (0, b), (0, kL4), (0, xL8), (0, (yL11 + 1))]) (st' := []) (by decide +kernel) rfl ?_
                                  exact IHL11 ((100 - (yL11 + 1))).toNat (by omega) (yL11 + 1) hL11 rfl (by omega) (by omega) (by first | exact fun j hj => (by have := iL11_2 j hj; omega) | exact W156) (by rw [show (yL11 + 1).toNat = (yL11).toNat + 1 by omega]; first | exact Z156 | exact zBf.sk G0 iL11_3 (by omega) (by omega) D66.1 (by omega)) IhL11 RhL11
                                · refine zwW_p [(1, 0, 2)] (q := 133) (ls' := [(2, 37), (0, a), (0, b), (0, kL4), (0, xL8), (0, yL11)]) (st' := [(2, 37)]) (by decide +kernel) rfl ?_
                                  refine zwW_gc IhL11 (kd := 13) (bn := 39) (n := 97) (c := 97) (nx := 136) (by decide +kernel) ?_
                                  refine zwW_p [(1, 5, 0), (1, 0, 2)] (q := 139) (ls' := [(2, 37), (0, a), (0, b), (0, kL4), (0, xL8), (0, yL11)]) (st' := [(2, 37), (0, yL11), (2, 97)]) (by decide +kernel) rfl ?_
                                  refine zwW_gc IhL11 (kd := 13) (bn := 39) (n := 97) (c := 97) (nx := 142) (by decide +kernel) ?_
                                  refine zwW_p [(1, 4, 0)] (q := 144) (ls' := [(2, 37), (0, a), (0, b), (0, kL4), (0, xL8), (0, yL11)]) (st' := [(0, xL8), (2, 97), (0, yL11), (2, 97)]) (by decide +kernel) rfl ?_
                                  refine zwW_al IhL11 (a1 := 97) (a2 := 97) (kd := 20) (n := 8) (t := 0) (lo := -1) (hi := 4608) (nx := 145) (by decide +kernel) (by first | decide | exact ⟨by decide, by decide⟩) (by first | omega | exact ⟨by omega, by omega⟩) ?_
                                  intro v27 ev27 lv27 uv27
                                  refine zwW_p [(1, 0, 2)] (q := 146) (ls' := [(2, 37), (0, a), (0, b), (0, kL4), (0, xL8), (0, yL11)]) (st' := [(2, 37), (0, v27), (0, yL11), (2, 97)]) (by decide +kernel) rfl ?_
                                  refine zwW_gc IhL11 (kd := 13) (bn := 4) (n := 97) (c := 47) (nx := 149) (by decide +kernel) ?_
                                  refine zwW_p [(1, 4, 0)] (q := 151) (ls' := [(2, 37), (0, a), (0, b), (0, kL4), (0, xL8), (0, yL11)]) (st' := [(0, xL8), (2, 47), (0, v27), (0, yL11), (2, 97)]) (by decide +kernel) rfl ?_
                                  refine zwW_ro IhL11 (a := 47) (n := 8) (kd := 26) (base := 48) (step := 1) (nx := 152) (by decide +kernel) rfl (by first | omega | exact ⟨by omega, by omega⟩) ?_
                                  rw [show ((48 : Nat) : Int) + ((1 : Nat) : Int) * xL8 = (48 + xL8) by omega]
                                  refine zwW_p [(1, 5, 0)] (q := 154) (ls' := [(2, 37), (0, a), (0, b), (0, kL4), (0, xL8), (0, yL11)]) (st' := [(0, yL11), (2, (48 + xL8)), (0, v27), (0, yL11), (2, 97)]) (by decide +kernel) rfl ?_
                                  refine zwW_al IhL11 (a1 := 48) (a2 := 55) (kd := 20) (n := 8) (t := 0) (lo := 0) (hi := 9) (nx := 155) (by decide +kernel) (by first | omega | exact ⟨by omega, by omega⟩) (by first | omega | exact ⟨by omega, by omega⟩) ?_
                                  intro v28 ev28 lv28 uv28
                                  refine zwW_add (nx := 156) (by decide +kernel) (by first | omega | exact ⟨by omega, by omega⟩) ?_
                                  have B156 := iL11_2 (xL8).toNat (by omega)
                                  refine zwW_as IhL11 (a1 := 97) (a2 := 97) (n := 8) (lo := -1) (hi := 4608) (nx := 157) (by decide +kernel) (by first | decide | exact ⟨by decide, by decide⟩) (by first | omega | exact ⟨by omega, by omega⟩) (by first | omega | exact ⟨by omega, by omega⟩) ?_
                                  intro h29 eh29 Ih29
                                  have th29_37_1 : fld h29 37 1 = fld hL11 37 1 := by rw [eh29]; exact fld_wr (by omega)
                                  have W156 : ∀ j : Nat, (j : Int) < fld h 37 1 → fld h29 97 j ≤ 9 * (64 * kL4 + 8 * xL8 + (yL11 + 1)) := fld_all (P := fun j z => (j : Int) < fld h 37 1 → z ≤ 9 * (64 * kL4 + 8 * xL8 + (yL11 + 1))) (fun j hj => by have := iL11_2 j hj; omega) (fun _ => by have := iL11_2 (xL8).toNat (by omega); omega) eh29
                                  have Z156 : zBf (zLa h) (zLe h a.toNat) (fld h 37 1).toNat (kL4).toNat (xL8).toNat ((yL11).toNat + 1) (fld h29 97) := zBf.rl G0 iL11_3 (by omega) (by omega) D66.1 (by omega) (D66.2 (by omega)).1 (by omega) (by omega) (by rw [eh29, fld_wr_eq (IhL11.s (a1 := 97) (a2 := 97) (k := 20) (n := 8) (by decide +kernel) (by decide) (by decide)) (by omega)]; omega) (fun v hv => by rw [eh29]; exact fld_wr (Or.inr hv))
                                  have Rh29 : zMR ms106 h h29 := RhL11.w (a1 := 97) (a2 := 97) (j1 := 0) (j2 := 8) (by decide +kernel) (by first | decide | exact ⟨by decide, by decide⟩) (by first | omega | exact ⟨by omega, by omega⟩) eh29
                                  refine zwW_inc (i := 5) (c := 1) (x := yL11) (nx := 160) (by decide +kernel) rfl (by first | omega | exact ⟨by omega, by omega⟩) (ls' := [(2, 37), (0, a), (0, b), (0, kL4), (0, xL8), (0, (yL11 + 1))]) rfl ?_
                                  refine zwW_p [(24, 57, 0)] (q := 57) (ls' := [(2, 37), (0, a), (0, b), (0, kL4), (0, xL8), (0, (yL11 + 1))]) (st' := []) (by decide +kernel) rfl ?_
                                  exact IHL11 ((100 - (yL11 + 1))).toNat (by omega) (yL11 + 1) h29 rfl (by omega) (by omega) (by first | exact fun j hj => (by have := iL11_2 j hj; omega) | exact W156) (by rw [show (yL11 + 1).toNat = (yL11).toNat + 1 by omega]; first | exact Z156 | exact zBf.sk G0 iL11_3 (by omega) (by omega) D66.1 (by omega)) Ih29 Rh29
                            · refine zwW_p [(24, 157, 0)] (q := 157) (ls' := [(2, 37), (0, a), (0, b), (0, kL4), (0, xL8), (0, yL11)]) (st' := []) (by decide +kernel) rfl ?_
                              refine zwW_inc (i := 5) (c := 1) (x := yL11) (nx := 160) (by decide +kernel) rfl (by first | omega | exact ⟨by omega, by omega⟩) (ls' := [(2, 37), (0, a), (0, b), (0, kL4), (0, xL8), (0, (yL11 + 1))]) rfl ?_
                              refine zwW_p [(24, 57, 0)] (q := 57) (ls' := [(2, 37), (0, a), (0, b), (0, kL4), (0, xL8), (0, (yL11 + 1))]) (st' := []) (by decide +kernel) rfl ?_
                              exact IHL11 ((100 - (yL11 + 1))).toNat (by omega) (yL11 + 1) hL11 rfl (by omega) (by omega) (by first | exact fun j hj => (by have := iL11_2 j hj; omega) | exact W156) (by rw [show (yL11 + 1).toNat = (yL11).toNat + 1 by omega]; first | exact Z156 | exact zBf.sk G0 iL11_3 (by omega) (by omega) D66.1 (by omega)) IhL11 RhL11
                    exact L11 _ 0 hL8 rfl (by omega) (by omega) (fun j hj => by have := iL8_2 j hj; omega) (iL8_3) IhL8 RhL8
              exact L8 _ 0 w5L4 hL4 rfl (by omega) (by omega) (fun j hj => by have := iL4_2 j hj; omega) (iL4_3) IhL4 RhL4
        exact L4 _ 0 (9, 0) (9, 0) hL1 rfl (by omega) (by omega) (fun j hj => by have := iL1_2 j (by omega); omega) (zBf.init G0 (fun j hj => iL1_3 j (by omega))) IhL1 RhL1
      · refine zwW_p [(1, 0, 2)] (q := 11) (ls' := [(2, 37), (0, a), (0, b), (0, vL1), (9, 0), (9, 0)]) (st' := [(2, 37)]) (by decide +kernel) rfl ?_
        refine zwW_gc IhL1 (kd := 13) (bn := 39) (n := 97) (c := 97) (nx := 14) (by decide +kernel) ?_
        refine zwW_p [(1, 3, 0), (1, 3, 0), (1, 1, 0)] (q := 17) (ls' := [(2, 37), (0, a), (0, b), (0, vL1), (9, 0), (9, 0)]) (st' := [(0, a), (0, vL1), (0, vL1), (2, 97)]) (by decide +kernel) rfl ?_
        refine zwic_ne (q := 24) (nx := 20) (by decide +kernel) (fun c30 => ?_) (fun c30 => ?_)
        · refine zwW_p [(0, -1, 0)] (q := 25) (ls' := [(2, 37), (0, a), (0, b), (0, vL1), (9, 0), (9, 0)]) (st' := [(0, -1), (0, vL1), (2, 97)]) (by decide +kernel) rfl ?_
          refine zwW_as IhL1 (a1 := 97) (a2 := 97) (n := 8) (lo := -1) (hi := 4608) (nx := 26) (by decide +kernel) (by first | decide | exact ⟨by decide, by decide⟩) (by first | omega | exact ⟨by omega, by omega⟩) (by first | decide | exact ⟨by decide, by decide⟩) ?_
          intro h31 eh31 Ih31
          have th31_37_1 : fld h31 37 1 = fld hL1 37 1 := by rw [eh31]; exact fld_wr (by omega)
          have W25 : ∀ j : Nat, (j : Int) < vL1 + 1 → fld h31 97 j ≤ 0 := by
            intro j hj
            by_cases hq : j = (vL1).toNat
            · rw [hq, eh31, fld_wr_eq (IhL1.s (a1 := 97) (a2 := 97) (k := 20) (n := 8) (by decide +kernel) (by decide) (by decide)) (by omega)]; decide
            · rw [eh31, fld_wr (Or.inr hq)]; exact iL1_2 j (by omega)
          have V25 : ∀ j : Nat, (j : Int) < vL1 + 1 → fld h31 97 j = if j = a.toNat then 0 else -1 := by
            intro j hj
            by_cases hq : j = (vL1).toNat
            · rw [hq, eh31, fld_wr_eq (IhL1.s (a1 := 97) (a2 := 97) (k := 20) (n := 8) (by decide +kernel) (by decide) (by decide)) (by omega)]; split <;> omega
            · rw [eh31, fld_wr (Or.inr hq)]; exact iL1_3 j (by omega)
          have Rh31 : zMR ms106 h h31 := RhL1.w (a1 := 97) (a2 := 97) (j1 := 0) (j2 := 8) (by decide +kernel) (by first | decide | exact ⟨by decide, by decide⟩) (by first | omega | exact ⟨by omega, by omega⟩) eh31
          refine zwW_inc (i := 3) (c := 1) (x := vL1) (nx := 29) (by decide +kernel) rfl (by first | omega | exact ⟨by omega, by omega⟩) (ls' := [(2, 37), (0, a), (0, b), (0, (vL1 + 1)), (9, 0), (9, 0)]) rfl ?_
          refine zwW_p [(24, 2, 0)] (q := 2) (ls' := [(2, 37), (0, a), (0, b), (0, (vL1 + 1)), (9, 0), (9, 0)]) (st' := []) (by decide +kernel) rfl ?_
          exact IHL1 ((100 - (vL1 + 1))).toNat (by omega) (vL1 + 1) h31 rfl (by omega) (by omega) (W25) (V25) Ih31 Rh31
        · refine zwW_p [(0, 0, 0), (24, 25, 0)] (q := 25) (ls' := [(2, 37), (0, a), (0, b), (0, vL1), (9, 0), (9, 0)]) (st' := [(0, 0), (0, vL1), (2, 97)]) (by decide +kernel) rfl ?_
          refine zwW_as IhL1 (a1 := 97) (a2 := 97) (n := 8) (lo := -1) (hi := 4608) (nx := 26) (by decide +kernel) (by first | decide | exact ⟨by decide, by decide⟩) (by first | omega | exact ⟨by omega, by omega⟩) (by first | decide | exact ⟨by decide, by decide⟩) ?_
          intro h32 eh32 Ih32
          have th32_37_1 : fld h32 37 1 = fld hL1 37 1 := by rw [eh32]; exact fld_wr (by omega)
          have W25 : ∀ j : Nat, (j : Int) < vL1 + 1 → fld h32 97 j ≤ 0 := by
            intro j hj
            by_cases hq : j = (vL1).toNat
            · rw [hq, eh32, fld_wr_eq (IhL1.s (a1 := 97) (a2 := 97) (k := 20) (n := 8) (by decide +kernel) (by decide) (by decide)) (by omega)]; decide
            · rw [eh32, fld_wr (Or.inr hq)]; exact iL1_2 j (by omega)
          have V25 : ∀ j : Nat, (j : Int) < vL1 + 1 → fld h32 97 j = if j = a.toNat then 0 else -1 := by
            intro j hj
            by_cases hq : j = (vL1).toNat
            · rw [hq, eh32, fld_wr_eq (IhL1.s (a1 := 97) (a2 := 97) (k := 20) (n := 8) (by decide +kernel) (by decide) (by decide)) (by omega)]; split <;> omega
            · rw [eh32, fld_wr (Or.inr hq)]; exact iL1_3 j (by omega)
          have Rh32 : zMR ms106 h h32 := RhL1.w (a1 := 97) (a2 := 97) (j1 := 0) (j2 := 8) (by decide +kernel) (by first | decide | exact ⟨by decide, by decide⟩) (by first | omega | exact ⟨by omega, by omega⟩) eh32
          refine zwW_inc (i := 3) (c := 1) (x := vL1) (nx := 29) (by decide +kernel) rfl (by first | omega | exact ⟨by omega, by omega⟩) (ls' := [(2, 37), (0, a), (0, b), (0, (vL1 + 1)), (9, 0), (9, 0)]) rfl ?_
          refine zwW_p [(24, 2, 0)] (q := 2) (ls' := [(2, 37), (0, a), (0, b), (0, (vL1 + 1)), (9, 0), (9, 0)]) (st' := []) (by decide +kernel) rfl ?_
          exact IHL1 ((100 - (vL1 + 1))).toNat (by omega) (vL1 + 1) h32 rfl (by omega) (by omega) (W25) (V25) Ih32 Rh32
  exact L1 _ 0 h rfl (by omega) (by omega) (fun j hj => by omega) (fun j hj => by omega) I R
-- WheelLandModel.far(II)I
theorem m8_f {sc : List Int} (h : Hp) (I : zI h) (a b : Int) (hR : zRO h) : zwC sc 3 8 [(2, 37), (0, a), (0, b)] h (zwRt 0 (fun x g => zI g ∧ zMR ms8 h g ∧ (-2147483648 ≤ x ∧ x ≤ 2147483647) ∧ ((0 ≤ a ∧ a < fld h 37 1 ∧ 0 ≤ b ∧ b < fld h 37 1 ∧ x = zDa h a.toNat b.toNat) ∨ (x = -1 ∧ (a < 0 ∨ fld h 37 1 ≤ a ∨ b < 0 ∨ fld h 37 1 ≤ b))))) := by
  refine zwC_of (D := 2) 3 (by decide +kernel) rfl (ls := [(2, 37), (0, a), (0, b)]) rfl ?_
  have R : zMR ms8 h h := zMR.rf _ _
  refine zwW_p [(1, 0, 2), (1, 1, 0)] (q := 2) (ls' := [(2, 37), (0, a), (0, b)]) (st' := [(0, a), (2, 37)]) (by decide +kernel) rfl ?_
  refine zwW_cm I (op := 60) (k' := 104) (n := 1) (kd := 13) (m := 97) (nx := 5) (r := 37) (tl := [(0, a)]) (st' := []) (by decide +kernel) rfl (by decide +kernel) rfl (m104 h I a) ?_
  rintro x _ ⟨rfl, ⟨rfl, c1⟩ | ⟨rfl, c1⟩⟩
  · refine zwif_eq (q := 25) (nx := 8) (by decide +kernel) (fun c2 => ?_) (fun c2 => ?_)
    · exfalso; omega
    · refine zwW_p [(1, 0, 2), (1, 2, 0)] (q := 10) (ls' := [(2, 37), (0, a), (0, b)]) (st' := [(0, b), (2, 37)]) (by decide +kernel) rfl ?_
      refine zwW_cm I (op := 60) (k' := 104) (n := 1) (kd := 13) (m := 97) (nx := 13) (r := 37) (tl := [(0, b)]) (st' := []) (by decide +kernel) rfl (by decide +kernel) rfl (m104 h I b) ?_
      rintro x _ ⟨rfl, ⟨rfl, c3⟩ | ⟨rfl, c3⟩⟩
      · refine zwif_eq (q := 25) (nx := 16) (by decide +kernel) (fun c4 => ?_) (fun c4 => ?_)
        · exfalso; omega
        · refine zwW_p [(1, 0, 2), (1, 1, 0), (1, 2, 0)] (q := 19) (ls' := [(2, 37), (0, a), (0, b)]) (st' := [(0, b), (0, a), (2, 37)]) (by decide +kernel) rfl ?_
          refine zwW_cm I (op := 60) (k' := 106) (n := 2) (kd := 13) (m := 97) (nx := 22) (r := 37) (tl := [(0, a), (0, b)]) (st' := []) (by decide +kernel) rfl (by decide +kernel) rfl (m106_f h I a b (by omega) (by omega) hR (by omega) (by omega)) ?_
          rintro v5 h10 ⟨Ih10, Qh10, f6, f7, f8, f9⟩
          have Rh10 : zMR ms8 h h10 := R.tr Qh10 (by decide +kernel)
          refine zwW_p [(24, 26, 0)] (q := 26) (ls' := [(2, 37), (0, a), (0, b)]) (st' := [(0, v5)]) (by decide +kernel) rfl ?_
          refine zwW_ret (nx := 27) (a := 0) (b := 0) (by decide +kernel) rfl (Or.inl rfl) ?_
          exact ⟨Ih10, Rh10, by omega, by omega⟩
      · refine zwif_eq (q := 25) (nx := 16) (by decide +kernel) (fun c11 => ?_) (fun c11 => ?_)
        · refine zwW_p [(0, -1, 0)] (q := 26) (ls' := [(2, 37), (0, a), (0, b)]) (st' := [(0, -1)]) (by decide +kernel) rfl ?_
          refine zwW_ret (nx := 27) (a := 0) (b := 0) (by decide +kernel) rfl (Or.inl rfl) ?_
          exact ⟨I, R, by omega, by omega⟩
        · exfalso; omega
  · refine zwif_eq (q := 25) (nx := 8) (by decide +kernel) (fun c12 => ?_) (fun c12 => ?_)
    · refine zwW_p [(0, -1, 0)] (q := 26) (ls' := [(2, 37), (0, a), (0, b)]) (st' := [(0, -1)]) (by decide +kernel) rfl ?_
      refine zwW_ret (nx := 27) (a := 0) (b := 0) (by decide +kernel) rfl (Or.inl rfl) ?_
      exact ⟨I, R, by omega, by omega⟩
    · exfalso; omega
end
section
/-! the law's loop: what is kept -/
section ZL2
variable {sc : List Int} {h h' h1 h2 g : Hp}
def msxL : Zms := [(1, 1100, 0, 100000)]
theorem zAM.sm (A : zAM h) (e : ∀ r : Int, 37 ≤ r ∧ r ≤ 365 → fld g r = fld h r) : zAM g := by
  intro j hj
  rw [e 37 (by decide)] at hj
  rw [e 85 (by decide), e 83 (by decide)]
  exact A j hj
theorem zCW.sm (W : zCW h) (I : zI h) (e : ∀ r : Int, 37 ≤ r ∧ r ≤ 365 → fld g r = fld h r) : zCW g := by
  have b1 := I.b (a1 := 37) (a2 := 37) (j1 := 52) (j2 := 53) (lo := 0) (hi := 8) (by decide +kernel) (r := 37) (j := 52) (by decide) (by decide) (by decide) (by decide)
  refine ⟨fun s c hs hc hp => ?_, fun k hk => ?_⟩
  · rw [e 37 (by decide)] at hs
    rw [e (155 + (s : Int)) (by omega)] at hp ⊢
    rw [e (101 + 6 * (s : Int) + (c : Int)) (by omega)]
    exact W.1 s c hs hc hp
  · rw [e 37 (by decide)] at hk
    rw [e 164 (by decide), e 37 (by decide)]
    exact W.2 k hk
theorem zgetD (hin : ∀ x ∈ sc, in32 x) (i : Nat) : -2147483648 ≤ sc.getD i 0 ∧ sc.getD i 0 ≤ 2147483647 := by
  rw [List.getD_eq_getElem?_getD]
  cases h : sc[i]? with
  | none => exact (by first | decide | exact ⟨by decide, by decide⟩)
  | some x => exact hin x (List.mem_of_getElem? h)
/-- what a round keeps -/
def zLJ (h g : Hp) : Prop := CI g ∧ zAM g ∧ zCW g ∧ zE g ∧ ∃ ms, zXR ms 7 7000 h g
end ZL2
end
