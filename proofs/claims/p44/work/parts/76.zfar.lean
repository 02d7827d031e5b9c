/-! joined: 76.zfar 77.alaw 80.start 81.heap 82.heapck -/
section
/-! contracts of methods -/
-- WheelLandModel.farOf(II)I
theorem m106_f {sc : List Int} (h : Hp) (I : zI h) (a b : Int) (p1 : 0 ≤ b) (p2 : b ≤ 7) (hR : zRO h) (pa : 0 ≤ a ∧ a < fld h 37 1) (pb : b < fld h 37 1) : zwC sc 1 106 [(2, 37), (0, a), (0, b)] h (zwRt 0 (fun x g => zI g ∧ zMR ms106 h g ∧ (-2147483648 ≤ x ∧ x ≤ 2147483647) ∧ (-1 ≤ x) ∧ (x ≤ 4608) ∧ (x = zDa h a.toNat b.toNat))) := by
  refine zwC_of (D := 0) 6 (by decide +kernel) rfl (ls := [(2, 37), (0, a), (0, b), (9, 0), (9, 0), (9, 0)]) rfl ?_
  have R : zMR ms106 h h := zMR.rf _ _
  have N0 := I.b (a1 := 37) (a2 := 37) (j1 := 1) (j2 := 2) (lo := 0) (hi := 8) (by decide +kernel) (r := 37) (j := 1) (by decide) (by decide) (by decide) (by decide)
  have G0 := hR.gd (A := a.toNat) (n := (fld h 37 1).toNat) (by omega) (by omega) (by omega)
  refine zwW_p [(0, 0, 0), (2, 3, 0)] (q := 2) (ls' := [(2, 37), (0, a), (0, b), (0, 0), (9, 0), (9, 0)]) (st' := []) (by decide +kernel) rfl ?_
  have L1 : ∀ (n0 : Nat) (vL1 : Int) (hL1 : Hp), n0 = ((100 - vL1)).toNat → (0 ≤ vL1 ∧ vL1 ≤ 8) → (fld hL1 37 1 = fld h 37 1) → (∀ j : Nat, (j : Int) < vL1 → fld hL1 97 j ≤ 0) → (∀ j : Nat, (j : Int) < vL1 → fld hL1 97 j = if j = a.toNat then 0 else -1) → zI hL1 → zMR ms106 h hL1 → zwW sc (0) 106 2 [(2, 37), (0, a), (0, b), (0, vL1), (9, 0), (9, 0)] [] hL1 (zwRt 0 (fun x g => zI g ∧ zMR ms106 h g ∧ (-2147483648 ≤ x ∧ x ≤ 2147483647) ∧ (-1 ≤ x) ∧ (x ≤ 4608) ∧ (x = zDa h a.toNat b.toNat))) := by
    intro n0
    induction n0 using Nat.strongRecOn with
    | ind n0 IHL1 =>
      intro vL1 hL1 hnL1 iL1_0 iL1_1 iL1_2 iL1_3 IhL1 RhL1
      refine zwW_p [(1, 3, 0), (1, 0, 2)] (q := 4) (ls' := [(2, 37), (0, a), (0, b), (0, vL1), (9, 0), (9, 0)]) (st' := [(2, 37), (0, vL1)]) (by decide +kernel) rfl ?_
      refine zwW_gs IhL1 (kd := 13) (bn := 1) (n := 97) (t := 0) (lo := 0) (hi := 8) (nx := 7) (by decide +kernel) ?_
      intro v2 ev2 lv2 uv2
      refine zwic_ge (q := 32) (nx := 10) (by decide +kernel) (fun c3 => ?_) (fun c3 => ?_)
      · refine zwW_p [(0, 0, 0), (2, 3, 0)] (q := 34) (ls' := [(2, 37), (0, a), (0, b), (0, 0), (9, 0), (9, 0)]) (st' := []) (by decide +kernel) rfl ?_
        have L4 : ∀ (n0 : Nat) (kL4 : Int) (w4L4 w5L4 : Vl) (hL4 : Hp), n0 = ((100 - kL4)).toNat → (0 ≤ kL4 ∧ kL4 ≤ 8) → (fld hL4 37 1 = fld h 37 1) → (∀ j : Nat, (j : Int) < fld h 37 1 → fld hL4 97 j ≤ 9 * (64 * kL4)) → (zBf (zLa h) (zLe h a.toNat) (fld h 37 1).toNat (kL4).toNat 0 0 (fld hL4 97)) → zI hL4 → zMR ms106 h hL4 → zwW sc (0) 106 34 [(2, 37), (0, a), (0, b), (0, kL4), w4L4, w5L4] [] hL4 (zwRt 0 (fun x g => zI g ∧ zMR ms106 h g ∧ (-2147483648 ≤ x ∧ x ≤ 2147483647) ∧ (-1 ≤ x) ∧ (x ≤ 4608) ∧ (x = zDa h a.toNat b.toNat))) := by
          intro n0
          induction n0 using Nat.strongRecOn with
          | ind n0 IHL4 =>
            intro kL4 w4L4 w5L4 hL4 hnL4 iL4_0 iL4_1 iL4_2 iL4_3 IhL4 RhL4
            refine zwW_p [(1, 3, 0), (1, 0, 2)] (q := 36) (ls' := [(2, 37), (0, a), (0, b), (0, kL4), w4L4, w5L4]) (st' := [(2, 37), (0, kL4)]) (by decide +kernel) rfl ?_
            refine zwW_gs IhL4 (kd := 13) (bn := 1) (n := 97) (t := 0) (lo := 0) (hi := 8) (nx := 39) (by decide +kernel) ?_
            intro v5 ev5 lv5 uv5
            refine zwic_ge (q := 175) (nx := 42) (by decide +kernel) (fun c6 => ?_) (fun c6 => ?_)
            · refine zwW_p [(1, 0, 2)] (q := 176) (ls' := [(2, 37), (0, a), (0, b), (0, kL4), w4L4, w5L4]) (st' := [(2, 37)]) (by decide +kernel) rfl ?_
              refine zwW_gc IhL4 (kd := 13) (bn := 39) (n := 97) (c := 97) (nx := 179) (by decide +kernel) ?_
              refine zwW_p [(1, 2, 0)] (q := 180) (ls' := [(2, 37), (0, a), (0, b), (0, kL4), w4L4, w5L4]) (st' := [(0, b), (2, 97)]) (by decide +kernel) rfl ?_
              have ib1 : 0 ≤ b ∧ b < ((8 : Nat) : Int) := (by first | omega | exact ⟨by omega, by omega⟩)
              refine zwW_al IhL4 (a1 := 97) (a2 := 97) (kd := 20) (n := 8) (t := 0) (lo := -1) (hi := 4608) (nx := 181) (by decide +kernel) (by first | decide | exact ⟨by decide, by decide⟩) ib1 ?_
              intro v7 ev7 lv7 uv7
              refine zwW_ret (nx := 182) (a := 0) (b := 0) (by decide +kernel) rfl (Or.inl rfl) ?_
              exact ⟨IhL4, RhL4, by omega, by omega, by omega, by have Z181 := zBf.fin G0 iL4_3 (by omega) (v := b.toNat) (by omega) (by omega); unfold zDa; rw [show v7 = fld hL4 97 b.toNat by omega]; exact Z181⟩
            · refine zwW_p [(0, 0, 0), (2, 4, 0)] (q := 45) (ls' := [(2, 37), (0, a), (0, b), (0, kL4), (0, 0), w5L4]) (st' := []) (by decide +kernel) rfl ?_
              have L8 : ∀ (n0 : Nat) (xL8 : Int) (w5L8 : Vl) (hL8 : Hp), n0 = ((100 - xL8)).toNat → (0 ≤ xL8 ∧ xL8 ≤ 8) → (fld hL8 37 1 = fld h 37 1) → (∀ j : Nat, (j : Int) < fld h 37 1 → fld hL8 97 j ≤ 9 * (64 * kL4 + 8 * xL8)) → (zBf (zLa h) (zLe h a.toNat) (fld h 37 1).toNat (kL4).toNat (xL8).toNat 0 (fld hL8 97)) → zI hL8 → zMR ms106 h hL8 → zwW sc (0) 106 45 [(2, 37), (0, a), (0, b), (0, kL4), (0, xL8), w5L8] [] hL8 (zwRt 0 (fun x g => zI g ∧ zMR ms106 h g ∧ (-2147483648 ≤ x ∧ x ≤ 2147483647) ∧ (-1 ≤ x) ∧ (x ≤ 4608) ∧ (x = zDa h a.toNat b.toNat))) := by
                intro n0
                induction n0 using Nat.strongRecOn with
                | ind n0 IHL8 =>
                  intro xL8 w5L8 hL8 hnL8 iL8_0 iL8_1 iL8_2 iL8_3 IhL8 RhL8
                  refine zwW_p [(1, 4, 0), (1, 0, 2)] (q := 48) (ls' := [(2, 37), (0, a), (0, b), (0, kL4), (0, xL8), w5L8]) (st' := [(2, 37), (0, xL8)]) (by decide +kernel) rfl ?_
                  refine zwW_gs IhL8 (kd := 13) (bn := 1) (n := 97) (t := 0) (lo := 0) (hi := 8) (nx := 51) (by decide +kernel) ?_
                  intro v9 ev9 lv9 uv9
                  refine zwic_ge (q := 169) (nx := 54) (by decide +kernel) (fun c10 => ?_) (fun c10 => ?_)
                  · refine zwW_inc (i := 3) (c := 1) (x := kL4) (nx := 172) (by decide +kernel) rfl (by first | omega | exact ⟨by omega, by omega⟩) (ls' := [(2, 37), (0, a), (0, b), (0, (kL4 + 1)), (0, xL8), w5L8]) rfl ?_
                    refine zwW_p [(24, 34, 0)] (q := 34) (ls' := [(2, 37), (0, a), (0, b), (0, (kL4 + 1)), (0, xL8), w5L8]) (st' := []) (by decide +kernel) rfl ?_
                    exact IHL4 ((100 - (kL4 + 1))).toNat (by omega) (kL4 + 1) (0, xL8) w5L8 hL8 rfl (by omega) (by omega) (fun j hj => by have := iL8_2 j hj; omega) (by rw [show (kL4 + 1).toNat = (kL4).toNat + 1 by omega]; exact zBf.nk G0 iL8_3 (by omega)) IhL8 RhL8
                  · refine zwW_p [(0, 0, 0), (2, 5, 0)] (q := 57) (ls' := [(2, 37), (0, a), (0, b), (0, kL4), (0, xL8), (0, 0)]) (st' := []) (by decide +kernel) rfl ?_
                    have L11 : ∀ (n0 : Nat) (yL11 : Int) (hL11 : Hp), n0 = ((100 - yL11)).toNat → (0 ≤ yL11 ∧ yL11 ≤ 8) → (fld hL11 37 1 = fld h 37 1) → (∀ j : Nat, (j : Int) < fld h 37 1 → fld hL11 97 j ≤ 9 * (64 * kL4 + 8 * xL8 + yL11)) → (zBf (zLa h) (zLe h a.toNat) (fld h 37 1).toNat (kL4).toNat (xL8).toNat (yL11).toNat (fld hL11 97)) → zI hL11 → zMR ms106 h hL11 → zwW sc (0) 106 57 [(2, 37), (0, a), (0, b), (0, kL4), (0, xL8), (0, yL11)] [] hL11 (zwRt 0 (fun x g => zI g ∧ zMR ms106 h g ∧ (-2147483648 ≤ x ∧ x ≤ 2147483647) ∧ (-1 ≤ x) ∧ (x ≤ 4608) ∧ (x = zDa h a.toNat b.toNat))) := by
                      intro n0
                      induction n0 using Nat.strongRecOn with
                      | ind n0 IHL11 =>
                        intro yL11 hL11 hnL11 iL11_0 iL11_1 iL11_2 iL11_3 IhL11 RhL11
                        refine zwW_p [(1, 5, 0), (1, 0, 2)] (q := 60) (ls' := [(2, 37), (0, a), (0, b), (0, kL4), (0, xL8), (0, yL11)]) (st' := [(2, 37), (0, yL11)]) (by decide +kernel) rfl ?_
                        refine zwW_gs IhL11 (kd := 13) (bn := 1) (n := 97) (t := 0) (lo := 0) (hi := 8) (nx := 63) (by decide +kernel) ?_
                        intro v12 ev12 lv12 uv12
                        refine zwic_ge (q := 163) (nx := 66) (by decide +kernel) (fun c13 => ?_) (fun c13 => ?_)
                        · refine zwW_inc (i := 4) (c := 1) (x := xL8) (nx := 166) (by decide +kernel) rfl (by first | omega | exact ⟨by omega, by omega⟩) (ls' := [(2, 37), (0, a), (0, b), (0, kL4), (0, (xL8 + 1)), (0, yL11)]) rfl ?_
                          refine zwW_p [(24, 45, 0)] (q := 45) (ls' := [(2, 37), (0, a), (0, b), (0, kL4), (0, (xL8 + 1)), (0, yL11)]) (st' := []) (by decide +kernel) rfl ?_
                          exact IHL8 ((100 - (xL8 + 1))).toNat (by omega) (xL8 + 1) (0, yL11) hL11 rfl (by omega) (by omega) (fun j hj => by have := iL11_2 j hj; omega) (by rw [show (xL8 + 1).toNat = (xL8).toNat + 1 by omega]; exact zBf.nx iL11_3 (by omega)) IhL11 RhL11
                        · have D66 := hR.2.2 (xL8).toNat (yL11).toNat (by omega) (by omega)
                          have e66 : fld h (48 + (((xL8).toNat : Nat) : Int)) (yL11).toNat = fld hL11 (48 + xL8) (yL11).toNat := by rw [show (((xL8).toNat : Nat) : Int) = xL8 by omega]; exact (RhL11.f (a1 := 48) (a2 := 55) (j1 := 0) (j2 := 8) (by decide +kernel) (by first | omega | exact ⟨by omega, by omega⟩) (by first | omega | exact ⟨by omega, by omega⟩)).symm
                          rw [e66] at D66
                          refine zwW_p [(1, 0, 2)] (q := 67) (ls' := [(2, 37), (0, a), (0, b), (0, kL4), (0, xL8), (0, yL11)]) (st' := [(2, 37)]) (by decide +kernel) rfl ?_
                          refine zwW_gc IhL11 (kd := 13) (bn := 39) (n := 97) (c := 97) (nx := 70) (by decide +kernel) ?_
                          refine zwW_p [(1, 4, 0)] (q := 72) (ls' := [(2, 37), (0, a), (0, b), (0, kL4), (0, xL8), (0, yL11)]) (st' := [(0, xL8), (2, 97)]) (by decide +kernel) rfl ?_
                          have ib2 : 0 ≤ xL8 ∧ xL8 < ((8 : Nat) : Int) := (by first | omega | exact ⟨by omega, by omega⟩)
                          refine zwW_al IhL11 (a1 := 97) (a2 := 97) (kd := 20) (n := 8) (t := 0) (lo := -1) (hi := 4608) (nx := 73) (by decide +kernel) (by first | decide | exact ⟨by decide, by decide⟩) ib2 ?_
                          intro v14 ev14 lv14 uv14
                          refine zwW_p [(0, -1, 0)] (q := 74) (ls' := [(2, 37), (0, a), (0, b), (0, kL4), (0, xL8), (0, yL11)]) (st' := [(0, -1), (0, v14)]) (by decide +kernel) rfl ?_
                          refine zwic_eq (q := 157) (nx := 77) (by decide +kernel) (fun c15 => ?_) (fun c15 => ?_)
                          · refine zwW_inc (i := 5) (c := 1) (x := yL11) (nx := 160) (by decide +kernel) rfl (by first | omega | exact ⟨by omega, by omega⟩) (ls' := [(2, 37), (0, a), (0, b), (0, kL4), (0, xL8), (0, (yL11 + 1))]) rfl ?_
                            refine zwW_p [(24, 57, 0)] (q := 57) (ls' := [(2, 37), (0, a), (0, b), (0, kL4), (0, xL8), (0, (yL11 + 1))]) (st' := []) (by decide +kernel) rfl ?_
                            exact IHL11 ((100 - (yL11 + 1))).toNat (by omega) (yL11 + 1) hL11 rfl (by omega) (by omega) (by first | exact fun j hj => (by have := iL11_2 j hj; omega) | exact W156) (by rw [show (yL11 + 1).toNat = (yL11).toNat + 1 by omega]; first | exact Z156 | exact zBf.sk G0 iL11_3 (by omega) (by omega) D66.1 (by omega)) IhL11 RhL11
                          · refine zwW_p [(1, 0, 2)] (q := 78) (ls' := [(2, 37), (0, a), (0, b), (0, kL4), (0, xL8), (0, yL11)]) (st' := [(2, 37)]) (by decide +kernel) rfl ?_
                            refine zwW_gc IhL11 (kd := 13) (bn := 4) (n := 97) (c := 47) (nx := 81) (by decide +kernel) ?_
                            refine zwW_p [(1, 4, 0)] (q := 83) (ls' := [(2, 37), (0, a), (0, b), (0, kL4), (0, xL8), (0, yL11)]) (st' := [(0, xL8), (2, 47)]) (by decide +kernel) rfl ?_
                            refine zwW_ro IhL11 (a := 47) (n := 8) (kd := 26) (base := 48) (step := 1) (nx := 84) (by decide +kernel) rfl (by first | omega | exact ⟨by omega, by omega⟩) ?_
                            rw [show ((48 : Nat) : Int) + ((1 : Nat) : Int) * xL8 = (48 + xL8) by omega]
                            refine zwW_p [(1, 5, 0)] (q := 86) (ls' := [(2, 37), (0, a), (0, b), (0, kL4), (0, xL8), (0, yL11)]) (st' := [(0, yL11), (2, (48 + xL8))]) (by decide +kernel) rfl ?_
                            have ib3 : 0 ≤ yL11 ∧ yL11 < ((8 : Nat) : Int) := (by first | omega | exact ⟨by omega, by omega⟩)
                            refine zwW_al IhL11 (a1 := 48) (a2 := 55) (kd := 20) (n := 8) (t := 0) (lo := 0) (hi := 9) (nx := 87) (by decide +kernel) (by first | omega | exact ⟨by omega, by omega⟩) ib3 ?_
                            intro v16 ev16 lv16 uv16
                            refine zwif_ne (q := 93) (nx := 90) (by decide +kernel) (fun c17 => ?_) (fun c17 => ?_)
                            · refine zwW_p [(1, 0, 2)] (q := 94) (ls' := [(2, 37), (0, a), (0, b), (0, kL4), (0, xL8), (0, yL11)]) (st' := [(2, 37)]) (by decide +kernel) rfl ?_
                              refine zwW_gc IhL11 (kd := 13) (bn := 39) (n := 97) (c := 97) (nx := 97) (by decide +kernel) ?_
                              refine zwW_p [(1, 5, 0)] (q := 99) (ls' := [(2, 37), (0, a), (0, b), (0, kL4), (0, xL8), (0, yL11)]) (st' := [(0, yL11), (2, 97)]) (by decide +kernel) rfl ?_
                              refine zwW_al IhL11 (a1 := 97) (a2 := 97) (kd := 20) (n := 8) (t := 0) (lo := -1) (hi := 4608) (nx := 100) (by decide +kernel) (by first | decide | exact ⟨by decide, by decide⟩) ib3 ?_
                              intro v18 ev18 lv18 uv18
                              refine zwW_p [(0, -1, 0)] (q := 101) (ls' := [(2, 37), (0, a), (0, b), (0, kL4), (0, xL8), (0, yL11)]) (st' := [(0, -1), (0, v18)]) (by decide +kernel) rfl ?_
                              refine zwic_eq (q := 132) (nx := 104) (by decide +kernel) (fun c19 => ?_) (fun c19 => ?_)
                              · refine zwW_p [(1, 0, 2)] (q := 133) (ls' := [(2, 37), (0, a), (0, b), (0, kL4), (0, xL8), (0, yL11)]) (st' := [(2, 37)]) (by decide +kernel) rfl ?_
                                refine zwW_gc IhL11 (kd := 13) (bn := 39) (n := 97) (c := 97) (nx := 136) (by decide +kernel) ?_
                                refine zwW_p [(1, 5, 0), (1, 0, 2)] (q := 139) (ls' := [(2, 37), (0, a), (0, b), (0, kL4), (0, xL8), (0, yL11)]) (st' := [(2, 37), (0, yL11), (2, 97)]) (by decide +kernel) rfl ?_
                                refine zwW_gc IhL11 (kd := 13) (bn := 39) (n := 97) (c := 97) (nx := 142) (by decide +kernel) ?_
                                refine zwW_p [(1, 4, 0)] (q := 144) (ls' := [(2, 37), (0, a), (0, b), (0, kL4), (0, xL8), (0, yL11)]) (st' := [(0, xL8), (2, 97), (0, yL11), (2, 97)]) (by decide +kernel) rfl ?_
                                refine zwW_al IhL11 (a1 := 97) (a2 := 97) (kd := 20) (n := 8) (t := 0) (lo := -1) (hi := 4608) (nx := 145) (by decide +kernel) (by first | decide | exact ⟨by decide, by decide⟩) ib2 ?_
                                intro v20 ev20 lv20 uv20
                                refine zwW_p [(1, 0, 2)] (q := 146) (ls' := [(2, 37), (0, a), (0, b), (0, kL4), (0, xL8), (0, yL11)]) (st' := [(2, 37), (0, v20), (0, yL11), (2, 97)]) (by decide +kernel) rfl ?_
                                refine zwW_gc IhL11 (kd := 13) (bn := 4) (n := 97) (c := 47) (nx := 149) (by decide +kernel) ?_
                                refine zwW_p [(1, 4, 0)] (q := 151) (ls' := [(2, 37), (0, a), (0, b), (0, kL4), (0, xL8), (0, yL11)]) (st' := [(0, xL8), (2, 47), (0, v20), (0, yL11), (2, 97)]) (by decide +kernel) rfl ?_
                                refine zwW_ro IhL11 (a := 47) (n := 8) (kd := 26) (base := 48) (step := 1) (nx := 152) (by decide +kernel) rfl (by first | omega | exact ⟨by omega, by omega⟩) ?_
                                rw [show ((48 : Nat) : Int) + ((1 : Nat) : Int) * xL8 = (48 + xL8) by omega]
                                refine zwW_p [(1, 5, 0)] (q := 154) (ls' := [(2, 37), (0, a), (0, b), (0, kL4), (0, xL8), (0, yL11)]) (st' := [(0, yL11), (2, (48 + xL8)), (0, v20), (0, yL11), (2, 97)]) (by decide +kernel) rfl ?_
                                refine zwW_al IhL11 (a1 := 48) (a2 := 55) (kd := 20) (n := 8) (t := 0) (lo := 0) (hi := 9) (nx := 155) (by decide +kernel) (by first | omega | exact ⟨by omega, by omega⟩) ib3 ?_
                                intro v21 ev21 lv21 uv21
                                refine zwW_add (nx := 156) (by decide +kernel) (by first | omega | exact ⟨by omega, by omega⟩) ?_
                                have B156 := iL11_2 (xL8).toNat (by omega)
                                refine zwW_as IhL11 (a1 := 97) (a2 := 97) (n := 8) (lo := -1) (hi := 4608) (nx := 157) (by decide +kernel) (by first | decide | exact ⟨by decide, by decide⟩) ib3 (by first | omega | exact ⟨by omega, by omega⟩) ?_
                                intro h22 eh22 Ih22
                                have jbh22 : 0 ≤ yL11.toNat ∧ yL11.toNat < 8 := ⟨Nat.zero_le _, zit ib3⟩
                                have th22_37_1 : fld h22 37 1 = fld hL11 37 1 := by rw [eh22]; exact fld_wr (Or.inl (by decide))
                                have W156 : ∀ j : Nat, (j : Int) < fld h 37 1 → fld h22 97 j ≤ 9 * (64 * kL4 + 8 * xL8 + (yL11 + 1)) := fld_all (P := fun j z => (j : Int) < fld h 37 1 → z ≤ 9 * (64 * kL4 + 8 * xL8 + (yL11 + 1))) (fun j hj => by have := iL11_2 j hj; omega) (fun _ => by have := iL11_2 (xL8).toNat (by omega); omega) eh22
                                have Z156 : zBf (zLa h) (zLe h a.toNat) (fld h 37 1).toNat (kL4).toNat (xL8).toNat ((yL11).toNat + 1) (fld h22 97) := zBf.rl G0 iL11_3 (by omega) (by omega) D66.1 (by omega) (D66.2 (by omega)).1 (by omega) (by omega) (by rw [eh22, fld_wr_eq (IhL11.s (a1 := 97) (a2 := 97) (k := 20) (n := 8) (by decide +kernel) (by decide) (by decide)) (by omega)]; omega) (fun v hv => by rw [eh22]; exact fld_wr (Or.inr hv))
                                have Rh22 : zMR ms106 h h22 := RhL11.w (a1 := 97) (a2 := 97) (j1 := 0) (j2 := 8) (by decide +kernel) (by first | decide | exact ⟨by decide, by decide⟩) jbh22 eh22
                                refine zwW_inc (i := 5) (c := 1) (x := yL11) (nx := 160) (by decide +kernel) rfl (by first | omega | exact ⟨by omega, by omega⟩) (ls' := [(2, 37), (0, a), (0, b), (0, kL4), (0, xL8), (0, (yL11 + 1))]) rfl ?_
                                refine zwW_p [(24, 57, 0)] (q := 57) (ls' := [(2, 37), (0, a), (0, b), (0, kL4), (0, xL8), (0, (yL11 + 1))]) (st' := []) (by decide +kernel) rfl ?_
                                exact IHL11 ((100 - (yL11 + 1))).toNat (by omega) (yL11 + 1) h22 rfl (by omega) (by omega) (by first | exact fun j hj => (by have := iL11_2 j hj; omega) | exact W156) (by rw [show (yL11 + 1).toNat = (yL11).toNat + 1 by omega]; first | exact Z156 | exact zBf.sk G0 iL11_3 (by omega) (by omega) D66.1 (by omega)) Ih22 Rh22
                              · refine zwW_p [(1, 0, 2)] (q := 105) (ls' := [(2, 37), (0, a), (0, b), (0, kL4), (0, xL8), (0, yL11)]) (st' := [(2, 37)]) (by decide +kernel) rfl ?_
                                refine zwW_gc IhL11 (kd := 13) (bn := 39) (n := 97) (c := 97) (nx := 108) (by decide +kernel) ?_
                                refine zwW_p [(1, 4, 0)] (q := 110) (ls' := [(2, 37), (0, a), (0, b), (0, kL4), (0, xL8), (0, yL11)]) (st' := [(0, xL8), (2, 97)]) (by decide +kernel) rfl ?_
                                refine zwW_al IhL11 (a1 := 97) (a2 := 97) (kd := 20) (n := 8) (t := 0) (lo := -1) (hi := 4608) (nx := 111) (by decide +kernel) (by first | decide | exact ⟨by decide, by decide⟩) ib2 ?_
                                intro v23 ev23 lv23 uv23
                                refine zwW_p [(1, 0, 2)] (q := 112) (ls' := [(2, 37), (0, a), (0, b), (0, kL4), (0, xL8), (0, yL11)]) (st' := [(2, 37), (0, v23)]) (by decide +kernel) rfl ?_
                                refine zwW_gc IhL11 (kd := 13) (bn := 4) (n := 97) (c := 47) (nx := 115) (by decide +kernel) ?_
                                refine zwW_p [(1, 4, 0)] (q := 117) (ls' := [(2, 37), (0, a), (0, b), (0, kL4), (0, xL8), (0, yL11)]) (st' := [(0, xL8), (2, 47), (0, v23)]) (by decide +kernel) rfl ?_
                                refine zwW_ro IhL11 (a := 47) (n := 8) (kd := 26) (base := 48) (step := 1) (nx := 118) (by decide +kernel) rfl (by first | omega | exact ⟨by omega, by omega⟩) ?_
                                rw [show ((48 : Nat) : Int) + ((1 : Nat) : Int) * xL8 = (48 + xL8) by omega]
                                refine zwW_p [(1, 5, 0)] (q := 120) (ls' := [(2, 37), (0, a), (0, b), (0, kL4), (0, xL8), (0, yL11)]) (st' := [(0, yL11), (2, (48 + xL8)), (0, v23)]) (by decide +kernel) rfl ?_
                                refine zwW_al IhL11 (a1 := 48) (a2 := 55) (kd := 20) (n := 8) (t := 0) (lo := 0) (hi := 9) (nx := 121) (by decide +kernel) (by first | omega | exact ⟨by omega, by omega⟩) ib3 ?_
                                intro v24 ev24 lv24 uv24
                                refine zwW_add (nx := 122) (by decide +kernel) (by first | omega | exact ⟨by omega, by omega⟩) ?_
                                refine zwW_p [(1, 0, 2)] (q := 123) (ls' := [(2, 37), (0, a), (0, b), (0, kL4), (0, xL8), (0, yL11)]) (st' := [(2, 37), (0, (v23 + v24))]) (by decide +kernel) rfl ?_
                                refine zwW_gc IhL11 (kd := 13) (bn := 39) (n := 97) (c := 97) (nx := 126) (by decide +kernel) ?_
                                refine zwW_p [(1, 5, 0)] (q := 128) (ls' := [(2, 37), (0, a), (0, b), (0, kL4), (0, xL8), (0, yL11)]) (st' := [(0, yL11), (2, 97), (0, (v23 + v24))]) (by decide +kernel) rfl ?_
                                refine zwW_al IhL11 (a1 := 97) (a2 := 97) (kd := 20) (n := 8) (t := 0) (lo := -1) (hi := 4608) (nx := 129) (by decide +kernel) (by first | decide | exact ⟨by decide, by decide⟩) ib3 ?_
                                intro v25 ev25 lv25 uv25
                                refine zwic_ge (q := 157) (nx := 132) (by decide +kernel) (fun c26 => ?_) (fun c26 => ?_)
                                · refine zwW_inc (i := 5) (c := 1) (x := yL11) (nx := 160) (by decide +kernel) rfl (by first | omega | exact ⟨by omega, by omega⟩) (ls' := [(2, 37), (0, a), (0, b), (0, kL4), (0, xL8), (0, (yL11 + 1))]) rfl ?_
                                  refine zwW_p [(24, 57, 0)] (q := 57) (ls' := [(2, 37), (0, a), (0, b), (0, kL4), (0, xL8), (0, (yL11 + 1))]) (st' := []) (by decide +kernel) rfl ?_
                                  exact IHL11 ((100 - (yL11 + 1))).toNat (by omega) (yL11 + 1) hL11 rfl (by omega) (by omega) (by first | exact fun j hj => (by have := iL11_2 j hj; omega) | exact W156) (by rw [show (yL11 + 1).toNat = (yL11).toNat + 1 by omega]; first | exact Z156 | exact zBf.sk G0 iL11_3 (by omega) (by omega) D66.1 (by omega)) IhL11 RhL11
                                · refine zwW_p [(1, 0, 2)] (q := 133) (ls' := [(2, 37), (0, a), (0, b), (0, kL4), (0, xL8), (0, yL11)]) (st' := [(2, 37)]) (by decide +kernel) rfl ?_
                                  refine zwW_gc IhL11 (kd := 13) (bn := 39) (n := 97) (c := 97) (nx := 136) (by decide +kernel) ?_
                                  refine zwW_p [(1, 5, 0), (1, 0, 2)] (q := 139) (ls' := [(2, 37), (0, a), (0, b), (0, kL4), (0, xL8), (0, yL11)]) (st' := [(2, 37), (0, yL11), (2, 97)]) (by decide +kernel) rfl ?_
                                  refine zwW_gc IhL11 (kd := 13) (bn := 39) (n := 97) (c := 97) (nx := 142) (by decide +kernel) ?_
                                  refine zwW_p [(1, 4, 0)] (q := 144) (ls' := [(2, 37), (0, a), (0, b), (0, kL4), (0, xL8), (0, yL11)]) (st' := [(0, xL8), (2, 97), (0, yL11), (2, 97)]) (by decide +kernel) rfl ?_
                                  refine zwW_al IhL11 (a1 := 97) (a2 := 97) (kd := 20) (n := 8) (t := 0) (lo := -1) (hi := 4608) (nx := 145) (by decide +kernel) (by first | decide | exact ⟨by decide, by decide⟩) ib2 ?_
                                  intro v27 ev27 lv27 uv27
                                  refine zwW_p [(1, 0, 2)] (q := 146) (ls' := [(2, 37), (0, a), (0, b), (0, kL4), (0, xL8), (0, yL11)]) (st' := [(2, 37), (0, v27), (0, yL11), (2, 97)]) (by decide +kernel) rfl ?_
                                  refine zwW_gc IhL11 (kd := 13) (bn := 4) (n := 97) (c := 47) (nx := 149) (by decide +kernel) ?_
                                  refine zwW_p [(1, 4, 0)] (q := 151) (ls' := [(2, 37), (0, a), (0, b), (0, kL4), (0, xL8), (0, yL11)]) (st' := [(0, xL8), (2, 47), (0, v27), (0, yL11), (2, 97)]) (by decide +kernel) rfl ?_
                                  refine zwW_ro IhL11 (a := 47) (n := 8) (kd := 26) (base := 48) (step := 1) (nx := 152) (by decide +kernel) rfl (by first | omega | exact ⟨by omega, by omega⟩) ?_
                                  rw [show ((48 : Nat) : Int) + ((1 : Nat) : Int) * xL8 = (48 + xL8) by omega]
                                  refine zwW_p [(1, 5, 0)] (q := 154) (ls' := [(2, 37), (0, a), (0, b), (0, kL4), (0, xL8), (0, yL11)]) (st' := [(0, yL11), (2, (48 + xL8)), (0, v27), (0, yL11), (2, 97)]) (by decide +kernel) rfl ?_
                                  refine zwW_al IhL11 (a1 := 48) (a2 := 55) (kd := 20) (n := 8) (t := 0) (lo := 0) (hi := 9) (nx := 155) (by decide +kernel) (by first | omega | exact ⟨by omega, by omega⟩) ib3 ?_
                                  intro v28 ev28 lv28 uv28
                                  refine zwW_add (nx := 156) (by decide +kernel) (by first | omega | exact ⟨by omega, by omega⟩) ?_
                                  have B156 := iL11_2 (xL8).toNat (by omega)
                                  refine zwW_as IhL11 (a1 := 97) (a2 := 97) (n := 8) (lo := -1) (hi := 4608) (nx := 157) (by decide +kernel) (by first | decide | exact ⟨by decide, by decide⟩) ib3 (by first | omega | exact ⟨by omega, by omega⟩) ?_
                                  intro h29 eh29 Ih29
                                  have jbh29 : 0 ≤ yL11.toNat ∧ yL11.toNat < 8 := ⟨Nat.zero_le _, zit ib3⟩
                                  have th29_37_1 : fld h29 37 1 = fld hL11 37 1 := by rw [eh29]; exact fld_wr (Or.inl (by decide))
                                  have W156 : ∀ j : Nat, (j : Int) < fld h 37 1 → fld h29 97 j ≤ 9 * (64 * kL4 + 8 * xL8 + (yL11 + 1)) := fld_all (P := fun j z => (j : Int) < fld h 37 1 → z ≤ 9 * (64 * kL4 + 8 * xL8 + (yL11 + 1))) (fun j hj => by have := iL11_2 j hj; omega) (fun _ => by have := iL11_2 (xL8).toNat (by omega); omega) eh29
                                  have Z156 : zBf (zLa h) (zLe h a.toNat) (fld h 37 1).toNat (kL4).toNat (xL8).toNat ((yL11).toNat + 1) (fld h29 97) := zBf.rl G0 iL11_3 (by omega) (by omega) D66.1 (by omega) (D66.2 (by omega)).1 (by omega) (by omega) (by rw [eh29, fld_wr_eq (IhL11.s (a1 := 97) (a2 := 97) (k := 20) (n := 8) (by decide +kernel) (by decide) (by decide)) (by omega)]; omega) (fun v hv => by rw [eh29]; exact fld_wr (Or.inr hv))
                                  have Rh29 : zMR ms106 h h29 := RhL11.w (a1 := 97) (a2 := 97) (j1 := 0) (j2 := 8) (by decide +kernel) (by first | decide | exact ⟨by decide, by decide⟩) jbh29 eh29
                                  refine zwW_inc (i := 5) (c := 1) (x := yL11) (nx := 160) (by decide +kernel) rfl (by first | omega | exact ⟨by omega, by omega⟩) (ls' := [(2, 37), (0, a), (0, b), (0, kL4), (0, xL8), (0, (yL11 + 1))]) rfl ?_
                                  refine zwW_p [(24, 57, 0)] (q := 57) (ls' := [(2, 37), (0, a), (0, b), (0, kL4), (0, xL8), (0, (yL11 + 1))]) (st' := []) (by decide +kernel) rfl ?_
                                  exact IHL11 ((100 - (yL11 + 1))).toNat (by omega) (yL11 + 1) h29 rfl (by omega) (by omega) (by first | exact fun j hj => (by have := iL11_2 j hj; omega) | exact W156) (by rw [show (yL11 + 1).toNat = (yL11).toNat + 1 by omega]; first | exact Z156 | exact zBf.sk G0 iL11_3 (by omega) (by omega) D66.1 (by omega)) Ih29 Rh29
                            · refine zwW_p [(24, 157, 0)] (q := 157) (ls' := [(2, 37), (0, a), (0, b), (0, kL4), (0, xL8), (0, yL11)]) (st' := []) (by decide +kernel) rfl ?_
                              refine zwW_inc (i := 5) (c := 1) (x := yL11) (nx := 160) (by decide +kernel) rfl (by first | omega | exact ⟨by omega, by omega⟩) (ls' := [(2, 37), (0, a), (0, b), (0, kL4), (0, xL8), (0, (yL11 + 1))]) rfl ?_
                              refine zwW_p [(24, 57, 0)] (q := 57) (ls' := [(2, 37), (0, a), (0, b), (0, kL4), (0, xL8), (0, (yL11 + 1))]) (st' := []) (by decide +kernel) rfl ?_
                              exact IHL11 ((100 - (yL11 + 1))).toNat (by omega) (yL11 + 1) hL11 rfl (by omega) (by omega) (by first | exact fun j hj => (by have := iL11_2 j hj; omega) | exact W156) (by rw [show (yL11 + 1).toNat = (yL11).toNat + 1 by omega]; first | exact Z156 | exact zBf.sk G0 iL11_3 (by omega) (by omega) D66.1 (by omega)) IhL11 RhL11
                    exact L11 _ 0 hL8 rfl (by omega) (by omega) (fun j hj => by have := iL8_2 j hj; omega) (iL8_3) IhL8 RhL8
              exact L8 _ 0 w5L4 hL4 rfl (by omega) (by omega) (fun j hj => by have := iL4_2 j hj; omega) (iL4_3) IhL4 RhL4
        exact L4 _ 0 (9, 0) (9, 0) hL1 rfl (by omega) (by omega) (fun j hj => by have := iL1_2 j (by omega); omega) (zBf.init G0 (fun j hj => iL1_3 j (by omega))) IhL1 RhL1
      · refine zwW_p [(1, 0, 2)] (q := 11) (ls' := [(2, 37), (0, a), (0, b), (0, vL1), (9, 0), (9, 0)]) (st' := [(2, 37)]) (by decide +kernel) rfl ?_
        refine zwW_gc IhL1 (kd := 13) (bn := 39) (n := 97) (c := 97) (nx := 14) (by decide +kernel) ?_
        refine zwW_p [(1, 3, 0), (1, 3, 0), (1, 1, 0)] (q := 17) (ls' := [(2, 37), (0, a), (0, b), (0, vL1), (9, 0), (9, 0)]) (st' := [(0, a), (0, vL1), (0, vL1), (2, 97)]) (by decide +kernel) rfl ?_
        refine zwic_ne (q := 24) (nx := 20) (by decide +kernel) (fun c30 => ?_) (fun c30 => ?_)
        · refine zwW_p [(0, -1, 0)] (q := 25) (ls' := [(2, 37), (0, a), (0, b), (0, vL1), (9, 0), (9, 0)]) (st' := [(0, -1), (0, vL1), (2, 97)]) (by decide +kernel) rfl ?_
          have ib4 : 0 ≤ vL1 ∧ vL1 < ((8 : Nat) : Int) := (by first | omega | exact ⟨by omega, by omega⟩)
          refine zwW_as IhL1 (a1 := 97) (a2 := 97) (n := 8) (lo := -1) (hi := 4608) (nx := 26) (by decide +kernel) (by first | decide | exact ⟨by decide, by decide⟩) ib4 (by first | decide | exact ⟨by decide, by decide⟩) ?_
          intro h31 eh31 Ih31
          have jbh31 : 0 ≤ vL1.toNat ∧ vL1.toNat < 8 := ⟨Nat.zero_le _, zit ib4⟩
          have th31_37_1 : fld h31 37 1 = fld hL1 37 1 := by rw [eh31]; exact fld_wr (Or.inl (by decide))
          have W25 : ∀ j : Nat, (j : Int) < vL1 + 1 → fld h31 97 j ≤ 0 := by
            intro j hj
            by_cases hq : j = (vL1).toNat
            · rw [hq, eh31, fld_wr_eq (IhL1.s (a1 := 97) (a2 := 97) (k := 20) (n := 8) (by decide +kernel) (by decide) (by decide)) (by omega)]; decide
            · rw [eh31, fld_wr (Or.inr hq)]; exact iL1_2 j (by omega)
          have V25 : ∀ j : Nat, (j : Int) < vL1 + 1 → fld h31 97 j = if j = a.toNat then 0 else -1 := by
            intro j hj
            by_cases hq : j = (vL1).toNat
            · rw [hq, eh31, fld_wr_eq (IhL1.s (a1 := 97) (a2 := 97) (k := 20) (n := 8) (by decide +kernel) (by decide) (by decide)) (by omega)]; split <;> omega
            · rw [eh31, fld_wr (Or.inr hq)]; exact iL1_3 j (by omega)
          have Rh31 : zMR ms106 h h31 := RhL1.w (a1 := 97) (a2 := 97) (j1 := 0) (j2 := 8) (by decide +kernel) (by first | decide | exact ⟨by decide, by decide⟩) jbh31 eh31
          refine zwW_inc (i := 3) (c := 1) (x := vL1) (nx := 29) (by decide +kernel) rfl (by first | omega | exact ⟨by omega, by omega⟩) (ls' := [(2, 37), (0, a), (0, b), (0, (vL1 + 1)), (9, 0), (9, 0)]) rfl ?_
          refine zwW_p [(24, 2, 0)] (q := 2) (ls' := [(2, 37), (0, a), (0, b), (0, (vL1 + 1)), (9, 0), (9, 0)]) (st' := []) (by decide +kernel) rfl ?_
          exact IHL1 ((100 - (vL1 + 1))).toNat (by omega) (vL1 + 1) h31 rfl (by omega) (by omega) (W25) (V25) Ih31 Rh31
        · refine zwW_p [(0, 0, 0), (24, 25, 0)] (q := 25) (ls' := [(2, 37), (0, a), (0, b), (0, vL1), (9, 0), (9, 0)]) (st' := [(0, 0), (0, vL1), (2, 97)]) (by decide +kernel) rfl ?_
          have ib5 : 0 ≤ vL1 ∧ vL1 < ((8 : Nat) : Int) := (by first | omega | exact ⟨by omega, by omega⟩)
          refine zwW_as IhL1 (a1 := 97) (a2 := 97) (n := 8) (lo := -1) (hi := 4608) (nx := 26) (by decide +kernel) (by first | decide | exact ⟨by decide, by decide⟩) ib5 (by first | decide | exact ⟨by decide, by decide⟩) ?_
          intro h32 eh32 Ih32
          have jbh32 : 0 ≤ vL1.toNat ∧ vL1.toNat < 8 := ⟨Nat.zero_le _, zit ib5⟩
          have th32_37_1 : fld h32 37 1 = fld hL1 37 1 := by rw [eh32]; exact fld_wr (Or.inl (by decide))
          have W25 : ∀ j : Nat, (j : Int) < vL1 + 1 → fld h32 97 j ≤ 0 := by
            intro j hj
            by_cases hq : j = (vL1).toNat
            · rw [hq, eh32, fld_wr_eq (IhL1.s (a1 := 97) (a2 := 97) (k := 20) (n := 8) (by decide +kernel) (by decide) (by decide)) (by omega)]; decide
            · rw [eh32, fld_wr (Or.inr hq)]; exact iL1_2 j (by omega)
          have V25 : ∀ j : Nat, (j : Int) < vL1 + 1 → fld h32 97 j = if j = a.toNat then 0 else -1 := by
            intro j hj
            by_cases hq : j = (vL1).toNat
            · rw [hq, eh32, fld_wr_eq (IhL1.s (a1 := 97) (a2 := 97) (k := 20) (n := 8) (by decide +kernel) (by decide) (by decide)) (by omega)]; split <;> omega
            · rw [eh32, fld_wr (Or.inr hq)]; exact iL1_3 j (by omega)
          have Rh32 : zMR ms106 h h32 := RhL1.w (a1 := 97) (a2 := 97) (j1 := 0) (j2 := 8) (by decide +kernel) (by first | decide | exact ⟨by decide, by decide⟩) jbh32 eh32
          refine zwW_inc (i := 3) (c := 1) (x := vL1) (nx := 29) (by decide +kernel) rfl (by first | omega | exact ⟨by omega, by omega⟩) (ls' := [(2, 37), (0, a), (0, b), (0, (vL1 + 1)), (9, 0), (9, 0)]) rfl ?_
          refine zwW_p [(24, 2, 0)] (q := 2) (ls' := [(2, 37), (0, a), (0, b), (0, (vL1 + 1)), (9, 0), (9, 0)]) (st' := []) (by decide +kernel) rfl ?_
          exact IHL1 ((100 - (vL1 + 1))).toNat (by omega) (vL1 + 1) h32 rfl (by omega) (by omega) (W25) (V25) Ih32 Rh32
  exact L1 _ 0 h rfl (by omega) (by omega) (fun j hj => by omega) (fun j hj => by omega) I R
-- WheelLandModel.far(II)I
theorem m8_f {sc : List Int} (h : Hp) (I : zI h) (a b : Int) (hR : zRO h) : zwC sc 3 8 [(2, 37), (0, a), (0, b)] h (zwRt 0 (fun x g => zI g ∧ zMR ms8 h g ∧ (-2147483648 ≤ x ∧ x ≤ 2147483647) ∧ ((0 ≤ a ∧ a < fld h 37 1 ∧ 0 ≤ b ∧ b < fld h 37 1 ∧ x = zDa h a.toNat b.toNat) ∨ (x = -1 ∧ (a < 0 ∨ fld h 37 1 ≤ a ∨ b < 0 ∨ fld h 37 1 ≤ b))))) := by
  refine zwC_of (D := 2) 3 (by decide +kernel) rfl (ls := [(2, 37), (0, a), (0, b)]) rfl ?_
  have R : zMR ms8 h h := zMR.rf _ _
  refine zwW_p [(1, 0, 2), (1, 1, 0)] (q := 2) (ls' := [(2, 37), (0, a), (0, b)]) (st' := [(0, a), (2, 37)]) (by decide +kernel) rfl ?_
  refine zwW_cm I (op := 60) (k' := 104) (n := 1) (kd := 13) (m := 97) (nx := 5) (r := 37) (tl := [(0, a)]) (st' := []) (by decide +kernel) rfl (by decide +kernel) rfl (m104 h I a) ?_
  rintro x _ ⟨rfl, ⟨rfl, c1⟩ | ⟨rfl, c1⟩⟩
  · refine zwif_eq (q := 25) (nx := 8) (by decide +kernel) (fun c2 => ?_) (fun c2 => ?_)
    · exfalso; omega
    · refine zwW_p [(1, 0, 2), (1, 2, 0)] (q := 10) (ls' := [(2, 37), (0, a), (0, b)]) (st' := [(0, b), (2, 37)]) (by decide +kernel) rfl ?_
      refine zwW_cm I (op := 60) (k' := 104) (n := 1) (kd := 13) (m := 97) (nx := 13) (r := 37) (tl := [(0, b)]) (st' := []) (by decide +kernel) rfl (by decide +kernel) rfl (m104 h I b) ?_
      rintro x _ ⟨rfl, ⟨rfl, c3⟩ | ⟨rfl, c3⟩⟩
      · refine zwif_eq (q := 25) (nx := 16) (by decide +kernel) (fun c4 => ?_) (fun c4 => ?_)
        · exfalso; omega
        · refine zwW_p [(1, 0, 2), (1, 1, 0), (1, 2, 0)] (q := 19) (ls' := [(2, 37), (0, a), (0, b)]) (st' := [(0, b), (0, a), (2, 37)]) (by decide +kernel) rfl ?_
          refine zwW_cm I (op := 60) (k' := 106) (n := 2) (kd := 13) (m := 97) (nx := 22) (r := 37) (tl := [(0, a), (0, b)]) (st' := []) (by decide +kernel) rfl (by decide +kernel) rfl (m106_f h I a b (by omega) (by omega) hR (by omega) (by omega)) ?_
          rintro v5 h10 ⟨Ih10, Qh10, f6, f7, f8, f9⟩
          have Rh10 : zMR ms8 h h10 := R.tr Qh10 (by decide +kernel)
          refine zwW_p [(24, 26, 0)] (q := 26) (ls' := [(2, 37), (0, a), (0, b)]) (st' := [(0, v5)]) (by decide +kernel) rfl ?_
          refine zwW_ret (nx := 27) (a := 0) (b := 0) (by decide +kernel) rfl (Or.inl rfl) ?_
          exact ⟨Ih10, Rh10, by omega, by omega⟩
      · refine zwif_eq (q := 25) (nx := 16) (by decide +kernel) (fun c11 => ?_) (fun c11 => ?_)
        · refine zwW_p [(0, -1, 0)] (q := 26) (ls' := [(2, 37), (0, a), (0, b)]) (st' := [(0, -1)]) (by decide +kernel) rfl ?_
          refine zwW_ret (nx := 27) (a := 0) (b := 0) (by decide +kernel) rfl (Or.inl rfl) ?_
          exact ⟨I, R, by omega, by omega⟩
        · exfalso; omega
  · refine zwif_eq (q := 25) (nx := 8) (by decide +kernel) (fun c12 => ?_) (fun c12 => ?_)
    · refine zwW_p [(0, -1, 0)] (q := 26) (ls' := [(2, 37), (0, a), (0, b)]) (st' := [(0, -1)]) (by decide +kernel) rfl ?_
      refine zwW_ret (nx := 27) (a := 0) (b := 0) (by decide +kernel) rfl (Or.inl rfl) ?_
      exact ⟨I, R, by omega, by omega⟩
    · exfalso; omega
end
section
/-! the law's loop: what is kept -/
section ZL2
variable {sc : List Int} {h h' h1 h2 g : Hp}
def msxL : Zms := [(1, 1100, 0, 100000)]
theorem zAM.sm (A : zAM h) (e : ∀ r : Int, 37 ≤ r ∧ r ≤ 365 → fld g r = fld h r) : zAM g := by
  intro j hj
  rw [e 37 (by decide)] at hj
  rw [e 85 (by decide), e 83 (by decide)]
  exact A j hj
theorem zCW.sm (W : zCW h) (I : zI h) (e : ∀ r : Int, 37 ≤ r ∧ r ≤ 365 → fld g r = fld h r) : zCW g := by
  have b1 := I.b (a1 := 37) (a2 := 37) (j1 := 52) (j2 := 53) (lo := 0) (hi := 8) (by decide +kernel) (r := 37) (j := 52) (by decide) (by decide) (by decide) (by decide)
  refine ⟨fun s c hs hc hp => ?_, fun k hk => ?_⟩
  · rw [e 37 (by decide)] at hs
    rw [e (155 + (s : Int)) (by omega)] at hp ⊢
    rw [e (101 + 6 * (s : Int) + (c : Int)) (by omega)]
    exact W.1 s c hs hc hp
  · rw [e 37 (by decide)] at hk
    rw [e 164 (by decide), e 37 (by decide)]
    exact W.2 k hk
theorem zgetD (hin : ∀ x ∈ sc, in32 x) (i : Nat) : -2147483648 ≤ sc.getD i 0 ∧ sc.getD i 0 ≤ 2147483647 := by
  rw [List.getD_eq_getElem?_getD]
  cases h : sc[i]? with
  | none => exact (by first | decide | exact ⟨by decide, by decide⟩)
  | some x => exact hin x (List.mem_of_getElem? h)
end ZL2
end
section
/-! the start: both constructors run by the kernel -/
def bxr (op k : Nat) (h : Hp) (as : List Vl) : Bool := Nat.beq op 61 || (match as with
  | (2, r) :: _ => (match cel h r with
    | some (k', _) => Nat.beq k' k
    | none => false)
  | _ => false)
def bxo (st : List Vl) : Bool := st.all (fun v => !(Nat.beq v.1 2 && decide (v.2 = -1)))
noncomputable def bxS (ih : Nat → Nat → Nat → List Vl → List Vl → Hp → Option (Option Vl × Hp)) (d y pc : Nat) (ls st : List Vl) (h : Hp) : Option (Option Vl × Hp) :=
  match cdT y pc with
  | none => none
  | some (op, nx, a, b, os) =>
    if op < 20 then (match pst op a b ls st with
      | some (ls', st') => ih d y nx ls' st' h
      | none => none)
    else if op < 30 then (match bst op nx a b os st with
      | some (p, st') => ih d y p ls st' h
      | none => none)
    else if op < 40 then (if bxo st = true then (match rst [] stxt op a b h st with
      | some st' => ih d y nx ls st' h
      | none => none) else none)
    else if op < 60 then (match wst op a b h st with
      | some (h', st') => ih d y nx ls st' h'
      | none => none)
    else if op < 70 then (match popA op b st with
      | some (as, st') => if bxr op (mK a.toNat) h as = true ∧ (argL as).length ≤ mL a.toNat then (match d with
        | 0 => none
        | d + 1 => (match ih d a.toNat 0 (initL as (mL a.toNat)) [] h with
          | some (r1, h1) => ih (d + 1) y nx ls (pshR r1 st') h1
          | none => none)) else none
      | none => none)
    else (match retOf op a b st with
      | some r => some (r, h)
      | none => none)
noncomputable def bx (n : Nat) : Nat → Nat → Nat → List Vl → List Vl → Hp → Option (Option Vl × Hp) := Nat.rec (fun _ _ _ _ _ _ => none) (fun _ ih => bxS ih) n
theorem bxo_ne {r : Int} {rest : List Vl} (hb : bxo ((2, r) :: rest) = true) : r ≠ -1 := by
  unfold bxo at hb
  rw [List.all_cons, Bool.and_eq_true] at hb
  intro hz
  subst hz
  exact absurd hb.1 (by decide)
theorem bxo_tl {v : Vl} {rest : List Vl} (hb : bxo (v :: rest) = true) : bxo rest = true := by
  unfold bxo at hb ⊢
  rw [List.all_cons, Bool.and_eq_true] at hb
  exact hb.2
theorem rst_sc {sc : List Int} {op : Nat} {a b : Int} {h : Hp} {st st' : List Vl} (hb : bxo st = true) (e : rst [] stxt op a b h st = some st') : rst sc stxt op a b h st = some st' := by
  unfold rst at e ⊢
  by_cases q : op = 30
  · rw [if_pos q] at e ⊢; exact e
  · rw [if_neg q] at e ⊢
    by_cases q1 : op = 31
    · rw [if_pos q1] at e ⊢
      split at e
      · have hr := bxo_ne hb
        rw [if_neg hr] at e ⊢
        exact e
      · cases e
    · rw [if_neg q1] at e ⊢
      by_cases q2 : op = 32
      · rw [if_pos q2] at e ⊢
        split at e
        · rename_i i r rest
          have hr := bxo_ne (bxo_tl hb)
          by_cases hi : i < 0
          · rw [if_pos hi] at e; cases e
          · rw [if_neg hi, if_neg hr] at e ⊢
            exact e
        · cases e
      · rw [if_neg q2] at e ⊢
        exact e
theorem bxr_ok {op k : Nat} {h : Hp} {as : List Vl} (e : bxr op k h as = true) : rcv op k h as := by
  unfold bxr at e
  rw [Bool.or_eq_true] at e
  rcases e with e | e
  · exact Or.inl (Nat.eq_of_beq_eq_true e)
  · split at e
    · rename_i r t
      cases hc : cel h r with
      | none => rw [hc] at e; cases e
      | some w =>
        obtain ⟨k', l⟩ := w
        rw [hc] at e
        exact Or.inr (Or.inl ⟨r, l, t, rfl, by rw [hc, Nat.eq_of_beq_eq_true e]⟩)
    · cases e
theorem bx_ok {sc : List Int} : ∀ (n d y pc : Nat) (ls st : List Vl) (h : Hp) (r : Option Vl) (g : Hp), bx n d y pc ls st h = some (r, g) → ∀ D, d ≤ D → zwW sc D y pc ls st h (fun r' g' => r' = r ∧ g' = g)
  | 0, _, _, _, _, _, _, _, _, e, _, _ => by cases e
  | n + 1, d, y, pc, ls, st, h, r, g, e, D, hD => by
    have e : bxS (bx n) d y pc ls st h = some (r, g) := e
    unfold bxS at e
    cases ho : cdT y pc with
    | none => rw [ho] at e; cases e
    | some w =>
      obtain ⟨op, nx, a, b, os⟩ := w
      rw [ho] at e
      dsimp only at e
      by_cases q1 : op < 20
      · rw [if_pos q1] at e
        cases hp : pst op a b ls st with
        | none => rw [hp] at e; cases e
        | some w =>
          obtain ⟨ls', st'⟩ := w
          rw [hp] at e
          obtain ⟨m, r1, h1, hx, hq⟩ := bx_ok (sc := sc) n d y nx ls' st' h r g e D hD
          exact ⟨m + 1, r1, h1, ⟨op, nx, a, b, os, ho, Or.inl ⟨q1, ls', st', hp, hx⟩⟩, hq⟩
      · rw [if_neg q1] at e
        by_cases q2 : op < 30
        · rw [if_pos q2] at e
          cases hp : bst op nx a b os st with
          | none => rw [hp] at e; cases e
          | some w =>
            obtain ⟨p, st'⟩ := w
            rw [hp] at e
            obtain ⟨m, r1, h1, hx, hq⟩ := bx_ok (sc := sc) n d y p ls st' h r g e D hD
            exact ⟨m + 1, r1, h1, ⟨op, nx, a, b, os, ho, Or.inr (Or.inl ⟨by omega, q2, p, st', hp, hx⟩)⟩, hq⟩
        · rw [if_neg q2] at e
          by_cases q3 : op < 40
          · rw [if_pos q3] at e
            by_cases hb : bxo st = true
            · rw [if_pos hb] at e
              cases hp : rst [] stxt op a b h st with
              | none => rw [hp] at e; cases e
              | some st' =>
                rw [hp] at e
                obtain ⟨m, r1, h1, hx, hq⟩ := bx_ok (sc := sc) n d y nx ls st' h r g e D hD
                exact ⟨m + 1, r1, h1, ⟨op, nx, a, b, os, ho, Or.inr (Or.inr (Or.inl ⟨by omega, q3, st', rst_sc hb hp, hx⟩))⟩, hq⟩
            · rw [if_neg hb] at e; cases e
          · rw [if_neg q3] at e
            by_cases q4 : op < 60
            · rw [if_pos q4] at e
              cases hp : wst op a b h st with
              | none => rw [hp] at e; cases e
              | some w =>
                obtain ⟨h', st'⟩ := w
                rw [hp] at e
                obtain ⟨m, r1, h1, hx, hq⟩ := bx_ok (sc := sc) n d y nx ls st' h' r g e D hD
                exact ⟨m + 1, r1, h1, ⟨op, nx, a, b, os, ho, Or.inr (Or.inr (Or.inr (Or.inl ⟨by omega, q4, h', st', hp, hx⟩)))⟩, hq⟩
            · rw [if_neg q4] at e
              by_cases q5 : op < 70
              · rw [if_pos q5] at e
                cases hp : popA op b st with
                | none => rw [hp] at e; cases e
                | some w =>
                  obtain ⟨as, st'⟩ := w
                  rw [hp] at e
                  dsimp only at e
                  by_cases hc : bxr op (mK a.toNat) h as = true ∧ (argL as).length ≤ mL a.toNat
                  · rw [if_pos hc] at e
                    match d, hD, e with
                    | d + 1, hD, e =>
                      dsimp only at e
                      cases hr : bx n d a.toNat 0 (initL as (mL a.toNat)) [] h with
                      | none => rw [hr] at e; cases e
                      | some w =>
                        obtain ⟨r1, h1⟩ := w
                        rw [hr] at e
                        obtain ⟨D', rfl⟩ : ∃ D', D = D' + 1 := ⟨D - 1, by omega⟩
                        obtain ⟨m1, r2, h2, hx1, rfl, rfl⟩ := bx_ok (sc := sc) n d a.toNat 0 (initL as (mL a.toNat)) [] h r1 h1 hr D' (by omega)
                        obtain ⟨m, r3, h3, hx, hq⟩ := bx_ok (sc := sc) n (d + 1) y nx ls (pshR r2 st') h2 r g e (D' + 1) hD
                        exact ⟨m + 1, r3, h3, ⟨op, nx, a, b, os, ho, Or.inr (Or.inr (Or.inr (Or.inr (Or.inl ⟨by omega, q5, as, st', r2, h2, hp, bxr_ok hc.1, ⟨hc.2, m1, hx1⟩, hx⟩))))⟩, hq⟩
                  · rw [if_neg hc] at e; cases e
              · rw [if_neg q5] at e
                cases hp : retOf op a b st with
                | none => rw [hp] at e; cases e
                | some r1 =>
                  rw [hp] at e
                  cases e
                  exact ⟨1, r, h, ⟨op, nx, a, b, os, ho, Or.inr (Or.inr (Or.inr (Or.inr (Or.inr ⟨by omega, hp, rfl⟩))))⟩, rfl, rfl⟩
end
section
/-! the heap behind both constructors -/
noncomputable def zbK (chk : Hp → Bool) : Bool := match bx 1500 9 1 0 [(2, 1)] [] [(12, List.replicate 13 0)] with
  | some (none, h1) => (match bx 1500 9 2 0 [(2, ((h1.length + 1 : Nat) : Int))] [] (h1 ++ [(13, List.replicate 97 0)]) with
    | some (none, h2) => chk h2
    | _ => false)
  | _ => false
end
section
/-! what holds behind both constructors -/
def zkS (h : Hp) : Bool := zShL.all (fun e => (List.range (e.2.1 + 1 - e.1)).all (fun i => match cel h ((e.1 + i : Nat) : Int) with
  | some (k, l) => Nat.beq k e.2.2.1 && Nat.beq l.length e.2.2.2
  | none => false))
def zkB (h : Hp) : Bool := zBdL.all (fun e => (List.range (e.2.1 + 1 - e.1)).all (fun i => match cel h ((e.1 + i : Nat) : Int) with
  | some (_, l) => Nat.ble e.2.2.2.1 l.length && ((l.drop e.2.2.1).take (e.2.2.2.1 - e.2.2.1)).all (fun x => decide (e.2.2.2.2.1 ≤ x) && decide (x ≤ e.2.2.2.2.2))
  | none => false))
def zkR (h : Hp) : Bool := zRwL.all (fun e => (List.range e.2.1).all (fun j => decide (fld h (e.1 : Int) j = (e.2.2.1 : Int) + (e.2.2.2 : Int) * (j : Int))))
def zkO (h : Hp) : Bool := (Nat.beq h.length 365 && Nat.ble (sz h) 3000000) && ((zLis.all (fun A => decide (fld h (A : Int) 2 = 0) && decide (fld h (A : Int) 1 = -2)) && (List.range 12).all (fun i => decide (fld h 15 i = 0))) && ((decide (fld h 37 1 = 0) && decide (fld h 37 2 = 0)) && ((decide (fld h 37 52 = 0) && decide (fld h 37 53 = 0)) && zkE h)))
def zkA (h : Hp) : Bool := zkS h && (zkB h && (zkR h && zkO h))
theorem zkS_ok {h : Hp} (e : zkS h = true) : zSh h := by
  intro q hq r k1 k2
  have w := List.all_eq_true.mp (List.all_eq_true.mp e q hq) (r - q.1).toNat (List.mem_range.mpr (by omega))
  rw [show ((q.1 + (r - q.1).toNat : Nat) : Int) = r by omega] at w
  cases hc : cel h r with
  | none => rw [hc] at w; cases w
  | some z =>
    obtain ⟨k, l⟩ := z
    rw [hc] at w
    dsimp only at w
    rw [Bool.and_eq_true] at w
    rw [sh_of hc, Nat.eq_of_beq_eq_true w.1, Nat.eq_of_beq_eq_true w.2]
theorem zkB_ok {h : Hp} (e : zkB h = true) : zBd h := by
  intro q hq r j k1 k2 k3 k4
  have w := List.all_eq_true.mp (List.all_eq_true.mp e q hq) (r - q.1).toNat (List.mem_range.mpr (by omega))
  rw [show ((q.1 + (r - q.1).toNat : Nat) : Int) = r by omega] at w
  cases hc : cel h r with
  | none => rw [hc] at w; cases w
  | some z =>
    obtain ⟨k, l⟩ := z
    rw [hc] at w
    dsimp only at w
    rw [Bool.and_eq_true] at w
    have hl := Nat.le_of_ble_eq_true w.1
    have hj : j < l.length := by omega
    have m : l[j] ∈ (l.drop q.2.2.1).take (q.2.2.2.1 - q.2.2.1) := by
      rw [List.mem_iff_getElem]
      refine ⟨j - q.2.2.1, by rw [List.length_take, List.length_drop]; omega, ?_⟩
      rw [List.getElem_take, List.getElem_drop]
      congr 1
      omega
    have b := List.all_eq_true.mp w.2 _ m
    rw [Bool.and_eq_true, decide_eq_true_eq, decide_eq_true_eq] at b
    rw [fld_of hc, List.getD_eq_getElem?_getD, List.getElem?_eq_getElem hj]
    exact b
theorem zkR_ok {h : Hp} (e : zkR h = true) : zRw h := by
  intro q hq j k1
  exact of_decide_eq_true (List.all_eq_true.mp (List.all_eq_true.mp e q hq) j (List.mem_range.mpr k1))
theorem zkA_ok {h : Hp} (e : zkA h = true) : CI h ∧ zAM h ∧ zCW h ∧ zE h ∧ (h.length : Int) - (2 * fld h 4 2 + fld h 21 2) ≤ 400 ∧ (sz h : Int) - (1007 * fld h 4 2 + 1000 * fld h 21 2) ≤ 3000000 := by
  unfold zkA at e
  simp only [Bool.and_eq_true] at e
  obtain ⟨e1, e2, e3, e4⟩ := e
  unfold zkO at e4
  simp only [Bool.and_eq_true, decide_eq_true_eq, List.all_eq_true] at e4
  obtain ⟨⟨l1, l2⟩, ⟨q1, q2⟩, ⟨m1, m2⟩, ⟨m3, m4⟩, m5⟩ := e4
  have l1 := Nat.eq_of_beq_eq_true l1
  have l2 := Nat.le_of_ble_eq_true l2
  have f2 : fld h 2 2 = 0 := (q1 2 (by decide)).1
  have f4 : fld h 4 2 = 0 := (q1 4 (by decide)).1
  have f21 : fld h 21 2 = 0 := (q1 21 (by decide)).1
  refine ⟨⟨⟨zkS_ok e1, zkB_ok e2, zkR_ok e3⟩, fun r k n j k1 k2 k3 => ?_, fun A hA => Or.inl (q1 A hA), fun A hA B hB hne ha => ?_, fun i hi => Or.inl (q2 i (List.mem_range.mpr hi))⟩, fun j hj => by omega, ⟨fun s c hs => by omega, fun k hk => by omega⟩, zkE_ok m5, by omega, by omega⟩
  · have := (sh_pos k2).2
    omega
  · have := (q1 A hA).2
    omega
set_option maxRecDepth 100000 in
theorem zbK_A : zbK zkA = true := by decide +kernel
end
