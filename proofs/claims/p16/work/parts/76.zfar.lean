/-! joined: 76.zfar 77.alaw 80.start 81.heap 82.heapck 84.a_zu 84.c_parse 84.e_een 85.a_fa 87.a_rd 87.b_js -/
section
/-! contracts of methods -/
-- WheelLandModel.farOf(II)I
theorem m106_f {sc : List Int} (h : Hp) (I : zI h) (a b : Int) (p1 : 0 ≤ b) (p2 : b ≤ 7) (hR : zRO h) (pa : 0 ≤ a ∧ a < fld h 37 1) (pb : b < fld h 37 1) : zwC sc 1 106 [(2, 37), (0, a), (0, b)] h (zwRt 0 (fun x g => zI g ∧ zMR ms106 h g ∧ (-2147483648 ≤ x ∧ x ≤ 2147483647) ∧ (-1 ≤ x) ∧ (x ≤ 4608) ∧ (x = zDa h a.toNat b.toNat))) := by
  refine zwC_of (D := 0) 6 (by decide +kernel) rfl (ls := [(2, 37), (0, a), (0, b), (9, 0), (9, 0), (9, 0)]) rfl ?_
  have R : zMR ms106 h h := zMR.rf _ _
  have N0 := I.b (a1 := 37) (a2 := 37) (j1 := 1) (j2 := 2) (lo := 0) (hi := 8) (by decide +kernel) (r := 37) (j := 1) (by decide) (by decide) (by decide) (by decide)
  have G0 := hR.gd (A := a.toNat) (n := (fld h 37 1).toNat) (by omega) (by omega) (by omega)
  refine zwW_p [(0, 0, 0), (2, 3, 0)] (q := 2) (ls' := [(2, 37), (0, a), (0, b), (0, 0), (9, 0), (9, 0)]) (st' := []) (by decide +kernel) rfl ?_
  have L1 : ∀ (n : Nat) (vL1 : Int) (hL1 : Hp), n = ((100 - vL1)).toNat → (0 ≤ vL1 ∧ vL1 ≤ 8) → (fld hL1 37 1 = fld h 37 1) → (∀ j : Nat, (j : Int) < vL1 → fld hL1 97 j ≤ 0) → (∀ j : Nat, (j : Int) < vL1 → fld hL1 97 j = if j = a.toNat then 0 else -1) → zI hL1 → zMR ms106 h hL1 → zwW sc (0) 106 2 [(2, 37), (0, a), (0, b), (0, vL1), (9, 0), (9, 0)] [] hL1 (zwRt 0 (fun x g => zI g ∧ zMR ms106 h g ∧ (-2147483648 ≤ x ∧ x ≤ 2147483647) ∧ (-1 ≤ x) ∧ (x ≤ 4608) ∧ (x = zDa h a.toNat b.toNat))) := by
    intro n
    induction n using Nat.strongRecOn with
    | ind n IHL1 =>
      intro vL1 hL1 hnL1 iL1_0 iL1_1 iL1_2 iL1_3 IhL1 RhL1
      refine zwW_p [(1, 3, 0), (1, 0, 2)] (q := 4) (ls' := [(2, 37), (0, a), (0, b), (0, vL1), (9, 0), (9, 0)]) (st' := [(2, 37), (0, vL1)]) (by decide +kernel) rfl ?_
      refine zwW_gs IhL1 (kd := 13) (bn := 1) (n := 97) (t := 0) (lo := 0) (hi := 8) (nx := 7) (by decide +kernel) ?_
      intro v2 ev2 lv2 uv2
      refine zwic_ge (q := 32) (nx := 10) (by decide +kernel) (fun c3 => ?_) (fun c3 => ?_)
      · refine zwW_p [(0, 0, 0), (2, 3, 0)] (q := 34) (ls' := [(2, 37), (0, a), (0, b), (0, 0), (9, 0), (9, 0)]) (st' := []) (by decide +kernel) rfl ?_
        have L4 : ∀ (n : Nat) (kL4 : Int) (w4L4 w5L4 : Vl) (hL4 : Hp), n = ((100 - kL4)).toNat → (0 ≤ kL4 ∧ kL4 ≤ 8) → (fld hL4 37 1 = fld h 37 1) → (∀ j : Nat, (j : Int) < fld h 37 1 → fld hL4 97 j ≤ 9 * (64 * kL4)) → (zBf (zLa h) (zLe h a.toNat) (fld h 37 1).toNat (kL4).toNat 0 0 (fld hL4 97)) → zI hL4 → zMR ms106 h hL4 → zwW sc (0) 106 34 [(2, 37), (0, a), (0, b), (0, kL4), w4L4, w5L4] [] hL4 (zwRt 0 (fun x g => zI g ∧ zMR ms106 h g ∧ (-2147483648 ≤ x ∧ x ≤ 2147483647) ∧ (-1 ≤ x) ∧ (x ≤ 4608) ∧ (x = zDa h a.toNat b.toNat))) := by
          intro n
          induction n using Nat.strongRecOn with
          | ind n IHL4 =>
            intro kL4 w4L4 w5L4 hL4 hnL4 iL4_0 iL4_1 iL4_2 iL4_3 IhL4 RhL4
            refine zwW_p [(1, 3, 0), (1, 0, 2)] (q := 36) (ls' := [(2, 37), (0, a), (0, b), (0, kL4), w4L4, w5L4]) (st' := [(2, 37), (0, kL4)]) (by decide +kernel) rfl ?_
            refine zwW_gs IhL4 (kd := 13) (bn := 1) (n := 97) (t := 0) (lo := 0) (hi := 8) (nx := 39) (by decide +kernel) ?_
            intro v5 ev5 lv5 uv5
            refine zwic_ge (q := 175) (nx := 42) (by decide +kernel) (fun c6 => ?_) (fun c6 => ?_)
            · refine zwW_p [(1, 0, 2)] (q := 176) (ls' := [(2, 37), (0, a), (0, b), (0, kL4), w4L4, w5L4]) (st' := [(2, 37)]) (by decide +kernel) rfl ?_
              refine zwW_gc IhL4 (kd := 13) (bn := 39) (n := 97) (c := 97) (nx := 179) (by decide +kernel) ?_
              refine zwW_p [(1, 2, 0)] (q := 180) (ls' := [(2, 37), (0, a), (0, b), (0, kL4), w4L4, w5L4]) (st' := [(0, b), (2, 97)]) (by decide +kernel) rfl ?_
              refine zwW_al IhL4 (a1 := 97) (a2 := 97) (kd := 20) (n := 8) (t := 0) (lo := -1) (hi := 4608) (nx := 181) (by decide +kernel) (by first | decide | exact ⟨by decide, by decide⟩) (by first | omega | exact ⟨by omega, by omega⟩) ?_
              intro v7 ev7 lv7 uv7
              refine zwW_ret (nx := 182) (a := 0) (b := 0) (by decide +kernel) rfl (Or.inl rfl) ?_
              exact ⟨IhL4, RhL4, by omega, by omega, by omega, by have Z181 := zBf.fin G0 iL4_3 (by omega) (v := b.toNat) (by omega) (by omega); unfold zDa; rw [show v7 = fld hL4 97 b.toNat by omega]; exact Z181⟩
            · refine zwW_p [(0, 0, 0), (2, 4, 0)] (q := 45) (ls' := [(2, 37), (0, a), (0, b), (0, kL4), (0, 0), w5L4]) (st' := []) (by decide +kernel) rfl ?_
              have L8 : ∀ (n : Nat) (xL8 : Int) (w5L8 : Vl) (hL8 : Hp), n = ((100 - xL8)).toNat → (0 ≤ xL8 ∧ xL8 ≤ 8) → (fld hL8 37 1 = fld h 37 1) → (∀ j : Nat, (j : Int) < fld h 37 1 → fld hL8 97 j ≤ 9 * (64 * kL4 + 8 * xL8)) → (zBf (zLa h) (zLe h a.toNat) (fld h 37 1).toNat (kL4).toNat (xL8).toNat 0 (fld hL8 97)) → zI hL8 → zMR ms106 h hL8 → zwW sc (0) 106 45 [(2, 37), (0, a), (0, b), (0, kL4), (0, xL8), w5L8] [] hL8 (zwRt 0 (fun x g => zI g ∧ zMR ms106 h g ∧ (-2147483648 ≤ x ∧ x ≤ 2147483647) ∧ (-1 ≤ x) ∧ (x ≤ 4608) ∧ (x = zDa h a.toNat b.toNat))) := by
                intro n
                induction n using Nat.strongRecOn with
                | ind n IHL8 =>
                  intro xL8 w5L8 hL8 hnL8 iL8_0 iL8_1 iL8_2 iL8_3 IhL8 RhL8
                  refine zwW_p [(1, 4, 0), (1, 0, 2)] (q := 48) (ls' := [(2, 37), (0, a), (0, b), (0, kL4), (0, xL8), w5L8]) (st' := [(2, 37), (0, xL8)]) (by decide +kernel) rfl ?_
                  refine zwW_gs IhL8 (kd := 13) (bn := 1) (n := 97) (t := 0) (lo := 0) (hi := 8) (nx := 51) (by decide +kernel) ?_
                  intro v9 ev9 lv9 uv9
                  refine zwic_ge (q := 169) (nx := 54) (by decide +kernel) (fun c10 => ?_) (fun c10 => ?_)
                  · refine zwW_inc (i := 3) (c := 1) (x := kL4) (nx := 172) (by decide +kernel) rfl (by first | omega | exact ⟨by omega, by omega⟩) (ls' := [(2, 37), (0, a), (0, b), (0, (kL4 + 1)), (0, xL8), w5L8]) rfl ?_
                    refine zwW_p [(24, 34, 0)] (q := 34) (ls' := [(2, 37), (0, a), (0, b), (0, (kL4 + 1)), (0, xL8), w5L8]) (st' := []) (by decide +kernel) rfl ?_
                    exact IHL4 ((100 - (kL4 + 1))).toNat (by omega) (kL4 + 1) (0, xL8) w5L8 hL8 rfl (by omega) (by omega) (fun j hj => by have := iL8_2 j hj; omega) (by rw [show (kL4 + 1).toNat = (kL4).toNat + 1 by omega]; exact zBf.nk G0 iL8_3 (by omega)) IhL8 RhL8
                  · refine zwW_p [(0, 0, 0), (2, 5, 0)] (q := 57) (ls' := [(2, 37), (0, a), (0, b), (0, kL4), (0, xL8), (0, 0)]) (st' := []) (by decide +kernel) rfl ?_
                    have L11 : ∀ (n : Nat) (yL11 : Int) (hL11 : Hp), n = ((100 - yL11)).toNat → (0 ≤ yL11 ∧ yL11 ≤ 8) → (fld hL11 37 1 = fld h 37 1) → (∀ j : Nat, (j : Int) < fld h 37 1 → fld hL11 97 j ≤ 9 * (64 * kL4 + 8 * xL8 + yL11)) → (zBf (zLa h) (zLe h a.toNat) (fld h 37 1).toNat (kL4).toNat (xL8).toNat (yL11).toNat (fld hL11 97)) → zI hL11 → zMR ms106 h hL11 → zwW sc (0) 106 57 [(2, 37), (0, a), (0, b), (0, kL4), (0, xL8), (0, yL11)] [] hL11 (zwRt 0 (fun x g => zI g ∧ zMR ms106 h g ∧ (-2147483648 ≤ x ∧ x ≤ 2147483647) ∧ (-1 ≤ x) ∧ (x ≤ 4608) ∧ (x = zDa h a.toNat b.toNat))) := by
                      intro n
                      induction n using Nat.strongRecOn with
                      | ind n IHL11 =>
                        intro yL11 hL11 hnL11 iL11_0 iL11_1 iL11_2 iL11_3 IhL11 RhL11
                        refine zwW_p [(1, 5, 0), (1, 0, 2)] (q := 60) (ls' := [(2, 37), (0, a), (0, b), (0, kL4), (0, xL8), (0, yL11)]) (st' := [(2, 37), (0, yL11)]) (by decide +kernel) rfl ?_
                        refine zwW_gs IhL11 (kd := 13) (bn := 1) (n := 97) (t := 0) (lo := 0) (hi := 8) (nx := 63) (by decide +kernel) ?_
                        intro v12 ev12 lv12 uv12
                        refine zwic_ge (q := 163) (nx := 66) (by decide +kernel) (fun c13 => ?_) (fun c13 => ?_)
                        · refine zwW_inc (i := 4) (c := 1) (x := xL8) (nx := 166) (by decide +kernel) rfl (by first | omega | exact ⟨by omega, by omega⟩) (ls' := [(2, 37), (0, a), (0, b), (0, kL4), (0, (xL8 + 1)), (0, yL11)]) rfl ?_
                          refine zwW_p [(24, 45, 0)] (q := 45) (ls' := [(2, 37), (0, a), (0, b), (0, kL4), (0, (xL8 + 1)), (0, yL11)]) (st' := []) (by decide +kernel) rfl ?_
                          exact IHL8 ((100 - (xL8 + 1))).toNat (by omega) (xL8 + 1) (0, yL11) hL11 rfl (by omega) (by omega) (fun j hj => by have := iL11_2 j hj; omega) (by rw [show (xL8 + 1).toNat = (xL8).toNat + 1 by omega]; exact zBf.nx iL11_3 (by omega)) IhL11 RhL11
                        · have D66 := hR.2.2 (xL8).toNat (yL11).toNat (by omega) (by omega)
                          have e66 : fld h (48 + (((xL8).toNat : Nat) : Int)) (yL11).toNat = fld hL11 (48 + xL8) (yL11).toNat := by rw [show (((xL8).toNat : Nat) : Int) = xL8 by omega]; exact (RhL11.f (a1 := 48) (a2 := 55) (j1 := 0) (j2 := 8) (by decide +kernel) (by first | omega | exact ⟨by omega, by omega⟩) (by first | omega | exact ⟨by omega, by omega⟩)).symm
                          rw [e66] at D66
                          refine zwW_p [(1, 0, 2)] (q := 67) (ls' := [(2, 37), (0, a), (0, b), (0, kL4), (0, xL8), (0, yL11)]) (st' := [(2, 37)]) (by decide +kernel) rfl ?_
                          refine zwW_gc IhL11 (kd := 13) (bn := 39) (n := 97) (c := 97) (nx := 70) (by decide +kernel) ?_
                          refine zwW_p [(1, 4, 0)] (q := 72) (ls' := [(2, 37), (0, a), (0, b), (0, kL4), (0, xL8), (0, yL11)]) (st' := [(0, xL8), (2, 97)]) (by decide +kernel) rfl ?_
                          refine zwW_al IhL11 (a1 := 97) (a2 := 97) (kd := 20) (n := 8) (t := 0) (lo := -1) (hi := 4608) (nx := 73) (by decide +kernel) (by first | decide | exact ⟨by decide, by decide⟩) (by first | omega | exact ⟨by omega, by omega⟩) ?_
                          intro v14 ev14 lv14 uv14
                          refine zwW_p [(0, -1, 0)] (q := 74) (ls' := [(2, 37), (0, a), (0, b), (0, kL4), (0, xL8), (0, yL11)]) (st' := [(0, -1), (0, v14)]) (by decide +kernel) rfl ?_
                          refine zwic_eq (q := 157) (nx := 77) (by decide +kernel) (fun c15 => ?_) (fun c15 => ?_)
                          · refine zwW_inc (i := 5) (c := 1) (x := yL11) (nx := 160) (by decide +kernel) rfl (by first | omega | exact ⟨by omega, by omega⟩) (ls' := [(2, 37), (0, a), (0, b), (0, kL4), (0, xL8), (0, (yL11 + 1))]) rfl ?_
                            refine zwW_p [(24, 57, 0)] (q := 57) (ls' := [(2, 37), (0, a), (0, b), (0, kL4), (0, xL8), (0, (yL11 + 1))]) (st' := []) (by decide +kernel) rfl ?_
                            exact IHL11 ((100 - (yL11 + 1))).toNat (by omega) (yL11 + 1) hL11 rfl (by omega) (by omega) (by first | exact fun j hj => (by have := iL11_2 j hj; omega) | exact W156) (by rw [show (yL11 + 1).toNat = (yL11).toNat + 1 by omega]; first | exact Z156 | exact zBf.sk G0 iL11_3 (by omega) (by omega) D66.1 (by omega)) IhL11 RhL11
                          · refine zwW_p [(1, 0, 2)] (q := 78) (ls' := [(2, 37), (0, a), (0, b), (0, kL4), (0, xL8), (0, yL11)]) (st' := [(2, 37)]) (by decide +kernel) rfl ?_
                            refine zwW_gc IhL11 (kd := 13) (bn := 4) (n := 97) (c := 47) (nx := 81) (by decide +kernel) ?_
                            refine zwW_p [(1, 4, 0)] (q := 83) (ls' := [(2, 37), (0, a), (0, b), (0, kL4), (0, xL8), (0, yL11)]) (st' := [(0, xL8), (2, 47)]) (by decide +kernel) rfl ?_
                            refine zwW_ro IhL11 (a := 47) (n := 8) (kd := 26) (base := 48) (step := 1) (nx := 84) (by decide +kernel) rfl (by first | omega | exact ⟨by omega, by omega⟩) ?_
                            rw [show ((48 : Nat) : Int) + ((1 : Nat) : Int) * xL8 = (48 + xL8) by omega]
                            refine zwW_p [(1, 5, 0)] (q := 86) (ls' := [(2, 37), (0, a), (0, b), (0, kL4), (0, xL8), (0, yL11)]) (st' := [(0, yL11), (2, (48 + xL8))]) (by decide +kernel) rfl ?_
                            refine zwW_al IhL11 (a1 := 48) (a2 := 55) (kd := 20) (n := 8) (t := 0) (lo := 0) (hi := 9) (nx := 87) (by decide +kernel) (by first | omega | exact ⟨by omega, by omega⟩) (by first | omega | exact ⟨by omega, by omega⟩) ?_
                            intro v16 ev16 lv16 uv16
                            refine zwif_ne (q := 93) (nx := 90) (by decide +kernel) (fun c17 => ?_) (fun c17 => ?_)
                            · refine zwW_p [(1, 0, 2)] (q := 94) (ls' := [(2, 37), (0, a), (0, b), (0, kL4), (0, xL8), (0, yL11)]) (st' := [(2, 37)]) (by decide +kernel) rfl ?_
                              refine zwW_gc IhL11 (kd := 13) (bn := 39) (n := 97) (c := 97) (nx := 97) (by decide +kernel) ?_
                              refine zwW_p [(1, 5, 0)] (q := 99) (ls' := [(2, 37), (0, a), (0, b), (0, kL4), (0, xL8), (0, yL11)]) (st' := [(0, yL11), (2, 97)]) (by decide +kernel) rfl ?_
                              refine zwW_al IhL11 (a1 := 97) (a2 := 97) (kd := 20) (n := 8) (t := 0) (lo := -1) (hi := 4608) (nx := 100) (by decide +kernel) (by first | decide | exact ⟨by decide, by decide⟩) (by first | omega | exact ⟨by omega, by omega⟩) ?_
                              intro v18 ev18 lv18 uv18
                              refine zwW_p [(0, -1, 0)] (q := 101) (ls' := [(2, 37), (0, a), (0, b), (0, kL4), (0, xL8), (0, yL11)]) (st' := [(0, -1), (0, v18)]) (by decide +kernel) rfl ?_
                              refine zwic_eq (q := 132) (nx := 104) (by decide +kernel) (fun c19 => ?_) (fun c19 => ?_)
                              · refine zwW_p [(1, 0, 2)] (q := 133) (ls' := [(2, 37), (0, a), (0, b), (0, kL4), (0, xL8), (0, yL11)]) (st' := [(2, 37)]) (by decide +kernel) rfl ?_
                                refine zwW_gc IhL11 (kd := 13) (bn := 39) (n := 97) (c := 97) (nx := 136) (by decide +kernel) ?_
                                refine zwW_p [(1, 5, 0), (1, 0, 2)] (q := 139) (ls' := [(2, 37), (0, a), (0, b), (0, kL4), (0, xL8), (0, yL11)]) (st' := [(2, 37), (0, yL11), (2, 97)]) (by decide +kernel) rfl ?_
                                refine zwW_gc IhL11 (kd := 13) (bn := 39) (n := 97) (c := 97) (nx := 142) (by decide +kernel) ?_
                                refine zwW_p [(1, 4, 0)] (q := 144) (ls' := [(2, 37), (0, a), (0, b), (0, kL4), (0, xL8), (0, yL11)]) (st' := [(0, xL8), (2, 97), (0, yL11), (2, 97)]) (by decide +kernel) rfl ?_
                                refine zwW_al IhL11 (a1 := 97) (a2 := 97) (kd := 20) (n := 8) (t := 0) (lo := -1) (hi := 4608) (nx := 145) (by decide +kernel) (by first | decide | exact ⟨by decide, by decide⟩) (by first | omega | exact ⟨by omega, by omega⟩) ?_
                                intro v20 ev20 lv20 uv20
                                refine zwW_p [(1, 0, 2)] (q := 146) (ls' := [(2, 37), (0, a), (0, b), (0, kL4), (0, xL8), (0, yL11)]) (st' := [(2, 37), (0, v20), (0, yL11), (2, 97)]) (by decide +kernel) rfl ?_
                                refine zwW_gc IhL11 (kd := 13) (bn := 4) (n := 97) (c := 47) (nx := 149) (by decide +kernel) ?_
                                refine zwW_p [(1, 4, 0)] (q := 151) (ls' := [(2, 37), (0, a), (0, b), (0, kL4), (0, xL8), (0, yL11)]) (st' := [(0, xL8), (2, 47), (0, v20), (0, yL11), (2, 97)]) (by decide +kernel) rfl ?_
                                refine zwW_ro IhL11 (a := 47) (n := 8) (kd := 26) (base := 48) (step := 1) (nx := 152) (by decide +kernel) rfl (by first | omega | exact ⟨by omega, by omega⟩) ?_
                                rw [show ((48 : Nat) : Int) + ((1 : Nat) : Int) * xL8 = (48 + xL8) by omega]
                                refine zwW_p [(1, 5, 0)] (q := 154) (ls' := [(2, 37), (0, a), (0, b), (0, kL4), (0, xL8), (0, yL11)]) (st' := [(0, yL11), (2, (48 + xL8)), (0, v20), (0, yL11), (2, 97)]) (by decide +kernel) rfl ?_
                                refine zwW_al IhL11 (a1 := 48) (a2 := 55) (kd := 20) (n := 8) (t := 0) (lo := 0) (hi := 9) (nx := 155) (by decide +kernel) (by first | omega | exact ⟨by omega, by omega⟩) (by first | omega | exact ⟨by omega, by omega⟩) ?_
                                intro v21 ev21 lv21 uv21
                                refine zwW_add (nx := 156) (by decide +kernel) (by first | omega | exact ⟨by omega, by omega⟩) ?_
                                have B156 := iL11_2 (xL8).toNat (by omega)
                                refine zwW_as IhL11 (a1 := 97) (a2 := 97) (n := 8) (lo := -1) (hi := 4608) (nx := 157) (by decide +kernel) (by first | decide | exact ⟨by decide, by decide⟩) (by first | omega | exact ⟨by omega, by omega⟩) (by first | omega | exact ⟨by omega, by omega⟩) ?_
                                intro h22 eh22 Ih22
                                have th22_37_1 : fld h22 37 1 = fld hL11 37 1 := by rw [eh22]; exact fld_wr (by omega)
                                have W156 : ∀ j : Nat, (j : Int) < fld h 37 1 → fld h22 97 j ≤ 9 * (64 * kL4 + 8 * xL8 + (yL11 + 1)) := fld_all (P := fun j z => (j : Int) < fld h 37 1 → z ≤ 9 * (64 * kL4 + 8 * xL8 + (yL11 + 1))) (fun j hj => by have := iL11_2 j hj; omega) (fun _ => by have := iL11_2 (xL8).toNat (by omega); omega) eh22
                                have Z156 : zBf (zLa h) (zLe h a.toNat) (fld h 37 1).toNat (kL4).toNat (xL8).toNat ((yL11).toNat + 1) (fld h22 97) := zBf.rl G0 iL11_3 (by omega) (by omega) D66.1 (by omega) (D66.2 (by omega)).1 (by omega) (by omega) (by rw [eh22, fld_wr_eq (IhL11.s (a1 := 97) (a2 := 97) (k := 20) (n := 8) (by decide +kernel) (by decide) (by decide)) (by omega)]; omega) (fun v hv => by rw [eh22]; exact fld_wr (Or.inr hv))
                                have Rh22 : zMR ms106 h h22 := RhL11.w (a1 := 97) (a2 := 97) (j1 := 0) (j2 := 8) (by decide +kernel) (by first | decide | exact ⟨by decide, by decide⟩) (by first | omega | exact ⟨by omega, by omega⟩) eh22
                                refine zwW_inc (i := 5) (c := 1) (x := yL11) (nx := 160) (by decide +kernel) rfl (by first | omega | exact ⟨by omega, by omega⟩) (ls' := [(2, 37), (0, a), (0, b), (0, kL4), (0, xL8), (0, (yL11 + 1))]) rfl ?_
                                refine zwW_p [(24, 57, 0)] (q := 57) (ls' := [(2, 37), (0, a), (0, b), (0, kL4), (0, xL8), (0, (yL11 + 1))]) (st' := []) (by decide +kernel) rfl ?_
                                exact IHL11 ((100 - (yL11 + 1))).toNat (by omega) (yL11 + 1) h22 rfl (by omega) (by omega) (by first | exact fun j hj => (by have := iL11_2 j hj; omega) | exact W156) (by rw [show (yL11 + 1).toNat = (yL11).toNat + 1 by omega]; first | exact Z156 | exact zBf.sk G0 iL11_3 (by omega) (by omega) D66.1 (by omega)) Ih22 Rh22
                              · refine zwW_p [(1, 0, 2)] (q := 105) (ls' := [(2, 37), (0, a), (0, b), (0, kL4), (0, xL8), (0, yL11)]) (st' := [(2, 37)]) (by decide +kernel) rfl ?_
                                refine zwW_gc IhL11 (kd := 13) (bn := 39) (n := 97) (c := 97) (nx := 108) (by decide +kernel) ?_
                                refine zwW_p [(1, 4, 0)] (q := 110) (ls' := [(2, 37), (0, a), (0, b), (0, kL4), (0, xL8), (0, yL11)]) (st' := [(0, xL8), (2, 97)]) (by decide +kernel) rfl ?_
                                refine zwW_al IhL11 (a1 := 97) (a2 := 97) (kd := 20) (n := 8) (t := 0) (lo := -1) (hi := 4608) (nx := 111) (by decide +kernel) (by first | decide | exact ⟨by decide, by decide⟩) (by first | omega | exact ⟨by omega, by omega⟩) ?_
                                intro v23 ev23 lv23 uv23
                                refine zwW_p [(1, 0, 2)] (q := 112) (ls' := [(2, 37), (0, a), (0, b), (0, kL4), (0, xL8), (0, yL11)]) (st' := [(2, 37), (0, v23)]) (by decide +kernel) rfl ?_
                                refine zwW_gc IhL11 (kd := 13) (bn := 4) (n := 97) (c := 47) (nx := 115) (by decide +kernel) ?_
                                refine zwW_p [(1, 4, 0)] (q := 117) (ls' := [(2, 37), (0, a), (0, b), (0, kL4), (0, xL8), (0, yL11)]) (st' := [(0, xL8), (2, 47), (0, v23)]) (by decide +kernel) rfl ?_
                                refine zwW_ro IhL11 (a := 47) (n := 8) (kd := 26) (base := 48) (step := 1) (nx := 118) (by decide +kernel) rfl (by first | omega | exact ⟨by omega, by omega⟩) ?_
                                rw [show ((48 : Nat) : Int) + ((1 : Nat) : Int) * xL8 = (48 + xL8) by omega]
                                refine zwW_p [(1, 5, 0)] (q := 120) (ls' := [(2, 37), (0, a), (0, b), (0, kL4), (0, xL8), (0, yL11)]) (st' := [(0, yL11), (2, (48 + xL8)), (0, v23)]) (by decide +kernel) rfl ?_
                                refine zwW_al IhL11 (a1 := 48) (a2 := 55) (kd := 20) (n := 8) (t := 0) (lo := 0) (hi := 9) (nx := 121) (by decide +kernel) (by first | omega | exact ⟨by omega, by omega⟩) (by first | omega | exact ⟨by omega, by omega⟩) ?_
                                intro v24 ev24 lv24 uv24
                                refine zwW_add (nx := 122) (by decide +kernel) (by first | omega | exact ⟨by omega, by omega⟩) ?_
                                refine zwW_p [(1, 0, 2)] (q := 123) (ls' := [(2, 37), (0, a), (0, b), (0, kL4), (0, xL8), (0, yL11)]) (st' := [(2, 37), (0, (v23 + v24))]) (by decide +kernel) rfl ?_
                                refine zwW_gc IhL11 (kd := 13) (bn := 39) (n := 97) (c := 97) (nx := 126) (by decide +kernel) ?_
                                refine zwW_p [(1, 5, 0)] (q := 128) (ls' := [(2, 37), (0, a), (0, b), (0, kL4), (0, xL8), (0, yL11)]) (st' := [(0, yL11), (2, 97), (0, (v23 + v24))]) (by decide +kernel) rfl ?_
                                refine zwW_al IhL11 (a1 := 97) (a2 := 97) (kd := 20) (n := 8) (t := 0) (lo := -1) (hi := 4608) (nx := 129) (by decide +kernel) (by first | decide | exact ⟨by decide, by decide⟩) (by first | omega | exact ⟨by omega, by omega⟩) ?_
                                intro v25 ev25 lv25 uv25
                                refine zwic_ge (q := 157) (nx := 132) (by decide +kernel) (fun c26 => ?_) (fun c26 => ?_)
                                · refine zwW_inc (i := 5) (c := 1) (x := yL11) (nx := 160) (by decide +kernel) rfl (by first | omega | exact ⟨by omega, by omega⟩) (ls' := [(2, 37), (0, a), (0, b), (0, kL4), (0, xL8), (0, (yL11 + 1))]) rfl ?_
                                  refine zwW_p [(24, 57, 0)] (q := 57) (ls' := [(2, 37), (0, a), (0, b), (0, kL4), (0, xL8), (0, (yL11 + 1))]) (st' := []) (by decide +kernel) rfl ?_
                                  exact IHL11 ((100 - (yL11 + 1))).toNat (by omega) (yL11 + 1) hL11 rfl (by omega) (by omega) (by first | exact fun j hj => (by have := iL11_2 j hj; omega) | exact W156) (by rw [show (yL11 + 1).toNat = (yL11).toNat + 1 by omega]; first | exact Z156 | exact zBf.sk G0 iL11_3 (by omega) (by omega) D66.1 (by omega)) IhL11 RhL11
                                · refine zwW_p [(1, 0, 2)] (q := 133) (ls' := [(2, 37), (0, a), (0, b), (0, kL4), (0, xL8), (0, yL11)]) (st' := [(2, 37)]) (by decide +kernel) rfl ?_
                                  refine zwW_gc IhL11 (kd := 13) (bn := 39) (n := 97) (c := 97) (nx := 136) (by decide +kernel) ?_
                                  refine zwW_p [(1, 5, 0), (1, 0, 2)] (q := 139) (ls' := [(2, 37), (0, a), (0, b), (0, kL4), (0, xL8), (0, yL11)]) (st' := [(2, 37), (0, yL11), (2, 97)]) (by decide +kernel) rfl ?_
                                  refine zwW_gc IhL11 (kd := 13) (bn := 39) (n := 97) (c := 97) (nx := 142) (by decide +kernel) ?_
                                  refine zwW_p [(1, 4, 0)] (q := 144) (ls' := [(2, 37), (0, a), (0, b), (0, kL4), (0, xL8), (0, yL11)]) (st' := [(0, xL8), (2, 97), (0, yL11), (2, 97)]) (by decide +kernel) rfl ?_
                                  refine zwW_al IhL11 (a1 := 97) (a2 := 97) (kd := 20) (n := 8) (t := 0) (lo := -1) (hi := 4608) (nx := 145) (by decide +kernel) (by first | decide | exact ⟨by decide, by decide⟩) (by first | omega | exact ⟨by omega, by omega⟩) ?_
                                  intro v27 ev27 lv27 uv27
                                  refine zwW_p [(1, 0, 2)] (q := 146) (ls' := [(2, 37), (0, a), (0, b), (0, kL4), (0, xL8), (0, yL11)]) (st' := [(2, 37), (0, v27), (0, yL11), (2, 97)]) (by decide +kernel) rfl ?_
                                  refine zwW_gc IhL11 (kd := 13) (bn := 4) (n := 97) (c := 47) (nx := 149) (by decide +kernel) ?_
                                  refine zwW_p [(1, 4, 0)] (q := 151) (ls' := [(2, 37), (0, a), (0, b), (0, kL4), (0, xL8), (0, yL11)]) (st' := [(0, xL8), (2, 47), (0, v27), (0, yL11), (2, 97)]) (by decide +kernel) rfl ?_
                                  refine zwW_ro IhL11 (a := 47) (n := 8) (kd := 26) (base := 48) (step := 1) (nx := 152) (by decide +kernel) rfl (by first | omega | exact ⟨by omega, by omega⟩) ?_
                                  rw [show ((48 : Nat) : Int) + ((1 : Nat) : Int) * xL8 = (48 + xL8) by omega]
                                  refine zwW_p [(1, 5, 0)] (q := 154) (ls' := [(2, 37), (0, a), (0, b), (0, kL4), (0, xL8), (0, yL11)]) (st' := [(0, yL11), (2, (48 + xL8)), (0, v27), (0, yL11), (2, 97)]) (by decide +kernel) rfl ?_
                                  refine zwW_al IhL11 (a1 := 48) (a2 := 55) (kd := 20) (n := 8) (t := 0) (lo := 0) (hi := 9) (nx := 155) (by decide +kernel) (by first | omega | exact ⟨by omega, by omega⟩) (by first | omega | exact ⟨by omega, by omega⟩) ?_
                                  intro v28 ev28 lv28 uv28
                                  refine zwW_add (nx := 156) (by decide +kernel) (by first | omega | exact ⟨by omega, by omega⟩) ?_
                                  have B156 := iL11_2 (xL8).toNat (by omega)
                                  refine zwW_as IhL11 (a1 := 97) (a2 := 97) (n := 8) (lo := -1) (hi := 4608) (nx := 157) (by decide +kernel) (by first | decide | exact ⟨by decide, by decide⟩) (by first | omega | exact ⟨by omega, by omega⟩) (by first | omega | exact ⟨by omega, by omega⟩) ?_
                                  intro h29 eh29 Ih29
                                  have th29_37_1 : fld h29 37 1 = fld hL11 37 1 := by rw [eh29]; exact fld_wr (by omega)
                                  have W156 : ∀ j : Nat, (j : Int) < fld h 37 1 → fld h29 97 j ≤ 9 * (64 * kL4 + 8 * xL8 + (yL11 + 1)) := fld_all (P := fun j z => (j : Int) < fld h 37 1 → z ≤ 9 * (64 * kL4 + 8 * xL8 + (yL11 + 1))) (fun j hj => by have := iL11_2 j hj; omega) (fun _ => by have := iL11_2 (xL8).toNat (by omega); omega) eh29
                                  have Z156 : zBf (zLa h) (zLe h a.toNat) (fld h 37 1).toNat (kL4).toNat (xL8).toNat ((yL11).toNat + 1) (fld h29 97) := zBf.rl G0 iL11_3 (by omega) (by omega) D66.1 (by omega) (D66.2 (by omega)).1 (by omega) (by omega) (by rw [eh29, fld_wr_eq (IhL11.s (a1 := 97) (a2 := 97) (k := 20) (n := 8) (by decide +kernel) (by decide) (by decide)) (by omega)]; omega) (fun v hv => by rw [eh29]; exact fld_wr (Or.inr hv))
                                  have Rh29 : zMR ms106 h h29 := RhL11.w (a1 := 97) (a2 := 97) (j1 := 0) (j2 := 8) (by decide +kernel) (by first | decide | exact ⟨by decide, by decide⟩) (by first | omega | exact ⟨by omega, by omega⟩) eh29
                                  refine zwW_inc (i := 5) (c := 1) (x := yL11) (nx := 160) (by decide +kernel) rfl (by first | omega | exact ⟨by omega, by omega⟩) (ls' := [(2, 37), (0, a), (0, b), (0, kL4), (0, xL8), (0, (yL11 + 1))]) rfl ?_
                                  refine zwW_p [(24, 57, 0)] (q := 57) (ls' := [(2, 37), (0, a), (0, b), (0, kL4), (0, xL8), (0, (yL11 + 1))]) (st' := []) (by decide +kernel) rfl ?_
                                  exact IHL11 ((100 - (yL11 + 1))).toNat (by omega) (yL11 + 1) h29 rfl (by omega) (by omega) (by first | exact fun j hj => (by have := iL11_2 j hj; omega) | exact W156) (by rw [show (yL11 + 1).toNat = (yL11).toNat + 1 by omega]; first | exact Z156 | exact zBf.sk G0 iL11_3 (by omega) (by omega) D66.1 (by omega)) Ih29 Rh29
                            · refine zwW_p [(24, 157, 0)] (q := 157) (ls' := [(2, 37), (0, a), (0, b), (0, kL4), (0, xL8), (0, yL11)]) (st' := []) (by decide +kernel) rfl ?_
                              refine zwW_inc (i := 5) (c := 1) (x := yL11) (nx := 160) (by decide +kernel) rfl (by first | omega | exact ⟨by omega, by omega⟩) (ls' := [(2, 37), (0, a), (0, b), (0, kL4), (0, xL8), (0, (yL11 + 1))]) rfl ?_
                              refine zwW_p [(24, 57, 0)] (q := 57) (ls' := [(2, 37), (0, a), (0, b), (0, kL4), (0, xL8), (0, (yL11 + 1))]) (st' := []) (by decide +kernel) rfl ?_
                              exact IHL11 ((100 - (yL11 + 1))).toNat (by omega) (yL11 + 1) hL11 rfl (by omega) (by omega) (by first | exact fun j hj => (by have := iL11_2 j hj; omega) | exact W156) (by rw [show (yL11 + 1).toNat = (yL11).toNat + 1 by omega]; first | exact Z156 | exact zBf.sk G0 iL11_3 (by omega) (by omega) D66.1 (by omega)) IhL11 RhL11
                    exact L11 _ 0 hL8 rfl (by omega) (by omega) (fun j hj => by have := iL8_2 j hj; omega) (iL8_3) IhL8 RhL8
              exact L8 _ 0 w5L4 hL4 rfl (by omega) (by omega) (fun j hj => by have := iL4_2 j hj; omega) (iL4_3) IhL4 RhL4
        exact L4 _ 0 (9, 0) (9, 0) hL1 rfl (by omega) (by omega) (fun j hj => by have := iL1_2 j (by omega); omega) (zBf.init G0 (fun j hj => iL1_3 j (by omega))) IhL1 RhL1
      · refine zwW_p [(1, 0, 2)] (q := 11) (ls' := [(2, 37), (0, a), (0, b), (0, vL1), (9, 0), (9, 0)]) (st' := [(2, 37)]) (by decide +kernel) rfl ?_
        refine zwW_gc IhL1 (kd := 13) (bn := 39) (n := 97) (c := 97) (nx := 14) (by decide +kernel) ?_
        refine zwW_p [(1, 3, 0), (1, 3, 0), (1, 1, 0)] (q := 17) (ls' := [(2, 37), (0, a), (0, b), (0, vL1), (9, 0), (9, 0)]) (st' := [(0, a), (0, vL1), (0, vL1), (2, 97)]) (by decide +kernel) rfl ?_
        refine zwic_ne (q := 24) (nx := 20) (by decide +kernel) (fun c30 => ?_) (fun c30 => ?_)
        · refine zwW_p [(0, -1, 0)] (q := 25) (ls' := [(2, 37), (0, a), (0, b), (0, vL1), (9, 0), (9, 0)]) (st' := [(0, -1), (0, vL1), (2, 97)]) (by decide +kernel) rfl ?_
          refine zwW_as IhL1 (a1 := 97) (a2 := 97) (n := 8) (lo := -1) (hi := 4608) (nx := 26) (by decide +kernel) (by first | decide | exact ⟨by decide, by decide⟩) (by first | omega | exact ⟨by omega, by omega⟩) (by first | decide | exact ⟨by decide, by decide⟩) ?_
          intro h31 eh31 Ih31
          have th31_37_1 : fld h31 37 1 = fld hL1 37 1 := by rw [eh31]; exact fld_wr (by omega)
          have W25 : ∀ j : Nat, (j : Int) < vL1 + 1 → fld h31 97 j ≤ 0 := by
            intro j hj
            by_cases hq : j = (vL1).toNat
            · rw [hq, eh31, fld_wr_eq (IhL1.s (a1 := 97) (a2 := 97) (k := 20) (n := 8) (by decide +kernel) (by decide) (by decide)) (by omega)]; decide
            · rw [eh31, fld_wr (Or.inr hq)]; exact iL1_2 j (by omega)
          have V25 : ∀ j : Nat, (j : Int) < vL1 + 1 → fld h31 97 j = if j = a.toNat then 0 else -1 := by
            intro j hj
            by_cases hq : j = (vL1).toNat
            · rw [hq, eh31, fld_wr_eq (IhL1.s (a1 := 97) (a2 := 97) (k := 20) (n := 8) (by decide +kernel) (by decide) (by decide)) (by omega)]; split <;> omega
            · rw [eh31, fld_wr (Or.inr hq)]; exact iL1_3 j (by omega)
          have Rh31 : zMR ms106 h h31 := RhL1.w (a1 := 97) (a2 := 97) (j1 := 0) (j2 := 8) (by decide +kernel) (by first | decide | exact ⟨by decide, by decide⟩) (by first | omega | exact ⟨by omega, by omega⟩) eh31
          refine zwW_inc (i := 3) (c := 1) (x := vL1) (nx := 29) (by decide +kernel) rfl (by first | omega | exact ⟨by omega, by omega⟩) (ls' := [(2, 37), (0, a), (0, b), (0, (vL1 + 1)), (9, 0), (9, 0)]) rfl ?_
          refine zwW_p [(24, 2, 0)] (q := 2) (ls' := [(2, 37), (0, a), (0, b), (0, (vL1 + 1)), (9, 0), (9, 0)]) (st' := []) (by decide +kernel) rfl ?_
          exact IHL1 ((100 - (vL1 + 1))).toNat (by omega) (vL1 + 1) h31 rfl (by omega) (by omega) (W25) (V25) Ih31 Rh31
        · refine zwW_p [(0, 0, 0), (24, 25, 0)] (q := 25) (ls' := [(2, 37), (0, a), (0, b), (0, vL1), (9, 0), (9, 0)]) (st' := [(0, 0), (0, vL1), (2, 97)]) (by decide +kernel) rfl ?_
          refine zwW_as IhL1 (a1 := 97) (a2 := 97) (n := 8) (lo := -1) (hi := 4608) (nx := 26) (by decide +kernel) (by first | decide | exact ⟨by decide, by decide⟩) (by first | omega | exact ⟨by omega, by omega⟩) (by first | decide | exact ⟨by decide, by decide⟩) ?_
          intro h32 eh32 Ih32
          have th32_37_1 : fld h32 37 1 = fld hL1 37 1 := by rw [eh32]; exact fld_wr (by omega)
          have W25 : ∀ j : Nat, (j : Int) < vL1 + 1 → fld h32 97 j ≤ 0 := by
            intro j hj
            by_cases hq : j = (vL1).toNat
            · rw [hq, eh32, fld_wr_eq (IhL1.s (a1 := 97) (a2 := 97) (k := 20) (n := 8) (by decide +kernel) (by decide) (by decide)) (by omega)]; decide
            · rw [eh32, fld_wr (Or.inr hq)]; exact iL1_2 j (by omega)
          have V25 : ∀ j : Nat, (j : Int) < vL1 + 1 → fld h32 97 j = if j = a.toNat then 0 else -1 := by
            intro j hj
            by_cases hq : j = (vL1).toNat
            · rw [hq, eh32, fld_wr_eq (IhL1.s (a1 := 97) (a2 := 97) (k := 20) (n := 8) (by decide +kernel) (by decide) (by decide)) (by omega)]; split <;> omega
            · rw [eh32, fld_wr (Or.inr hq)]; exact iL1_3 j (by omega)
          have Rh32 : zMR ms106 h h32 := RhL1.w (a1 := 97) (a2 := 97) (j1 := 0) (j2 := 8) (by decide +kernel) (by first | decide | exact ⟨by decide, by decide⟩) (by first | omega | exact ⟨by omega, by omega⟩) eh32
          refine zwW_inc (i := 3) (c := 1) (x := vL1) (nx := 29) (by decide +kernel) rfl (by first | omega | exact ⟨by omega, by omega⟩) (ls' := [(2, 37), (0, a), (0, b), (0, (vL1 + 1)), (9, 0), (9, 0)]) rfl ?_
          refine zwW_p [(24, 2, 0)] (q := 2) (ls' := [(2, 37), (0, a), (0, b), (0, (vL1 + 1)), (9, 0), (9, 0)]) (st' := []) (by decide +kernel) rfl ?_
          exact IHL1 ((100 - (vL1 + 1))).toNat (by omega) (vL1 + 1) h32 rfl (by omega) (by omega) (W25) (V25) Ih32 Rh32
  exact L1 _ 0 h rfl (by omega) (by omega) (fun j hj => by omega) (fun j hj => by omega) I R
-- WheelLandModel.far(II)I
theorem m8_f {sc : List Int} (h : Hp) (I : zI h) (a b : Int) (hR : zRO h) : zwC sc 3 8 [(2, 37), (0, a), (0, b)] h (zwRt 0 (fun x g => zI g ∧ zMR ms8 h g ∧ (-2147483648 ≤ x ∧ x ≤ 2147483647) ∧ ((0 ≤ a ∧ a < fld h 37 1 ∧ 0 ≤ b ∧ b < fld h 37 1 ∧ x = zDa h a.toNat b.toNat) ∨ (x = -1 ∧ (a < 0 ∨ fld h 37 1 ≤ a ∨ b < 0 ∨ fld h 37 1 ≤ b))))) := by
  refine zwC_of (D := 2) 3 (by decide +kernel) rfl (ls := [(2, 37), (0, a), (0, b)]) rfl ?_
  have R : zMR ms8 h h := zMR.rf _ _
  refine zwW_p [(1, 0, 2), (1, 1, 0)] (q := 2) (ls' := [(2, 37), (0, a), (0, b)]) (st' := [(0, a), (2, 37)]) (by decide +kernel) rfl ?_
  refine zwW_cm I (op := 60) (k' := 104) (n := 1) (kd := 13) (m := 97) (nx := 5) (r := 37) (tl := [(0, a)]) (st' := []) (by decide +kernel) rfl (by decide +kernel) rfl (m104 h I a) ?_
  rintro x _ ⟨rfl, ⟨rfl, c1⟩ | ⟨rfl, c1⟩⟩
  · refine zwif_eq (q := 25) (nx := 8) (by decide +kernel) (fun c2 => ?_) (fun c2 => ?_)
    · exfalso; omega
    · refine zwW_p [(1, 0, 2), (1, 2, 0)] (q := 10) (ls' := [(2, 37), (0, a), (0, b)]) (st' := [(0, b), (2, 37)]) (by decide +kernel) rfl ?_
      refine zwW_cm I (op := 60) (k' := 104) (n := 1) (kd := 13) (m := 97) (nx := 13) (r := 37) (tl := [(0, b)]) (st' := []) (by decide +kernel) rfl (by decide +kernel) rfl (m104 h I b) ?_
      rintro x _ ⟨rfl, ⟨rfl, c3⟩ | ⟨rfl, c3⟩⟩
      · refine zwif_eq (q := 25) (nx := 16) (by decide +kernel) (fun c4 => ?_) (fun c4 => ?_)
        · exfalso; omega
        · refine zwW_p [(1, 0, 2), (1, 1, 0), (1, 2, 0)] (q := 19) (ls' := [(2, 37), (0, a), (0, b)]) (st' := [(0, b), (0, a), (2, 37)]) (by decide +kernel) rfl ?_
          refine zwW_cm I (op := 60) (k' := 106) (n := 2) (kd := 13) (m := 97) (nx := 22) (r := 37) (tl := [(0, a), (0, b)]) (st' := []) (by decide +kernel) rfl (by decide +kernel) rfl (m106_f h I a b (by omega) (by omega) hR (by omega) (by omega)) ?_
          rintro v5 h10 ⟨Ih10, Qh10, f6, f7, f8, f9⟩
          have Rh10 : zMR ms8 h h10 := R.tr Qh10 (by decide +kernel)
          refine zwW_p [(24, 26, 0)] (q := 26) (ls' := [(2, 37), (0, a), (0, b)]) (st' := [(0, v5)]) (by decide +kernel) rfl ?_
          refine zwW_ret (nx := 27) (a := 0) (b := 0) (by decide +kernel) rfl (Or.inl rfl) ?_
          exact ⟨Ih10, Rh10, by omega, by omega⟩
      · refine zwif_eq (q := 25) (nx := 16) (by decide +kernel) (fun c11 => ?_) (fun c11 => ?_)
        · refine zwW_p [(0, -1, 0)] (q := 26) (ls' := [(2, 37), (0, a), (0, b)]) (st' := [(0, -1)]) (by decide +kernel) rfl ?_
          refine zwW_ret (nx := 27) (a := 0) (b := 0) (by decide +kernel) rfl (Or.inl rfl) ?_
          exact ⟨I, R, by omega, by omega⟩
        · exfalso; omega
  · refine zwif_eq (q := 25) (nx := 8) (by decide +kernel) (fun c12 => ?_) (fun c12 => ?_)
    · refine zwW_p [(0, -1, 0)] (q := 26) (ls' := [(2, 37), (0, a), (0, b)]) (st' := [(0, -1)]) (by decide +kernel) rfl ?_
      refine zwW_ret (nx := 27) (a := 0) (b := 0) (by decide +kernel) rfl (Or.inl rfl) ?_
      exact ⟨I, R, by omega, by omega⟩
    · exfalso; omega
end
section
/-! the law's loop: what is kept -/
section ZL2
variable {sc : List Int} {h h' h1 h2 g : Hp}
def msxL : Zms := [(1, 1100, 0, 100000)]
theorem zAM.sm (A : zAM h) (e : ∀ r : Int, 37 ≤ r ∧ r ≤ 365 → fld g r = fld h r) : zAM g := by
  intro j hj
  rw [e 37 (by decide)] at hj
  rw [e 85 (by decide), e 83 (by decide)]
  exact A j hj
theorem zCW.sm (W : zCW h) (I : zI h) (e : ∀ r : Int, 37 ≤ r ∧ r ≤ 365 → fld g r = fld h r) : zCW g := by
  have b1 := I.b (a1 := 37) (a2 := 37) (j1 := 52) (j2 := 53) (lo := 0) (hi := 8) (by decide +kernel) (r := 37) (j := 52) (by decide) (by decide) (by decide) (by decide)
  refine ⟨fun s c hs hc hp => ?_, fun k hk => ?_⟩
  · rw [e 37 (by decide)] at hs
    rw [e (155 + (s : Int)) (by omega)] at hp ⊢
    rw [e (101 + 6 * (s : Int) + (c : Int)) (by omega)]
    exact W.1 s c hs hc hp
  · rw [e 37 (by decide)] at hk
    rw [e 164 (by decide), e 37 (by decide)]
    exact W.2 k hk
theorem zgetD (hin : ∀ x ∈ sc, in32 x) (i : Nat) : -2147483648 ≤ sc.getD i 0 ∧ sc.getD i 0 ≤ 2147483647 := by
  rw [List.getD_eq_getElem?_getD]
  cases h : sc[i]? with
  | none => exact (by first | decide | exact ⟨by decide, by decide⟩)
  | some x => exact hin x (List.mem_of_getElem? h)
end ZL2
end
section
/-! the start: both constructors run by the kernel -/
def bxr (op k : Nat) (h : Hp) (as : List Vl) : Bool := Nat.beq op 61 || (match as with
  | (2, r) :: _ => (match cel h r with
    | some (k', _) => Nat.beq k' k
    | none => false)
  | _ => false)
def bxo (st : List Vl) : Bool := st.all (fun v => !(Nat.beq v.1 2 && decide (v.2 = -1)))
noncomputable def bxS (ih : Nat → Nat → Nat → List Vl → List Vl → Hp → Option (Option Vl × Hp)) (d y pc : Nat) (ls st : List Vl) (h : Hp) : Option (Option Vl × Hp) :=
  match cdT y pc with
  | none => none
  | some (op, nx, a, b, os) =>
    if op < 20 then (match pst op a b ls st with
      | some (ls', st') => ih d y nx ls' st' h
      | none => none)
    else if op < 30 then (match bst op nx a b os st with
      | some (p, st') => ih d y p ls st' h
      | none => none)
    else if op < 40 then (if bxo st = true then (match rst [] stxt op a b h st with
      | some st' => ih d y nx ls st' h
      | none => none) else none)
    else if op < 60 then (match wst op a b h st with
      | some (h', st') => ih d y nx ls st' h'
      | none => none)
    else if op < 70 then (match popA op b st with
      | some (as, st') => if bxr op (mK a.toNat) h as = true ∧ (argL as).length ≤ mL a.toNat then (match d with
        | 0 => none
        | d + 1 => (match ih d a.toNat 0 (initL as (mL a.toNat)) [] h with
          | some (r1, h1) => ih (d + 1) y nx ls (pshR r1 st') h1
          | none => none)) else none
      | none => none)
    else (match retOf op a b st with
      | some r => some (r, h)
      | none => none)
noncomputable def bx (n : Nat) : Nat → Nat → Nat → List Vl → List Vl → Hp → Option (Option Vl × Hp) := Nat.rec (fun _ _ _ _ _ _ => none) (fun _ ih => bxS ih) n
theorem bxo_ne {r : Int} {rest : List Vl} (hb : bxo ((2, r) :: rest) = true) : r ≠ -1 := by
  unfold bxo at hb
  rw [List.all_cons, Bool.and_eq_true] at hb
  intro hz
  subst hz
  exact absurd hb.1 (by decide)
theorem bxo_tl {v : Vl} {rest : List Vl} (hb : bxo (v :: rest) = true) : bxo rest = true := by
  unfold bxo at hb ⊢
  rw [List.all_cons, Bool.and_eq_true] at hb
  exact hb.2
theorem rst_sc {sc : List Int} {op : Nat} {a b : Int} {h : Hp} {st st' : List Vl} (hb : bxo st = true) (e : rst [] stxt op a b h st = some st') : rst sc stxt op a b h st = some st' := by
  unfold rst at e ⊢
  by_cases q : op = 30
  · rw [if_pos q] at e ⊢; exact e
  · rw [if_neg q] at e ⊢
    by_cases q1 : op = 31
    · rw [if_pos q1] at e ⊢
      split at e
      · have hr := bxo_ne hb
        rw [if_neg hr] at e ⊢
        exact e
      · cases e
    · rw [if_neg q1] at e ⊢
      by_cases q2 : op = 32
      · rw [if_pos q2] at e ⊢
        split at e
        · rename_i i r rest
          have hr := bxo_ne (bxo_tl hb)
          by_cases hi : i < 0
          · rw [if_pos hi] at e; cases e
          · rw [if_neg hi, if_neg hr] at e ⊢
            exact e
        · cases e
      · rw [if_neg q2] at e ⊢
        exact e
theorem bxr_ok {op k : Nat} {h : Hp} {as : List Vl} (e : bxr op k h as = true) : rcv op k h as := by
  unfold bxr at e
  rw [Bool.or_eq_true] at e
  rcases e with e | e
  · exact Or.inl (Nat.eq_of_beq_eq_true e)
  · split at e
    · rename_i r t
      cases hc : cel h r with
      | none => rw [hc] at e; cases e
      | some w =>
        obtain ⟨k', l⟩ := w
        rw [hc] at e
        exact Or.inr (Or.inl ⟨r, l, t, rfl, by rw [hc, Nat.eq_of_beq_eq_true e]⟩)
    · cases e
theorem bx_ok {sc : List Int} : ∀ (n d y pc : Nat) (ls st : List Vl) (h : Hp) (r : Option Vl) (g : Hp), bx n d y pc ls st h = some (r, g) → ∀ D, d ≤ D → zwW sc D y pc ls st h (fun r' g' => r' = r ∧ g' = g)
  | 0, _, _, _, _, _, _, _, _, e, _, _ => by cases e
  | n + 1, d, y, pc, ls, st, h, r, g, e, D, hD => by
    have e : bxS (bx n) d y pc ls st h = some (r, g) := e
    unfold bxS at e
    cases ho : cdT y pc with
    | none => rw [ho] at e; cases e
    | some w =>
      obtain ⟨op, nx, a, b, os⟩ := w
      rw [ho] at e
      dsimp only at e
      by_cases q1 : op < 20
      · rw [if_pos q1] at e
        cases hp : pst op a b ls st with
        | none => rw [hp] at e; cases e
        | some w =>
          obtain ⟨ls', st'⟩ := w
          rw [hp] at e
          obtain ⟨m, r1, h1, hx, hq⟩ := bx_ok (sc := sc) n d y nx ls' st' h r g e D hD
          exact ⟨m + 1, r1, h1, ⟨op, nx, a, b, os, ho, Or.inl ⟨q1, ls', st', hp, hx⟩⟩, hq⟩
      · rw [if_neg q1] at e
        by_cases q2 : op < 30
        · rw [if_pos q2] at e
          cases hp : bst op nx a b os st with
          | none => rw [hp] at e; cases e
          | some w =>
            obtain ⟨p, st'⟩ := w
            rw [hp] at e
            obtain ⟨m, r1, h1, hx, hq⟩ := bx_ok (sc := sc) n d y p ls st' h r g e D hD
            exact ⟨m + 1, r1, h1, ⟨op, nx, a, b, os, ho, Or.inr (Or.inl ⟨by omega, q2, p, st', hp, hx⟩)⟩, hq⟩
        · rw [if_neg q2] at e
          by_cases q3 : op < 40
          · rw [if_pos q3] at e
            by_cases hb : bxo st = true
            · rw [if_pos hb] at e
              cases hp : rst [] stxt op a b h st with
              | none => rw [hp] at e; cases e
              | some st' =>
                rw [hp] at e
                obtain ⟨m, r1, h1, hx, hq⟩ := bx_ok (sc := sc) n d y nx ls st' h r g e D hD
                exact ⟨m + 1, r1, h1, ⟨op, nx, a, b, os, ho, Or.inr (Or.inr (Or.inl ⟨by omega, q3, st', rst_sc hb hp, hx⟩))⟩, hq⟩
            · rw [if_neg hb] at e; cases e
          · rw [if_neg q3] at e
            by_cases q4 : op < 60
            · rw [if_pos q4] at e
              cases hp : wst op a b h st with
              | none => rw [hp] at e; cases e
              | some w =>
                obtain ⟨h', st'⟩ := w
                rw [hp] at e
                obtain ⟨m, r1, h1, hx, hq⟩ := bx_ok (sc := sc) n d y nx ls st' h' r g e D hD
                exact ⟨m + 1, r1, h1, ⟨op, nx, a, b, os, ho, Or.inr (Or.inr (Or.inr (Or.inl ⟨by omega, q4, h', st', hp, hx⟩)))⟩, hq⟩
            · rw [if_neg q4] at e
              by_cases q5 : op < 70
              · rw [if_pos q5] at e
                cases hp : popA op b st with
                | none => rw [hp] at e; cases e
                | some w =>
                  obtain ⟨as, st'⟩ := w
                  rw [hp] at e
                  dsimp only at e
                  by_cases hc : bxr op (mK a.toNat) h as = true ∧ (argL as).length ≤ mL a.toNat
                  · rw [if_pos hc] at e
                    match d, hD, e with
                    | d + 1, hD, e =>
                      dsimp only at e
                      cases hr : bx n d a.toNat 0 (initL as (mL a.toNat)) [] h with
                      | none => rw [hr] at e; cases e
                      | some w =>
                        obtain ⟨r1, h1⟩ := w
                        rw [hr] at e
                        obtain ⟨D', rfl⟩ : ∃ D', D = D' + 1 := ⟨D - 1, by omega⟩
                        obtain ⟨m1, r2, h2, hx1, rfl, rfl⟩ := bx_ok (sc := sc) n d a.toNat 0 (initL as (mL a.toNat)) [] h r1 h1 hr D' (by omega)
                        obtain ⟨m, r3, h3, hx, hq⟩ := bx_ok (sc := sc) n (d + 1) y nx ls (pshR r2 st') h2 r g e (D' + 1) hD
                        exact ⟨m + 1, r3, h3, ⟨op, nx, a, b, os, ho, Or.inr (Or.inr (Or.inr (Or.inr (Or.inl ⟨by omega, q5, as, st', r2, h2, hp, bxr_ok hc.1, ⟨hc.2, m1, hx1⟩, hx⟩))))⟩, hq⟩
                  · rw [if_neg hc] at e; cases e
              · rw [if_neg q5] at e
                cases hp : retOf op a b st with
                | none => rw [hp] at e; cases e
                | some r1 =>
                  rw [hp] at e
                  cases e
                  exact ⟨1, r, h, ⟨op, nx, a, b, os, ho, Or.inr (Or.inr (Or.inr (Or.inr (Or.inr ⟨by omega, hp, rfl⟩))))⟩, rfl, rfl⟩
end
section
/-! the heap behind both constructors -/
noncomputable def zbK (chk : Hp → Bool) : Bool := match bx 1500 9 1 0 [(2, 1)] [] [(12, List.replicate 13 0)] with
  | some (none, h1) => (match bx 1500 9 2 0 [(2, ((h1.length + 1 : Nat) : Int))] [] (h1 ++ [(13, List.replicate 97 0)]) with
    | some (none, h2) => chk h2
    | _ => false)
  | _ => false
end
section
/-! what holds behind both constructors -/
def zkS (h : Hp) : Bool := zShL.all (fun e => (List.range (e.2.1 + 1 - e.1)).all (fun i => match cel h ((e.1 + i : Nat) : Int) with
  | some (k, l) => Nat.beq k e.2.2.1 && Nat.beq l.length e.2.2.2
  | none => false))
def zkB (h : Hp) : Bool := zBdL.all (fun e => (List.range (e.2.1 + 1 - e.1)).all (fun i => match cel h ((e.1 + i : Nat) : Int) with
  | some (_, l) => Nat.ble e.2.2.2.1 l.length && ((l.drop e.2.2.1).take (e.2.2.2.1 - e.2.2.1)).all (fun x => decide (e.2.2.2.2.1 ≤ x) && decide (x ≤ e.2.2.2.2.2))
  | none => false))
def zkR (h : Hp) : Bool := zRwL.all (fun e => (List.range e.2.1).all (fun j => decide (fld h (e.1 : Int) j = (e.2.2.1 : Int) + (e.2.2.2 : Int) * (j : Int))))
def zkO (h : Hp) : Bool := (Nat.beq h.length 365 && Nat.ble (sz h) 3000000) && ((zLis.all (fun A => decide (fld h (A : Int) 2 = 0) && decide (fld h (A : Int) 1 = -2)) && (List.range 12).all (fun i => decide (fld h 15 i = 0))) && ((decide (fld h 37 1 = 0) && decide (fld h 37 2 = 0)) && ((decide (fld h 37 52 = 0) && decide (fld h 37 53 = 0)) && zkE h)))
def zkA (h : Hp) : Bool := zkS h && (zkB h && (zkR h && zkO h))
theorem zkS_ok {h : Hp} (e : zkS h = true) : zSh h := by
  intro q hq r k1 k2
  have w := List.all_eq_true.mp (List.all_eq_true.mp e q hq) (r - q.1).toNat (List.mem_range.mpr (by omega))
  rw [show ((q.1 + (r - q.1).toNat : Nat) : Int) = r by omega] at w
  cases hc : cel h r with
  | none => rw [hc] at w; cases w
  | some z =>
    obtain ⟨k, l⟩ := z
    rw [hc] at w
    dsimp only at w
    rw [Bool.and_eq_true] at w
    rw [sh_of hc, Nat.eq_of_beq_eq_true w.1, Nat.eq_of_beq_eq_true w.2]
theorem zkB_ok {h : Hp} (e : zkB h = true) : zBd h := by
  intro q hq r j k1 k2 k3 k4
  have w := List.all_eq_true.mp (List.all_eq_true.mp e q hq) (r - q.1).toNat (List.mem_range.mpr (by omega))
  rw [show ((q.1 + (r - q.1).toNat : Nat) : Int) = r by omega] at w
  cases hc : cel h r with
  | none => rw [hc] at w; cases w
  | some z =>
    obtain ⟨k, l⟩ := z
    rw [hc] at w
    dsimp only at w
    rw [Bool.and_eq_true] at w
    have hl := Nat.le_of_ble_eq_true w.1
    have hj : j < l.length := by omega
    have m : l[j] ∈ (l.drop q.2.2.1).take (q.2.2.2.1 - q.2.2.1) := by
      rw [List.mem_iff_getElem]
      refine ⟨j - q.2.2.1, by rw [List.length_take, List.length_drop]; omega, ?_⟩
      rw [List.getElem_take, List.getElem_drop]
      congr 1
      omega
    have b := List.all_eq_true.mp w.2 _ m
    rw [Bool.and_eq_true, decide_eq_true_eq, decide_eq_true_eq] at b
    rw [fld_of hc, List.getD_eq_getElem?_getD, List.getElem?_eq_getElem hj]
    exact b
theorem zkR_ok {h : Hp} (e : zkR h = true) : zRw h := by
  intro q hq j k1
  exact of_decide_eq_true (List.all_eq_true.mp (List.all_eq_true.mp e q hq) j (List.mem_range.mpr k1))
theorem zkA_ok {h : Hp} (e : zkA h = true) : CI h ∧ zAM h ∧ zCW h ∧ zE h ∧ (h.length : Int) - (2 * fld h 4 2 + fld h 21 2) ≤ 400 ∧ (sz h : Int) - (1007 * fld h 4 2 + 1000 * fld h 21 2) ≤ 3000000 := by
  unfold zkA at e
  simp only [Bool.and_eq_true] at e
  obtain ⟨e1, e2, e3, e4⟩ := e
  unfold zkO at e4
  simp only [Bool.and_eq_true, decide_eq_true_eq, List.all_eq_true] at e4
  obtain ⟨⟨l1, l2⟩, ⟨q1, q2⟩, ⟨m1, m2⟩, ⟨m3, m4⟩, m5⟩ := e4
  have l1 := Nat.eq_of_beq_eq_true l1
  have l2 := Nat.le_of_ble_eq_true l2
  have f2 : fld h 2 2 = 0 := (q1 2 (by decide)).1
  have f4 : fld h 4 2 = 0 := (q1 4 (by decide)).1
  have f21 : fld h 21 2 = 0 := (q1 21 (by decide)).1
  refine ⟨⟨⟨zkS_ok e1, zkB_ok e2, zkR_ok e3⟩, fun r k n j k1 k2 k3 => ?_, fun A hA => Or.inl (q1 A hA), fun A hA B hB hne ha => ?_, fun i hi => Or.inl (q2 i (List.mem_range.mpr hi))⟩, fun j hj => by omega, ⟨fun s c hs => by omega, fun k hk => by omega⟩, zkE_ok m5, by omega, by omega⟩
  · have := (sh_pos k2).2
    omega
  · have := (q1 A hA).2
    omega
set_option maxRecDepth 100000 in
theorem zbK_A : zbK zkA = true := by decide +kernel
end
section
/-! what of the model stays from call to call, as one function of table and place -/
section YM
variable {h h' g : Hp} {a i n : Nat} {x : Int} {ms : Zms}
def zu (f : Nat → Int) (i : Nat) (x : Int) : Nat → Int := fun k => if k = i then x else f k
theorem zu_eq {f : Nat → Int} : zu f i x i = x := if_pos rfl
theorem zu_ne {f : Nat → Int} {k : Nat} (e : k ≠ i) : zu f i x k = f k := if_neg e
/-- a row behind a write of one of its places -/
theorem fld_zu {r : Int} {k : Nat} (s : sh h r = some (k, n)) (hi : i < n) (e : h' = wr h r i x) : fld h' r = zu (fld h r) i x := by
  funext j
  by_cases q : j = i
  · rw [q, zu_eq, e]
    exact fld_wr_eq s hi
  · rw [zu_ne q, e]
    exact fld_wr (Or.inr q)
end YM
end
section
/-! the TEXT read: tokens and grammar, of the bytes alone -/
section PR
abbrev pT : Type := Nat → Int
abbrev pQ : Type := Nat × Nat × (Nat → Int)
abbrev pR : Type := Bool × pQ
variable {t : pT} {n p q k m f e i j : Nat} {x c : Int} {P : Int → Bool} {s s' : pQ}
def pLet (c : Int) : Bool := decide (97 ≤ c) && decide (c ≤ 122)
def pDig (c : Int) : Bool := decide (48 ≤ c) && decide (c ≤ 57)
def pBla (c : Int) : Bool := decide (c = 32) || decide (c = 10)
def pSig (c : Int) : Bool := decide (c = 43 ∨ c = 45 ∨ c = 42 ∨ c = 47 ∨ c = 40 ∨ c = 41 ∨ c = 91 ∨ c = 93 ∨ c = 60 ∨ c = 62 ∨ c = 61 ∨ c = 59)
theorem pLet_t : pLet c = true ↔ 97 ≤ c ∧ c ≤ 122 := by unfold pLet; rw [Bool.and_eq_true, decide_eq_true_eq, decide_eq_true_eq]
theorem pDig_t : pDig c = true ↔ 48 ≤ c ∧ c ≤ 57 := by unfold pDig; rw [Bool.and_eq_true, decide_eq_true_eq, decide_eq_true_eq]
theorem pBla_t : pBla c = true ↔ c = 32 ∨ c = 10 := by unfold pBla; rw [Bool.or_eq_true, decide_eq_true_eq, decide_eq_true_eq]
theorem pSig_t : pSig c = true ↔ (c = 43 ∨ c = 45 ∨ c = 42 ∨ c = 47 ∨ c = 40 ∨ c = 41 ∨ c = 91 ∨ c = 93 ∨ c = 60 ∨ c = 62 ∨ c = 61 ∨ c = 59) := by unfold pSig; rw [decide_eq_true_eq]
/-- the first place from p on where P doesn't hold, or n -/
def pRn (P : Int → Bool) (t : pT) (n : Nat) : Nat → Nat → Nat
  | 0, p => p
  | f + 1, p => if p < n ∧ P (t p) = true then pRn P t n f (p + 1) else p
def pRun (P : Int → Bool) (t : pT) (n p : Nat) : Nat := pRn P t n (n - p) p
theorem pRun_s (h : p < n) (hp : P (t p) = true) : pRun P t n p = pRun P t n (p + 1) := by
  unfold pRun
  rw [show n - p = (n - (p + 1)) + 1 by omega]
  show (if p < n ∧ P (t p) = true then pRn P t n (n - (p + 1)) (p + 1) else p) = _
  rw [if_pos ⟨h, hp⟩]
theorem pRun_e (h : ¬ (p < n ∧ P (t p) = true)) : pRun P t n p = p := by
  unfold pRun
  cases hk : n - p with
  | zero => rfl
  | succ f =>
    show (if p < n ∧ P (t p) = true then pRn P t n f (p + 1) else p) = _
    rw [if_neg h]
theorem pRun_b : ∀ (f p : Nat), f = n - p → p ≤ n → p ≤ pRun P t n p ∧ pRun P t n p ≤ n ∧ (∀ j, p ≤ j → j < pRun P t n p → P (t j) = true) ∧ ¬ (pRun P t n p < n ∧ P (t (pRun P t n p)) = true)
  | 0, p, hf, hp => by
    have e : ¬ (p < n ∧ P (t p) = true) := fun z => by omega
    rw [pRun_e e]
    exact ⟨Nat.le_refl _, hp, fun j h1 h2 => by omega, e⟩
  | f + 1, p, hf, hp => by
    by_cases h : p < n ∧ P (t p) = true
    · rw [pRun_s h.1 h.2]
      obtain ⟨a, b, d, g⟩ := pRun_b f (p + 1) (by omega) (by omega)
      refine ⟨by omega, b, fun j h1 h2 => ?_, g⟩
      by_cases hj : j = p
      · rw [hj]; exact h.2
      · exact d j (by omega) h2
    · rw [pRun_e h]
      exact ⟨Nat.le_refl _, hp, fun j h1 h2 => by omega, h⟩
theorem pRun_gt (h : p < n) (hp : P (t p) = true) : p < pRun P t n p := by
  rw [pRun_s h hp]
  have := (pRun_b (P := P) (t := t) (n := n) (n - (p + 1)) (p + 1) rfl (by omega)).1
  omega
/-- the end of the token at p, what it is, the token behind it -/
def pEn (t : pT) (n p : Nat) : Nat := if p < n then (if pLet (t p) = true then pRun pLet t n p else if pDig (t p) = true then pRun pDig t n p else p + 1) else p
def pSk (t : pT) (n p : Nat) : Nat := pRun pBla t n p
def pNx (t : pT) (n p : Nat) : Nat := pSk t n (pEn t n p)
def pK (t : pT) (n p : Nat) : Int := if p < n then (if pLet (t p) = true then 1 else if pDig (t p) = true then 2 else if pSig (t p) = true then t p else 3) else 0
def pWs : List (List Int) := [[119, 101, 101, 107], [115, 101, 97, 115, 111, 110], [104, 101, 97, 100, 115], [119, 104, 101, 101, 108, 115], [115, 107, 105, 108, 108], [99, 97, 115, 116, 101], [111, 116, 104, 101, 114], [99, 111, 117, 110, 116], [115, 116, 114, 101, 110, 103, 116, 104], [104, 97, 110, 107, 115], [105, 100, 108, 101], [102, 97, 114], [112, 114, 105, 99, 101], [111, 119, 101], [119, 97, 103, 101], [100, 117, 116, 121], [109, 97, 121], [115, 116, 97, 109, 112], [111, 114], [97, 110, 100], [110, 111, 116]]
def pEq (t : pT) : Nat → List Int → Bool
  | _, [] => true
  | p, w :: r => decide (t p = w) && pEq t (p + 1) r
def pFd (t : pT) (p l : Nat) : List (List Int) → Nat → Int
  | [], _ => -1
  | w :: r, j => if w.length = l ∧ pEq t p w = true then (j : Int) else pFd t p l r (j + 1)
def pWd (t : pT) (n p : Nat) : Int := pFd t p (pEn t n p - p) pWs 0
def pNu (t : pT) : Nat → Nat → Int → Int
  | 0, _, v => v
  | f + 1, p, v => pNu t f (p + 1) (min (v * 10 + t p - 48) 10000)
def pVl (t : pT) (n p : Nat) : Int := pNu t (pEn t n p - p) p 0
def pV (t : pT) (n p : Nat) : Int := if pLet (t p) = true then pWd t n p else pVl t n p
theorem pEn_b (h : p ≤ n) : p ≤ pEn t n p ∧ pEn t n p ≤ n ∧ (p < n → p < pEn t n p) := by
  unfold pEn
  by_cases h1 : p < n
  · rw [if_pos h1]
    by_cases h2 : pLet (t p) = true
    · rw [if_pos h2]
      have a := pRun_b (P := pLet) (t := t) (n := n) (n - p) p rfl h
      have b := pRun_gt (P := pLet) (t := t) h1 h2
      omega
    · rw [if_neg h2]
      by_cases h3 : pDig (t p) = true
      · rw [if_pos h3]
        have a := pRun_b (P := pDig) (t := t) (n := n) (n - p) p rfl h
        have b := pRun_gt (P := pDig) (t := t) h1 h3
        omega
      · rw [if_neg h3]
        omega
  · rw [if_neg h1]
    omega
theorem pNx_b (h : p ≤ n) : p ≤ pNx t n p ∧ pNx t n p ≤ n ∧ (p < n → p < pNx t n p) := by
  have a := pEn_b (t := t) h
  have b := pRun_b (P := pBla) (t := t) (n := n) (n - pEn t n p) (pEn t n p) rfl a.2.1
  unfold pNx pSk
  omega
theorem pK_0 : pK t n p = 0 ↔ n ≤ p := by
  unfold pK
  by_cases h1 : p < n
  · rw [if_pos h1]
    refine ⟨fun z => ?_, fun z => by omega⟩
    by_cases h2 : pLet (t p) = true
    · rw [if_pos h2] at z; omega
    · rw [if_neg h2] at z
      by_cases h3 : pDig (t p) = true
      · rw [if_pos h3] at z; omega
      · rw [if_neg h3] at z
        by_cases h4 : pSig (t p) = true
        · rw [if_pos h4] at z
          have := pSig_t.mp h4
          omega
        · rw [if_neg h4] at z; omega
  · rw [if_neg h1]
    exact ⟨fun _ => by omega, fun _ => rfl⟩
theorem pK_lt (h : pK t n p ≠ 0) : p < n := by
  by_cases q : p < n
  · exact q
  · exact absurd (pK_0.mpr (by omega)) h
/-! the grammar -/
def pW (x : Int) (s : pQ) : pQ := (s.1, s.2.1 + 1, zu s.2.2 s.2.1 x)
def pA (t : pT) (n : Nat) (s : pQ) : pQ := (pNx t n s.1, s.2)
def pFac (t : pT) (n : Nat) (o : Bool) (sub : pQ → pR) (s : pQ) : pR :=
  if pK t n s.1 = 2 ∧ pV t n s.1 ≤ 9999 then (true, pA t n (pW (pV t n s.1) s))
  else if pK t n s.1 = 1 ∧ 0 ≤ pV t n s.1 ∧ pV t n s.1 ≤ 12 then (true, pA t n (pW (-1 - pV t n s.1) s))
  else if o = true ∧ pK t n s.1 = 40 then
    (if (sub (pA t n s)).1 = true then (if pK t n (sub (pA t n s)).2.1 = 41 then (true, pA t n (sub (pA t n s)).2) else (false, (sub (pA t n s)).2)) else sub (pA t n s))
  else (false, s)
def pLp (t : pT) (n : Nat) (o1 o2 : Int) (f : pQ → pR) : Nat → pQ → pR
  | 0, s => (true, s)
  | m + 1, s => if pK t n s.1 = o1 ∨ pK t n s.1 = o2 then (if (f (pA t n s)).1 = true then pLp t n o1 o2 f m (pW (-(pK t n s.1)) (f (pA t n s)).2) else f (pA t n s)) else (true, s)
def pPro (t : pT) (n : Nat) (f : pQ → pR) (s : pQ) : pR := if (f s).1 = true then pLp t n 42 47 f 400 (f s).2 else f s
def pSm0 (t : pT) (n : Nat) (f : pQ → pR) (s : pQ) : pR := if (pPro t n f s).1 = true then pLp t n 43 45 (pPro t n f) 400 (pPro t n f s).2 else pPro t n f s
def pNo (s : pQ) : pR := (false, s)
/-- a factor, with so many deeper -/
def pFc (t : pT) (n : Nat) : Nat → pQ → pR
  | 0 => pFac t n false pNo
  | e + 1 => pFac t n true (pSm0 t n (pFc t n e))
def pSum (t : pT) (n e : Nat) : pQ → pR := pSm0 t n (pFc t n e)
def pLw (t : pT) (n : Nat) (w : Int) (f : pQ → pR) : Nat → pQ → pR
  | 0, s => (true, s)
  | m + 1, s => if pK t n s.1 = 1 ∧ pV t n s.1 = w then (if (f (pA t n s)).1 = true then pLw t n w f m (pW (-w) (f (pA t n s)).2) else f (pA t n s)) else (true, s)
def pHol (t : pT) (n : Nat) (o : Bool) (hol eit sum : pQ → pR) (s : pQ) : pR :=
  if pK t n s.1 = 1 ∧ pV t n s.1 = 20 then
    (if o = true then (if (hol (pA t n s)).1 = true then (true, pW (-20) (hol (pA t n s)).2) else hol (pA t n s)) else (false, s))
  else if pK t n s.1 = 91 then
    (if o = true then (if (eit (pA t n s)).1 = true then (if pK t n (eit (pA t n s)).2.1 = 93 then (true, pA t n (eit (pA t n s)).2) else (false, (eit (pA t n s)).2)) else eit (pA t n s)) else (false, s))
  else if (sum s).1 = true then
    (if pK t n (sum s).2.1 = 60 ∨ pK t n (sum s).2.1 = 62 ∨ pK t n (sum s).2.1 = 61 then
      (if (sum (pA t n (sum s).2)).1 = true then (true, pW (-(pK t n (sum s).2.1)) (sum (pA t n (sum s).2)).2) else sum (pA t n (sum s).2))
    else (false, (sum s).2))
  else sum s
def pBth (t : pT) (n : Nat) (hol : pQ → pR) (s : pQ) : pR := if (hol s).1 = true then pLw t n 19 hol 400 (hol s).2 else hol s
def pEi0 (t : pT) (n : Nat) (hol : pQ → pR) (s : pQ) : pR := if (pBth t n hol s).1 = true then pLw t n 18 (pBth t n hol) 400 (pBth t n hol s).2 else pBth t n hol s
def pHo (t : pT) (n : Nat) : Nat → pQ → pR
  | 0 => pHol t n false pNo pNo (pSum t n 0)
  | e + 1 => pHol t n true (pHo t n e) (pEi0 t n (pHo t n e)) (pSum t n (e + 1))
def pEi (t : pT) (n e : Nat) : pQ → pR := pEi0 t n (pHo t n e)
def pCb (t : pT) (n : Nat) (c : Int) (s : pQ) : pR := if c < 3 then pSum t n 8 s else pEi t n 8 s
def pCls (t : pT) (n : Nat) (s : pQ) (b : Nat → Int) : Bool × pQ × (Nat → Int) :=
  if pK t n s.1 = 1 ∧ 13 ≤ pV t n s.1 ∧ pV t n s.1 ≤ 17 ∧ b (pV t n s.1 - 13).toNat = -1 then
    (if (pCb t n (pV t n s.1 - 13) (pA t n s)).1 = true then
      (if pK t n (pCb t n (pV t n s.1 - 13) (pA t n s)).2.1 = 59 then (true, pW (-21) (pA t n (pCb t n (pV t n s.1 - 13) (pA t n s)).2), zu b (pV t n s.1 - 13).toNat s.2.1)
      else (false, (pCb t n (pV t n s.1 - 13) (pA t n s)).2, zu b (pV t n s.1 - 13).toNat s.2.1))
    else (false, (pCb t n (pV t n s.1 - 13) (pA t n s)).2, zu b (pV t n s.1 - 13).toNat s.2.1))
  else (false, s, b)
def pRd (t : pT) (n : Nat) : Nat → pQ → (Nat → Int) → Bool × pQ × (Nat → Int)
  | 0, s, b => (true, s, b)
  | m + 1, s, b => if pK t n s.1 = 0 then (true, s, b) else if (pCls t n s b).1 = true then pRd t n m (pCls t n s b).2.1 (pCls t n s b).2.2 else pCls t n s b
def pRead (t : pT) (n : Nat) (c : Nat → Int) : Bool × pQ × (Nat → Int) := pRd t n 400 (pSk t n 0, 0, c) (fun _ => -1)
/-- the FAULT -/
def pFa (t : pT) (n : Nat) (c : Nat → Int) : Int := if (pRead t n c).1 = true then -1 else (((pRead t n c).2.1.1 : Nat) : Int)
/-! how far a reading goes: within the text; no more is written than was read -/
def pG (n : Nat) (f : pQ → pR) : Prop := ∀ s : pQ, s.1 ≤ n → s.1 ≤ (f s).2.1 ∧ (f s).2.1 ≤ n ∧ s.2.1 ≤ (f s).2.2.1 ∧ (f s).2.2.1 + s.1 ≤ s.2.1 + (f s).2.1 ∧ ((f s).1 = true → s.1 < (f s).2.1 ∧ s.2.1 < (f s).2.2.1) ∧ ∀ i, i < s.2.1 → (f s).2.2.2 i = s.2.2 i
theorem pG_no : pG n pNo := fun s h => ⟨Nat.le_refl _, h, Nat.le_refl _, by show s.2.1 + s.1 ≤ s.2.1 + s.1; omega, fun z => (by cases z), fun _ _ => rfl⟩
theorem pG_w (h : s.1 < n) (x : Int) : s.1 ≤ (pA t n (pW x s)).1 ∧ (pA t n (pW x s)).1 ≤ n ∧ s.2.1 ≤ (pA t n (pW x s)).2.1 ∧ (pA t n (pW x s)).2.1 + s.1 ≤ s.2.1 + (pA t n (pW x s)).1 ∧ (s.1 < (pA t n (pW x s)).1 ∧ s.2.1 < (pA t n (pW x s)).2.1) ∧ ∀ i, i < s.2.1 → (pA t n (pW x s)).2.2 i = s.2.2 i := by
  have b := pNx_b (t := t) (n := n) (p := s.1) (by omega)
  show s.1 ≤ pNx t n s.1 ∧ pNx t n s.1 ≤ n ∧ s.2.1 ≤ s.2.1 + 1 ∧ s.2.1 + 1 + s.1 ≤ s.2.1 + pNx t n s.1 ∧ (s.1 < pNx t n s.1 ∧ s.2.1 < s.2.1 + 1) ∧ ∀ i, i < s.2.1 → zu s.2.2 s.2.1 x i = s.2.2 i
  exact ⟨by omega, by omega, by omega, by omega, (by first | omega | exact ⟨by omega, by omega⟩), fun i hi => zu_ne (by omega)⟩
theorem pG_fac {o : Bool} {sub : pQ → pR} (H : pG n sub) : pG n (pFac t n o sub) := by
  intro s h
  have b := pNx_b (t := t) (n := n) (p := s.1) h
  unfold pFac
  split
  · rename_i c
    have w := pG_w (t := t) (s := s) (pK_lt (t := t) (n := n) (p := s.1) (by omega)) (pV t n s.1)
    exact ⟨w.1, w.2.1, w.2.2.1, w.2.2.2.1, fun _ => w.2.2.2.2.1, w.2.2.2.2.2⟩
  · split
    · rename_i c
      have w := pG_w (t := t) (s := s) (pK_lt (t := t) (n := n) (p := s.1) (by omega)) (-1 - pV t n s.1)
      exact ⟨w.1, w.2.1, w.2.2.1, w.2.2.2.1, fun _ => w.2.2.2.2.1, w.2.2.2.2.2⟩
    · split
      · rename_i c
        have hp := pK_lt (t := t) (n := n) (p := s.1) (by omega)
        have g := H (pA t n s) (by show pNx t n s.1 ≤ n; omega)
        have g : pNx t n s.1 ≤ (sub (pA t n s)).2.1 ∧ (sub (pA t n s)).2.1 ≤ n ∧ s.2.1 ≤ (sub (pA t n s)).2.2.1 ∧ (sub (pA t n s)).2.2.1 + pNx t n s.1 ≤ s.2.1 + (sub (pA t n s)).2.1 ∧ ((sub (pA t n s)).1 = true → pNx t n s.1 < (sub (pA t n s)).2.1 ∧ s.2.1 < (sub (pA t n s)).2.2.1) ∧ ∀ i, i < s.2.1 → (sub (pA t n s)).2.2.2 i = s.2.2 i := g
        obtain ⟨g1, g2, g3, g4, g5, g6⟩ := g
        split
        · rename_i c1
          have g5 := g5 c1
          split
          · have b2 := pNx_b (t := t) (n := n) (p := (sub (pA t n s)).2.1) g2
            show s.1 ≤ pNx t n (sub (pA t n s)).2.1 ∧ pNx t n (sub (pA t n s)).2.1 ≤ n ∧ s.2.1 ≤ (sub (pA t n s)).2.2.1 ∧ (sub (pA t n s)).2.2.1 + s.1 ≤ s.2.1 + pNx t n (sub (pA t n s)).2.1 ∧ (true = true → s.1 < pNx t n (sub (pA t n s)).2.1 ∧ s.2.1 < (sub (pA t n s)).2.2.1) ∧ ∀ i, i < s.2.1 → (sub (pA t n s)).2.2.2 i = s.2.2 i
            exact ⟨by omega, by omega, by omega, by omega, fun _ => (by first | omega | exact ⟨by omega, by omega⟩), g6⟩
          · show s.1 ≤ (sub (pA t n s)).2.1 ∧ (sub (pA t n s)).2.1 ≤ n ∧ s.2.1 ≤ (sub (pA t n s)).2.2.1 ∧ (sub (pA t n s)).2.2.1 + s.1 ≤ s.2.1 + (sub (pA t n s)).2.1 ∧ (false = true → _) ∧ _
            exact ⟨by omega, g2, by omega, by omega, fun z => (by cases z), g6⟩
        · exact ⟨by omega, g2, by omega, by omega, fun z => absurd z ‹_›, g6⟩
      · exact ⟨Nat.le_refl _, h, Nat.le_refl _, by show s.2.1 + s.1 ≤ s.2.1 + s.1; omega, fun z => (by cases z), fun _ _ => rfl⟩
theorem pG_lp {o1 o2 : Int} {f : pQ → pR} (H : pG n f) (h1 : o1 ≠ 0) (h2 : o2 ≠ 0) : ∀ (m : Nat) (s : pQ), s.1 ≤ n → s.1 ≤ (pLp t n o1 o2 f m s).2.1 ∧ (pLp t n o1 o2 f m s).2.1 ≤ n ∧ s.2.1 ≤ (pLp t n o1 o2 f m s).2.2.1 ∧ (pLp t n o1 o2 f m s).2.2.1 + s.1 ≤ s.2.1 + (pLp t n o1 o2 f m s).2.1 ∧ ∀ i, i < s.2.1 → (pLp t n o1 o2 f m s).2.2.2 i = s.2.2 i
  | 0, s, h => ⟨Nat.le_refl _, h, Nat.le_refl _, by show s.2.1 + s.1 ≤ s.2.1 + s.1; omega, fun _ _ => rfl⟩
  | m + 1, s, h => by
    have b := pNx_b (t := t) (n := n) (p := s.1) h
    unfold pLp
    split
    · rename_i c
      have hp := pK_lt (t := t) (n := n) (p := s.1) (by omega)
      have g := H (pA t n s) (by show pNx t n s.1 ≤ n; omega)
      have g : pNx t n s.1 ≤ (f (pA t n s)).2.1 ∧ (f (pA t n s)).2.1 ≤ n ∧ s.2.1 ≤ (f (pA t n s)).2.2.1 ∧ (f (pA t n s)).2.2.1 + pNx t n s.1 ≤ s.2.1 + (f (pA t n s)).2.1 ∧ ((f (pA t n s)).1 = true → pNx t n s.1 < (f (pA t n s)).2.1 ∧ s.2.1 < (f (pA t n s)).2.2.1) ∧ ∀ i, i < s.2.1 → (f (pA t n s)).2.2.2 i = s.2.2 i := g
      obtain ⟨g1, g2, g3, g4, g5, g6⟩ := g
      split
      · rename_i c1
        have g5 := g5 c1
        have r := pG_lp H h1 h2 m (pW (-(pK t n s.1)) (f (pA t n s)).2) g2
        obtain ⟨r1, r2, r3, r4, r5⟩ := r
        have r1 : (f (pA t n s)).2.1 ≤ _ := r1
        have r3 : (f (pA t n s)).2.2.1 + 1 ≤ _ := r3
        have r4 : _ + (f (pA t n s)).2.1 ≤ (f (pA t n s)).2.2.1 + 1 + _ := r4
        refine ⟨by omega, r2, by omega, by omega, fun i hi => ?_⟩
        rw [r5 i (by show i < (f (pA t n s)).2.2.1 + 1; omega)]
        show zu _ _ _ i = _
        rw [zu_ne (by omega)]
        exact g6 i hi
      · exact ⟨by omega, g2, by omega, by omega, g6⟩
    · exact ⟨Nat.le_refl _, h, Nat.le_refl _, by show s.2.1 + s.1 ≤ s.2.1 + s.1; omega, fun _ _ => rfl⟩
theorem pG_pro {f : pQ → pR} (H : pG n f) : pG n (pPro t n f) := by
  intro s h
  obtain ⟨g1, g2, g3, g4, g5, g6⟩ := H s h
  unfold pPro
  split
  · rename_i c
    have g5 := g5 c
    obtain ⟨r1, r2, r3, r4, r5⟩ := pG_lp (t := t) (o1 := 42) (o2 := 47) H (by decide) (by decide) 400 (f s).2 g2
    exact ⟨by omega, r2, by omega, by omega, fun _ => (by first | omega | exact ⟨by omega, by omega⟩), fun i hi => (r5 i (by omega)).trans (g6 i hi)⟩
  · exact ⟨g1, g2, g3, g4, g5, g6⟩
theorem pG_sm0 {f : pQ → pR} (H : pG n f) : pG n (pSm0 t n f) := by
  intro s h
  obtain ⟨g1, g2, g3, g4, g5, g6⟩ := pG_pro (t := t) H s h
  unfold pSm0
  split
  · rename_i c
    have g5 := g5 c
    obtain ⟨r1, r2, r3, r4, r5⟩ := pG_lp (t := t) (o1 := 43) (o2 := 45) (pG_pro (t := t) H) (by decide) (by decide) 400 (pPro t n f s).2 g2
    exact ⟨by omega, r2, by omega, by omega, fun _ => (by first | omega | exact ⟨by omega, by omega⟩), fun i hi => (r5 i (by omega)).trans (g6 i hi)⟩
  · exact ⟨g1, g2, g3, g4, g5, g6⟩
theorem pG_fc : ∀ e : Nat, pG n (pFc t n e)
  | 0 => pG_fac pG_no
  | e + 1 => pG_fac (pG_sm0 (pG_fc e))
theorem pG_sum (e : Nat) : pG n (pSum t n e) := pG_sm0 (pG_fc e)
theorem pG_lw {w : Int} {f : pQ → pR} (H : pG n f) : ∀ (m : Nat) (s : pQ), s.1 ≤ n → s.1 ≤ (pLw t n w f m s).2.1 ∧ (pLw t n w f m s).2.1 ≤ n ∧ s.2.1 ≤ (pLw t n w f m s).2.2.1 ∧ (pLw t n w f m s).2.2.1 + s.1 ≤ s.2.1 + (pLw t n w f m s).2.1 ∧ ∀ i, i < s.2.1 → (pLw t n w f m s).2.2.2 i = s.2.2 i
  | 0, s, h => ⟨Nat.le_refl _, h, Nat.le_refl _, by show s.2.1 + s.1 ≤ s.2.1 + s.1; omega, fun _ _ => rfl⟩
  | m + 1, s, h => by
    have b := pNx_b (t := t) (n := n) (p := s.1) h
    unfold pLw
    split
    · rename_i c
      have hp := pK_lt (t := t) (n := n) (p := s.1) (by omega)
      have g := H (pA t n s) (by show pNx t n s.1 ≤ n; omega)
      have g : pNx t n s.1 ≤ (f (pA t n s)).2.1 ∧ (f (pA t n s)).2.1 ≤ n ∧ s.2.1 ≤ (f (pA t n s)).2.2.1 ∧ (f (pA t n s)).2.2.1 + pNx t n s.1 ≤ s.2.1 + (f (pA t n s)).2.1 ∧ ((f (pA t n s)).1 = true → pNx t n s.1 < (f (pA t n s)).2.1 ∧ s.2.1 < (f (pA t n s)).2.2.1) ∧ ∀ i, i < s.2.1 → (f (pA t n s)).2.2.2 i = s.2.2 i := g
      obtain ⟨g1, g2, g3, g4, g5, g6⟩ := g
      split
      · rename_i c1
        have g5 := g5 c1
        have r := pG_lw (w := w) H m (pW (-w) (f (pA t n s)).2) g2
        obtain ⟨r1, r2, r3, r4, r5⟩ := r
        have r1 : (f (pA t n s)).2.1 ≤ _ := r1
        have r3 : (f (pA t n s)).2.2.1 + 1 ≤ _ := r3
        have r4 : _ + (f (pA t n s)).2.1 ≤ (f (pA t n s)).2.2.1 + 1 + _ := r4
        refine ⟨by omega, r2, by omega, by omega, fun i hi => ?_⟩
        rw [r5 i (by show i < (f (pA t n s)).2.2.1 + 1; omega)]
        show zu _ _ _ i = _
        rw [zu_ne (by omega)]
        exact g6 i hi
      · exact ⟨by omega, g2, by omega, by omega, g6⟩
    · exact ⟨Nat.le_refl _, h, Nat.le_refl _, by show s.2.1 + s.1 ≤ s.2.1 + s.1; omega, fun _ _ => rfl⟩
theorem pG_hol {o : Bool} {hol eit sum : pQ → pR} (H1 : pG n hol) (H2 : pG n eit) (H3 : pG n sum) : pG n (pHol t n o hol eit sum) := by
  intro s h
  have b := pNx_b (t := t) (n := n) (p := s.1) h
  have triv : s.1 ≤ s.1 ∧ s.1 ≤ n ∧ s.2.1 ≤ s.2.1 ∧ s.2.1 + s.1 ≤ s.2.1 + s.1 ∧ (false = true → s.1 < s.1 ∧ s.2.1 < s.2.1) ∧ ∀ i, i < s.2.1 → s.2.2 i = s.2.2 i := ⟨Nat.le_refl _, h, Nat.le_refl _, Nat.le_refl _, fun z => (by cases z), fun _ _ => rfl⟩
  unfold pHol
  split
  · rename_i c
    have hp := pK_lt (t := t) (n := n) (p := s.1) (by omega)
    split
    · have g := H1 (pA t n s) (by show pNx t n s.1 ≤ n; omega)
      have g : pNx t n s.1 ≤ (hol (pA t n s)).2.1 ∧ (hol (pA t n s)).2.1 ≤ n ∧ s.2.1 ≤ (hol (pA t n s)).2.2.1 ∧ (hol (pA t n s)).2.2.1 + pNx t n s.1 ≤ s.2.1 + (hol (pA t n s)).2.1 ∧ ((hol (pA t n s)).1 = true → pNx t n s.1 < (hol (pA t n s)).2.1 ∧ s.2.1 < (hol (pA t n s)).2.2.1) ∧ ∀ i, i < s.2.1 → (hol (pA t n s)).2.2.2 i = s.2.2 i := g
      obtain ⟨g1, g2, g3, g4, g5, g6⟩ := g
      split
      · rename_i c1
        have g5 := g5 c1
        show s.1 ≤ (hol (pA t n s)).2.1 ∧ (hol (pA t n s)).2.1 ≤ n ∧ s.2.1 ≤ (hol (pA t n s)).2.2.1 + 1 ∧ (hol (pA t n s)).2.2.1 + 1 + s.1 ≤ s.2.1 + (hol (pA t n s)).2.1 ∧ (true = true → s.1 < (hol (pA t n s)).2.1 ∧ s.2.1 < (hol (pA t n s)).2.2.1 + 1) ∧ ∀ i, i < s.2.1 → zu _ _ _ i = s.2.2 i
        exact ⟨by omega, g2, by omega, by omega, fun _ => (by first | omega | exact ⟨by omega, by omega⟩), fun i hi => by rw [zu_ne (by omega)]; exact g6 i hi⟩
      · exact ⟨by omega, g2, by omega, by omega, fun z => absurd z ‹_›, g6⟩
    · exact triv
  · split
    · rename_i c
      have hp := pK_lt (t := t) (n := n) (p := s.1) (by omega)
      split
      · have g := H2 (pA t n s) (by show pNx t n s.1 ≤ n; omega)
        have g : pNx t n s.1 ≤ (eit (pA t n s)).2.1 ∧ (eit (pA t n s)).2.1 ≤ n ∧ s.2.1 ≤ (eit (pA t n s)).2.2.1 ∧ (eit (pA t n s)).2.2.1 + pNx t n s.1 ≤ s.2.1 + (eit (pA t n s)).2.1 ∧ ((eit (pA t n s)).1 = true → pNx t n s.1 < (eit (pA t n s)).2.1 ∧ s.2.1 < (eit (pA t n s)).2.2.1) ∧ ∀ i, i < s.2.1 → (eit (pA t n s)).2.2.2 i = s.2.2 i := g
        obtain ⟨g1, g2, g3, g4, g5, g6⟩ := g
        split
        · rename_i c1
          have g5 := g5 c1
          split
          · have b2 := pNx_b (t := t) (n := n) (p := (eit (pA t n s)).2.1) g2
            show s.1 ≤ pNx t n (eit (pA t n s)).2.1 ∧ pNx t n (eit (pA t n s)).2.1 ≤ n ∧ s.2.1 ≤ (eit (pA t n s)).2.2.1 ∧ (eit (pA t n s)).2.2.1 + s.1 ≤ s.2.1 + pNx t n (eit (pA t n s)).2.1 ∧ (true = true → s.1 < pNx t n (eit (pA t n s)).2.1 ∧ s.2.1 < (eit (pA t n s)).2.2.1) ∧ ∀ i, i < s.2.1 → (eit (pA t n s)).2.2.2 i = s.2.2 i
            exact ⟨by omega, by omega, by omega, by omega, fun _ => (by first | omega | exact ⟨by omega, by omega⟩), g6⟩
          · show s.1 ≤ (eit (pA t n s)).2.1 ∧ (eit (pA t n s)).2.1 ≤ n ∧ s.2.1 ≤ (eit (pA t n s)).2.2.1 ∧ (eit (pA t n s)).2.2.1 + s.1 ≤ s.2.1 + (eit (pA t n s)).2.1 ∧ (false = true → _) ∧ _
            exact ⟨by omega, g2, by omega, by omega, fun z => (by cases z), g6⟩
        · exact ⟨by omega, g2, by omega, by omega, fun z => absurd z ‹_›, g6⟩
      · exact triv
    · obtain ⟨g1, g2, g3, g4, g5, g6⟩ := H3 s h
      split
      · rename_i c1
        have g5 := g5 c1
        split
        · rename_i c2
          have b2 := pNx_b (t := t) (n := n) (p := (sum s).2.1) g2
          have hp := pK_lt (t := t) (n := n) (p := (sum s).2.1) (by omega)
          have r := H3 (pA t n (sum s).2) (by show pNx t n (sum s).2.1 ≤ n; omega)
          have r : pNx t n (sum s).2.1 ≤ (sum (pA t n (sum s).2)).2.1 ∧ (sum (pA t n (sum s).2)).2.1 ≤ n ∧ (sum s).2.2.1 ≤ (sum (pA t n (sum s).2)).2.2.1 ∧ (sum (pA t n (sum s).2)).2.2.1 + pNx t n (sum s).2.1 ≤ (sum s).2.2.1 + (sum (pA t n (sum s).2)).2.1 ∧ ((sum (pA t n (sum s).2)).1 = true → pNx t n (sum s).2.1 < (sum (pA t n (sum s).2)).2.1 ∧ (sum s).2.2.1 < (sum (pA t n (sum s).2)).2.2.1) ∧ ∀ i, i < (sum s).2.2.1 → (sum (pA t n (sum s).2)).2.2.2 i = (sum s).2.2.2 i := r
          obtain ⟨r1, r2, r3, r4, r5, r6⟩ := r
          split
          · rename_i c3
            have r5 := r5 c3
            show s.1 ≤ (sum (pA t n (sum s).2)).2.1 ∧ (sum (pA t n (sum s).2)).2.1 ≤ n ∧ s.2.1 ≤ (sum (pA t n (sum s).2)).2.2.1 + 1 ∧ (sum (pA t n (sum s).2)).2.2.1 + 1 + s.1 ≤ s.2.1 + (sum (pA t n (sum s).2)).2.1 ∧ (true = true → s.1 < (sum (pA t n (sum s).2)).2.1 ∧ s.2.1 < (sum (pA t n (sum s).2)).2.2.1 + 1) ∧ ∀ i, i < s.2.1 → zu _ _ _ i = s.2.2 i
            exact ⟨by omega, r2, by omega, by omega, fun _ => (by first | omega | exact ⟨by omega, by omega⟩), fun i hi => by rw [zu_ne (by omega), r6 i (by omega)]; exact g6 i hi⟩
          · exact ⟨by omega, r2, by omega, by omega, fun z => absurd z ‹_›, fun i hi => (r6 i (by omega)).trans (g6 i hi)⟩
        · exact ⟨g1, g2, g3, g4, fun z => (by cases z), g6⟩
      · exact ⟨g1, g2, g3, g4, fun z => absurd z ‹_›, g6⟩
theorem pG_bth {hol : pQ → pR} (H : pG n hol) : pG n (pBth t n hol) := by
  intro s h
  obtain ⟨g1, g2, g3, g4, g5, g6⟩ := H s h
  unfold pBth
  split
  · rename_i c
    have g5 := g5 c
    obtain ⟨r1, r2, r3, r4, r5⟩ := pG_lw (t := t) (w := 19) H 400 (hol s).2 g2
    exact ⟨by omega, r2, by omega, by omega, fun _ => (by first | omega | exact ⟨by omega, by omega⟩), fun i hi => (r5 i (by omega)).trans (g6 i hi)⟩
  · exact ⟨g1, g2, g3, g4, g5, g6⟩
theorem pG_ei0 {hol : pQ → pR} (H : pG n hol) : pG n (pEi0 t n hol) := by
  intro s h
  obtain ⟨g1, g2, g3, g4, g5, g6⟩ := pG_bth (t := t) H s h
  unfold pEi0
  split
  · rename_i c
    have g5 := g5 c
    obtain ⟨r1, r2, r3, r4, r5⟩ := pG_lw (t := t) (w := 18) (pG_bth (t := t) H) 400 (pBth t n hol s).2 g2
    exact ⟨by omega, r2, by omega, by omega, fun _ => (by first | omega | exact ⟨by omega, by omega⟩), fun i hi => (r5 i (by omega)).trans (g6 i hi)⟩
  · exact ⟨g1, g2, g3, g4, g5, g6⟩
theorem pG_ho : ∀ e : Nat, pG n (pHo t n e)
  | 0 => pG_hol pG_no pG_no (pG_sum 0)
  | e + 1 => pG_hol (pG_ho e) (pG_ei0 (pG_ho e)) (pG_sum (e + 1))
theorem pG_ei (e : Nat) : pG n (pEi t n e) := pG_ei0 (pG_ho e)
theorem pG_cb (c : Int) : pG n (pCb t n c) := by
  intro s h
  unfold pCb
  split
  · exact pG_sum 8 s h
  · exact pG_ei 8 s h
end PR
end
section
/-! a step of the codes -/
/-- a step of the model's codes as the class writes it -/
def eEn (op v : Int) : Int := if op = 110 then v else if op = 118 then -1 - v else if op = 33 then -20 else if op = 38 then -19 else if op = 124 then -18 else -op
end
section
/-! an array that stays -/
section
variable {h g : Hp} {ms : Zms} {c s : Int}
theorem zXR.fa {a : Nat} (R : zXR ms c s h g) (e : zun ms a = true) (ha : 0 < a ∧ a ≤ 365) : fld g (a : Int) = fld h (a : Int) := by
  funext j
  refine R.2.1 a j (by omega) (by omega) (fun f hf hz => ?_)
  have e := List.all_eq_true.mp e f hf
  rw [Bool.or_eq_true] at e
  rcases e with e | e
  · have e : f.2.1 < a := Nat.le_of_ble_eq_true e
    omega
  · have e : a < f.1 := Nat.le_of_ble_eq_true e
    omega
end
end
section
/-! the class's reader and the pure reading -/
section RD
variable {h g h1 : Hp} {t : pT} {n p q m k i : Nat} {s u : pQ} {x v o1 o2 w : Int} {ms : Zms} {c z : Int} {f : pQ → pR} {T r : pR}
/-- the bytes are t, n of them -/
def rB (t : pT) (n : Nat) (h : Hp) : Prop := fld h 9 0 = (n : Int) ∧ n ≤ 400 ∧ ∀ i : Nat, i < n → (0 ≤ fld h 10 i ∧ fld h 10 i ≤ 255) ∧ t i = i_byt (fld h 10 i)
theorem rB.fr (B : rB t n h) (R : zXR ms c z h g) (e : (zqN ms 9 9 0 1 && zqN ms 10 10 0 400) = true) : rB t n g := by
  rw [Bool.and_eq_true] at e
  obtain ⟨b1, b2, b3⟩ := B
  have q1 : fld g 9 0 = fld h 9 0 := R.f e.1 (by first | decide | exact ⟨by decide, by decide⟩) (by first | decide | exact ⟨by decide, by decide⟩) (by first | decide | exact ⟨by decide, by decide⟩)
  refine ⟨q1.trans b1, b2, fun i hi => ?_⟩
  have q2 : fld g 10 i = fld h 10 i := R.f e.2 (by first | decide | exact ⟨by decide, by decide⟩) (by first | omega | exact ⟨by omega, by omega⟩) (by first | decide | exact ⟨by decide, by decide⟩)
  rw [q2]
  exact b3 i hi
theorem rB.bl (B : rB t n h) (hi : i < n) : (t i = fld h 10 i ∧ fld h 10 i ≤ 127 ∧ 0 ≤ fld h 10 i) ∨ (t i < 0 ∧ 128 ≤ fld h 10 i ∧ fld h 10 i ≤ 255) := by
  obtain ⟨⟨b1, b2⟩, b3⟩ := B.2.2 i hi
  unfold i_byt at b3
  omega
theorem rB.let (B : rB t n h) (hi : i < n) : pLet (t i) = true ↔ 97 ≤ fld h 10 i ∧ fld h 10 i ≤ 122 := by
  have q := B.bl hi
  rw [pLet_t]
  constructor <;> intro z <;> omega
theorem rB.dig (B : rB t n h) (hi : i < n) : pDig (t i) = true ↔ 48 ≤ fld h 10 i ∧ fld h 10 i ≤ 57 := by
  have q := B.bl hi
  rw [pDig_t]
  constructor <;> intro z <;> omega
theorem rB.bla (B : rB t n h) (hi : i < n) : pBla (t i) = true ↔ fld h 10 i = 32 ∨ fld h 10 i = 10 := by
  have q := B.bl hi
  rw [pBla_t]
  constructor <;> intro z <;> omega
theorem pNu_s (t : pT) : ∀ (f p : Nat) (v : Int), pNu t (f + 1) p v = min (pNu t f p v * 10 + t (p + f) - 48) 10000
  | 0, p, v => rfl
  | f + 1, p, v => by
    show pNu t (f + 1) (p + 1) (min (v * 10 + t p - 48) 10000) = _
    rw [pNu_s t f (p + 1) _, show p + 1 + f = p + (f + 1) by omega]
    rfl
/-- the token at p is the one that is looked at -/
def rTok (t : pT) (n : Nat) (h : Hp) (p : Nat) : Prop := fld h 9 3 = (p : Int) ∧ p ≤ n ∧ fld h 9 2 = ((pEn t n p : Nat) : Int) ∧ fld h 9 4 = pK t n p ∧ (pK t n p = 1 ∨ pK t n p = 2 → fld h 9 5 = pV t n p)
theorem rTok.fr (K : rTok t n h p) (R : zXR ms c z h g) (e : zqN ms 9 9 2 6 = true) : rTok t n g p := by
  obtain ⟨k1, k2, k3, k4, k5⟩ := K
  have q2 : fld g 9 2 = fld h 9 2 := R.f e (by first | decide | exact ⟨by decide, by decide⟩) (by first | decide | exact ⟨by decide, by decide⟩) (by first | decide | exact ⟨by decide, by decide⟩)
  have q3 : fld g 9 3 = fld h 9 3 := R.f e (by first | decide | exact ⟨by decide, by decide⟩) (by first | decide | exact ⟨by decide, by decide⟩) (by first | decide | exact ⟨by decide, by decide⟩)
  have q4 : fld g 9 4 = fld h 9 4 := R.f e (by first | decide | exact ⟨by decide, by decide⟩) (by first | decide | exact ⟨by decide, by decide⟩) (by first | decide | exact ⟨by decide, by decide⟩)
  have q5 : fld g 9 5 = fld h 9 5 := R.f e (by first | decide | exact ⟨by decide, by decide⟩) (by first | decide | exact ⟨by decide, by decide⟩) (by first | decide | exact ⟨by decide, by decide⟩)
  exact ⟨q3.trans k1, k2, q2.trans k3, q4.trans k4, fun z => q5.trans (k5 z)⟩
/-- what the reader holds: a token, so many codes, the codes -/
def rQ (t : pT) (n : Nat) (h : Hp) (s : pQ) : Prop := rTok t n h s.1 ∧ fld h 9 6 = ((s.2.1 : Nat) : Int) ∧ fld h 11 = s.2.2
theorem rQ.kd (Q : rQ t n h s) : fld h 9 4 = pK t n s.1 := Q.1.2.2.2.1
theorem rQ.vl (Q : rQ t n h s) (k : pK t n s.1 = 1 ∨ pK t n s.1 = 2) : fld h 9 5 = pV t n s.1 := Q.1.2.2.2.2 k
theorem rQ.wt (Q : rQ t n h s) (R : zXR ms c z h g) (e : zqN ms 9 9 2 6 = true) (hk : fld g 11 = zu (fld h 11) k x) (e1 : (k : Int) = fld h 9 6) (e2 : fld g 9 6 = fld h 9 6 + 1) : rQ t n g (pW x s) := by
  obtain ⟨q1, q2, q3⟩ := Q
  refine ⟨q1.fr R e, ?_, ?_⟩
  · show fld g 9 6 = ((s.2.1 + 1 : Nat) : Int)
    omega
  · show fld g 11 = zu s.2.2 s.2.1 x
    rw [hk, q3, show k = s.2.1 by omega]
/-- there is room for what is written -/
def rW (n : Nat) (s : pQ) : Prop := s.2.1 ≤ s.1 ∧ s.1 ≤ n
def rV (n : Nat) (s : pQ) : Prop := s.2.1 < s.1 ∧ s.1 ≤ n
theorem rV.wk (V : rV n s) : rW n s := ⟨Nat.le_of_lt V.1, V.2⟩
theorem rV.pw (V : rV n s) : rW n (pW x s) := ⟨V.1, V.2⟩
theorem rV.lt (V : rV n s) (B : rB t n h) (Q : rQ t n h s) : fld h 9 6 < 400 := by
  have a := B.2.1
  have b := Q.2.1
  obtain ⟨v1, v2⟩ := V
  omega
theorem rW.lt (W : rW n s) (B : rB t n h) (Q : rQ t n h s) (k : pK t n s.1 ≠ 0) : fld h 9 6 < 400 := by
  have a := B.2.1
  have b := Q.2.1
  have d := pK_lt k
  obtain ⟨v1, v2⟩ := W
  omega
theorem rW.a (W : rW n s) (k : pK t n s.1 ≠ 0) : rV n (pA t n s) := by
  obtain ⟨v1, v2⟩ := W
  have d := pK_lt k
  have b := pNx_b (t := t) v2
  exact ⟨show s.2.1 < pNx t n s.1 by omega, b.2.1⟩
theorem rW.fn (W : rW n s) (H : pG n f) : rW n (f s).2 := by
  obtain ⟨v1, v2⟩ := W
  have b := H s v2
  exact ⟨by omega, b.2.1⟩
theorem rV.fn (V : rV n s) (H : pG n f) : rV n (f s).2 := by
  obtain ⟨v1, v2⟩ := V
  have b := H s v2
  exact ⟨by omega, b.2.1⟩
/-- an answer and what it leaves -/
def rR (t : pT) (n : Nat) (g : Hp) (x : Int) (r : pR) : Prop := rQ t n g r.2 ∧ ((x = 1 ∧ r.1 = true) ∨ (x = 0 ∧ r.1 = false))
theorem rR_t (Q : rQ t n g s) : rR t n g 1 (true, s) := ⟨Q, Or.inl ⟨rfl, rfl⟩⟩
theorem rR_f (Q : rQ t n g s) : rR t n g 0 (false, s) := ⟨Q, Or.inr ⟨rfl, rfl⟩⟩
theorem rR.ze (R : rR t n g x r) (e : x = 0) : rR t n g 0 r := e ▸ R
theorem rR.b1 (R : rR t n g x r) (e : x ≠ 0) : r.1 = true := by
  rcases R.2 with ⟨_, z⟩ | ⟨z, _⟩
  · exact z
  · exact absurd z e
theorem rR.b0 (R : rR t n g x r) (e : x = 0) : ¬ (r.1 = true) := by
  rcases R.2 with ⟨z, _⟩ | ⟨_, z⟩
  · omega
  · rw [z]; exact Bool.false_ne_true
/-! the ways through a part of the grammar -/
variable {o : Bool} {sub hol eit sum : pQ → pR}
theorem pFac_num (h1 : pK t n s.1 = 2) (h2 : pV t n s.1 ≤ 9999) : pFac t n o sub s = (true, pA t n (pW (pV t n s.1) s)) := by
  unfold pFac
  rw [if_pos ⟨h1, h2⟩]
theorem pFac_wd (h1 : pK t n s.1 = 1) (h2 : 0 ≤ pV t n s.1 ∧ pV t n s.1 ≤ 12) : pFac t n o sub s = (true, pA t n (pW (-1 - pV t n s.1) s)) := by
  unfold pFac
  rw [if_neg (by omega), if_pos ⟨h1, h2.1, h2.2⟩]
theorem pFac_par (h0 : o = true) (h1 : pK t n s.1 = 40) (h2 : (sub (pA t n s)).1 = true) (h3 : pK t n (sub (pA t n s)).2.1 = 41) : pFac t n o sub s = (true, pA t n (sub (pA t n s)).2) := by
  unfold pFac
  rw [if_neg (by omega), if_neg (by omega), if_pos ⟨h0, h1⟩, if_pos h2, if_pos h3]
theorem pFac_pn (h0 : o = true) (h1 : pK t n s.1 = 40) (h2 : (sub (pA t n s)).1 = true) (h3 : pK t n (sub (pA t n s)).2.1 ≠ 41) : pFac t n o sub s = (false, (sub (pA t n s)).2) := by
  unfold pFac
  rw [if_neg (by omega), if_neg (by omega), if_pos ⟨h0, h1⟩, if_pos h2, if_neg h3]
theorem pFac_pf (h0 : o = true) (h1 : pK t n s.1 = 40) (h2 : ¬ (sub (pA t n s)).1 = true) : pFac t n o sub s = sub (pA t n s) := by
  unfold pFac
  rw [if_neg (by omega), if_neg (by omega), if_pos ⟨h0, h1⟩, if_neg h2]
theorem pFac_no (h1 : ¬ (pK t n s.1 = 2 ∧ pV t n s.1 ≤ 9999)) (h2 : ¬ (pK t n s.1 = 1 ∧ 0 ≤ pV t n s.1 ∧ pV t n s.1 ≤ 12)) (h3 : ¬ (o = true ∧ pK t n s.1 = 40)) : pFac t n o sub s = (false, s) := by
  unfold pFac
  rw [if_neg h1, if_neg h2, if_neg h3]
theorem pHol_n1 (h1 : pK t n s.1 = 1) (h2 : pV t n s.1 = 20) (h0 : o = true) (h3 : (hol (pA t n s)).1 = true) : pHol t n o hol eit sum s = (true, pW (-20) (hol (pA t n s)).2) := by
  unfold pHol
  rw [if_pos ⟨h1, h2⟩, if_pos h0, if_pos h3]
theorem pHol_n0 (h1 : pK t n s.1 = 1) (h2 : pV t n s.1 = 20) (h0 : o = true) (h3 : ¬ (hol (pA t n s)).1 = true) : pHol t n o hol eit sum s = hol (pA t n s) := by
  unfold pHol
  rw [if_pos ⟨h1, h2⟩, if_pos h0, if_neg h3]
theorem pHol_nd (h1 : pK t n s.1 = 1) (h2 : pV t n s.1 = 20) (h0 : ¬ o = true) : pHol t n o hol eit sum s = (false, s) := by
  unfold pHol
  rw [if_pos ⟨h1, h2⟩, if_neg h0]
theorem pHol_b1 (h1 : pK t n s.1 = 91) (h0 : o = true) (h3 : (eit (pA t n s)).1 = true) (h4 : pK t n (eit (pA t n s)).2.1 = 93) : pHol t n o hol eit sum s = (true, pA t n (eit (pA t n s)).2) := by
  unfold pHol
  rw [if_neg (by omega), if_pos h1, if_pos h0, if_pos h3, if_pos h4]
theorem pHol_bn (h1 : pK t n s.1 = 91) (h0 : o = true) (h3 : (eit (pA t n s)).1 = true) (h4 : pK t n (eit (pA t n s)).2.1 ≠ 93) : pHol t n o hol eit sum s = (false, (eit (pA t n s)).2) := by
  unfold pHol
  rw [if_neg (by omega), if_pos h1, if_pos h0, if_pos h3, if_neg h4]
theorem pHol_b0 (h1 : pK t n s.1 = 91) (h0 : o = true) (h3 : ¬ (eit (pA t n s)).1 = true) : pHol t n o hol eit sum s = eit (pA t n s) := by
  unfold pHol
  rw [if_neg (by omega), if_pos h1, if_pos h0, if_neg h3]
theorem pHol_bd (h1 : pK t n s.1 = 91) (h0 : ¬ o = true) : pHol t n o hol eit sum s = (false, s) := by
  unfold pHol
  rw [if_neg (by omega), if_pos h1, if_neg h0]
theorem pHol_s0 (h1 : ¬ (pK t n s.1 = 1 ∧ pV t n s.1 = 20)) (h2 : pK t n s.1 ≠ 91) (h3 : ¬ (sum s).1 = true) : pHol t n o hol eit sum s = sum s := by
  unfold pHol
  rw [if_neg h1, if_neg h2, if_neg h3]
theorem pHol_sn (h1 : ¬ (pK t n s.1 = 1 ∧ pV t n s.1 = 20)) (h2 : pK t n s.1 ≠ 91) (h3 : (sum s).1 = true) (h4 : ¬ (pK t n (sum s).2.1 = 60 ∨ pK t n (sum s).2.1 = 62 ∨ pK t n (sum s).2.1 = 61)) : pHol t n o hol eit sum s = (false, (sum s).2) := by
  unfold pHol
  rw [if_neg h1, if_neg h2, if_pos h3, if_neg h4]
theorem pHol_s1 (h1 : ¬ (pK t n s.1 = 1 ∧ pV t n s.1 = 20)) (h2 : pK t n s.1 ≠ 91) (h3 : (sum s).1 = true) (h4 : pK t n (sum s).2.1 = 60 ∨ pK t n (sum s).2.1 = 62 ∨ pK t n (sum s).2.1 = 61) (h5 : (sum (pA t n (sum s).2)).1 = true) : pHol t n o hol eit sum s = (true, pW (-(pK t n (sum s).2.1)) (sum (pA t n (sum s).2)).2) := by
  unfold pHol
  rw [if_neg h1, if_neg h2, if_pos h3, if_pos h4, if_pos h5]
theorem pHol_s2 (h1 : ¬ (pK t n s.1 = 1 ∧ pV t n s.1 = 20)) (h2 : pK t n s.1 ≠ 91) (h3 : (sum s).1 = true) (h4 : pK t n (sum s).2.1 = 60 ∨ pK t n (sum s).2.1 = 62 ∨ pK t n (sum s).2.1 = 61) (h5 : ¬ (sum (pA t n (sum s).2)).1 = true) : pHol t n o hol eit sum s = sum (pA t n (sum s).2) := by
  unfold pHol
  rw [if_neg h1, if_neg h2, if_pos h3, if_pos h4, if_neg h5]
/-! loops -/
def rL (t : pT) (n : Nat) (h : Hp) (x : Int) (m : Nat) (F : Nat → pQ → pR) (T : pR) : Prop := ∃ q : pQ, rQ t n h q ∧ rW n q ∧ ((x = 1 ∧ T = F m q) ∨ (x = 0 ∧ T = (false, q)))
theorem pR_f {r : pR} (h : r.1 = false) : r = (false, r.2) := by rw [← h]
theorem rL_0 {F : Nat → pQ → pR} (R : rR t n g x (f s)) (W : rW n (f s).2) : rL t n g x m F (if (f s).1 = true then F m (f s).2 else f s) := by
  refine ⟨(f s).2, R.1, W, ?_⟩
  rcases R.2 with ⟨a, b⟩ | ⟨a, b⟩
  · exact Or.inl ⟨a, if_pos b⟩
  · refine Or.inr ⟨a, ?_⟩
    rw [b, if_neg (by decide)]
    exact pR_f b
theorem rL_t {F : Nat → pQ → pR} (Q : rQ t n g s) (W : rW n s) (e : T = F m s) : rL t n g 1 m F T := ⟨s, Q, W, Or.inl ⟨rfl, e⟩⟩
theorem rL_f {F : Nat → pQ → pR} (Q : rQ t n g s) (W : rW n s) (e : T = (false, s)) : rL t n g 0 m F T := ⟨s, Q, W, Or.inr ⟨rfl, e⟩⟩
theorem rL_x {F : Nat → pQ → pR} (Q : rQ t n h s) (O : (x = 1 ∧ T = F m s) ∨ (x = 0 ∧ T = (false, s))) (e : x = 0 ∨ F m s = (true, s)) : rR t n h x T := by
  rcases O with ⟨a, b⟩ | ⟨a, b⟩
  · rcases e with e | e
    · omega
    · rw [b, e, a]
      exact rR_t Q
  · rw [b, a]
    exact rR_f Q
theorem pLp_z (e : m = 0 ∨ ¬ (pK t n s.1 = o1 ∨ pK t n s.1 = o2)) : pLp t n o1 o2 f m s = (true, s) := by
  cases m with
  | zero => rfl
  | succ m =>
    unfold pLp
    rw [if_neg (by omega)]
theorem pLp_n (e : m = k + 1) (h1 : pK t n s.1 = o1 ∨ pK t n s.1 = o2) (h2 : (f (pA t n s)).1 = true) (hv : v = pK t n s.1) : pLp t n o1 o2 f m s = pLp t n o1 o2 f k (pW (-v) (f (pA t n s)).2) := by
  subst e hv
  show (if _ then _ else _) = _
  rw [if_pos h1, if_pos h2]
theorem pLp_f (e : m = k + 1) (h1 : pK t n s.1 = o1 ∨ pK t n s.1 = o2) (h2 : ¬ (f (pA t n s)).1 = true) : pLp t n o1 o2 f m s = (false, (f (pA t n s)).2) := by
  subst e
  show (if _ then _ else _) = _
  rw [if_pos h1, if_neg h2]
  exact pR_f (by revert h2; cases (f (pA t n s)).1 <;> simp)
theorem pLw_z (e : m = 0 ∨ ¬ (pK t n s.1 = 1 ∧ pV t n s.1 = w)) : pLw t n w f m s = (true, s) := by
  cases m with
  | zero => rfl
  | succ m =>
    unfold pLw
    rw [if_neg (by omega)]
theorem pLw_n (e : m = k + 1) (h1 : pK t n s.1 = 1 ∧ pV t n s.1 = w) (h2 : (f (pA t n s)).1 = true) : pLw t n w f m s = pLw t n w f k (pW (-w) (f (pA t n s)).2) := by
  subst e
  show (if _ then _ else _) = _
  rw [if_pos h1, if_pos h2]
theorem pLw_f (e : m = k + 1) (h1 : pK t n s.1 = 1 ∧ pV t n s.1 = w) (h2 : ¬ (f (pA t n s)).1 = true) : pLw t n w f m s = (false, (f (pA t n s)).2) := by
  subst e
  show (if _ then _ else _) = _
  rw [if_pos h1, if_neg h2]
  exact pR_f (by revert h2; cases (f (pA t n s)).1 <;> simp)
theorem x_one {T : pR} {F : Nat → pQ → pR} (O : (x = 1 ∧ T = F m s) ∨ (x = 0 ∧ T = (false, s))) (e : x ≠ 0) : T = F m s := by
  rcases O with ⟨_, b⟩ | ⟨a, _⟩
  · exact b
  · exact absurd a e
/-- a part of the grammar, by its depth -/
def msxA9 : Zms := [(9, 9, 2, 6)]
def rX (sc : List Int) (D y : Nat) (a : Int) (F : pT → Nat → pQ → pR) : Prop := ∀ h : Hp, CI h → ∀ (t : pT) (n : Nat) (s : pQ), rB t n h → rQ t n h s → rW n s → zwC sc D y [(2, 9), (0, a)] h (zwRt 0 (fun x g => CI g ∧ zXR msxK (0) (0) h g ∧ (0 ≤ x ∧ x ≤ 1) ∧ rR t n g x (F t n s)))
theorem rX.up {sc : List Int} {D D' y : Nat} {a : Int} {F : pT → Nat → pQ → pR} (hD : D ≤ D') (H : rX sc D y a F) : rX sc D' y a F := fun h C t n s B Q W => zwC_up hD (H h C t n s B Q W)
/-! words -/
theorem rWd_len : (zby (-10)).length = 114 := by decide +kernel
/-- how many words end ahead of k, and where the word at k begins -/
def rNo (k : Nat) : Nat := ((zby (-10)).take k).count 32
def rSt (k : Nat) : Nat := ((List.range k).filter (fun j => (zby (-10)).getD j 0 == 32)).foldl (fun _ j => j + 1) 0
def rWs (k : Nat) : List Int := pWs.getD (rNo k) []
theorem rWd_ok : (List.range 114).all (fun k => ((zby (-10)).getD k 0 == 32) == (decide (k = rSt k + (rWs k).length)) && (decide (rSt k ≤ k) && (decide (rNo k < 21) && (decide (rNo (k + 1) = rNo k + (if (zby (-10)).getD k 0 = 32 then 1 else 0)) && (decide (rSt (k + 1) = (if (zby (-10)).getD k 0 = 32 then k + 1 else rSt k)) && (decide (k ≤ rSt k + (rWs k).length) && (List.range (rWs k).length).all (fun j => (zby (-10)).getD (rSt k + j) 0 == (rWs k).getD j 0 && (decide (97 ≤ (rWs k).getD j 0) && (decide ((rWs k).getD j 0 ≤ 122) && decide (rSt k + j < 114)))))))))) = true := by decide +kernel
theorem rWd_end : rNo 114 = 21 ∧ rSt 114 = 114 ∧ rNo 0 = 0 ∧ rSt 0 = 0 ∧ pWs.length = 21 := by decide +kernel
theorem rWd_at (hk : k < 114) : ((zby (-10)).getD k 0 = 32 ↔ k = rSt k + (rWs k).length) ∧ rSt k ≤ k ∧ rNo k < 21 ∧ rNo (k + 1) = rNo k + (if (zby (-10)).getD k 0 = 32 then 1 else 0) ∧ rSt (k + 1) = (if (zby (-10)).getD k 0 = 32 then k + 1 else rSt k) ∧ k ≤ rSt k + (rWs k).length ∧ ∀ j, j < (rWs k).length → (zby (-10)).getD (rSt k + j) 0 = (rWs k).getD j 0 ∧ 97 ≤ (rWs k).getD j 0 ∧ (rWs k).getD j 0 ≤ 122 ∧ rSt k + j < 114 := by
  have q := List.all_eq_true.mp rWd_ok k (List.mem_range.mpr hk)
  simp only [Bool.and_eq_true, decide_eq_true_eq] at q
  obtain ⟨q1, q2, q3, q4, q5, q6, q7⟩ := q
  refine ⟨?_, q2, q3, q4, q5, q6, fun j hj => ?_⟩
  · have q1 := eq_of_beq q1
    constructor
    · intro z
      rw [beq_iff_eq.mpr z] at q1
      exact of_decide_eq_true q1.symm
    · intro z
      rw [decide_eq_true z] at q1
      exact beq_iff_eq.mp q1
  · have w := List.all_eq_true.mp q7 j (List.mem_range.mpr hj)
    simp only [Bool.and_eq_true, decide_eq_true_eq, beq_iff_eq] at w
    exact w
/-- a word stands there -/
def rSp (h : Hp) (n : Nat) (a b c : Int) : Prop := ∀ j : Nat, (j : Int) < c → a + j < 114 ∧ b + j < n ∧ (zby (-10)).getD (a + j).toNat 0 = fld h 10 (b + j).toNat
theorem pEq_iff (t : pT) : ∀ (w : List Int) (p : Nat), pEq t p w = true ↔ ∀ j, j < w.length → t (p + j) = w.getD j 0
  | [], p => ⟨fun _ j hj => absurd hj (Nat.not_lt_zero _), fun _ => rfl⟩
  | a :: r, p => by
    show (decide (t p = a) && pEq t (p + 1) r) = true ↔ _
    rw [Bool.and_eq_true, decide_eq_true_eq, pEq_iff t r (p + 1)]
    constructor
    · rintro ⟨h1, h2⟩ j hj
      cases j with
      | zero => exact h1
      | succ j =>
        have := h2 j (by simpa using hj)
        rw [show p + (j + 1) = p + 1 + j by omega]
        exact this
    · intro H
      refine ⟨H 0 (by simp), fun j hj => ?_⟩
      have := H (j + 1) (by simpa using hj)
      rw [show p + 1 + j = p + (j + 1) by omega]
      exact this
theorem rSp_eq (B : rB t n h) {l : Int} (hk : k < 114) (hl : ((rWs k).length : Int) = l) (hp : (p : Int) + l ≤ n) : rSp h n (rSt k : Nat) (p : Nat) l ↔ pEq t p (rWs k) = true := by
  obtain ⟨-, -, -, -, -, -, w⟩ := rWd_at hk
  rw [pEq_iff]
  constructor
  · intro H j hj
    obtain ⟨a1, a2, a3⟩ := H j (by omega)
    obtain ⟨b1, b2, b3, b4⟩ := w j hj
    rw [show ((rSt k : Nat) : Int) + (j : Int) = ((rSt k + j : Nat) : Int) by omega, show ((p : Nat) : Int) + (j : Int) = ((p + j : Nat) : Int) by omega, Int.toNat_natCast, Int.toNat_natCast, b1] at a3
    have q := B.bl (i := p + j) (by omega)
    omega
  · intro H j hj
    obtain ⟨b1, b2, b3, b4⟩ := w j (by omega)
    have e := H j (by omega)
    have q := B.bl (i := p + j) (by omega)
    refine ⟨by omega, by omega, ?_⟩
    rw [show ((rSt k : Nat) : Int) + (j : Int) = ((rSt k + j : Nat) : Int) by omega, show ((p : Nat) : Int) + (j : Int) = ((p + j : Nat) : Int) by omega, Int.toNat_natCast, Int.toNat_natCast, b1]
    omega
theorem pFd_drop (t : pT) (p l : Nat) (h : k < pWs.length) : pFd t p l (pWs.drop k) k = if (pWs.getD k []).length = l ∧ pEq t p (pWs.getD k []) = true then (k : Int) else pFd t p l (pWs.drop (k + 1)) (k + 1) := by
  rw [List.drop_eq_getElem_cons h]
  show (if _ then _ else _) = _
  rw [List.getD_eq_getElem?_getD, List.getElem?_eq_getElem h]
  rfl
/-! signs -/
theorem rSg_ok : zby (-11) = [43, 45, 42, 47, 40, 41, 91, 93, 60, 62, 61, 59] := by decide +kernel
theorem rSg (c : Int) : pSig c = true ↔ ∃ i : Nat, i < (zby (-11)).length ∧ (zby (-11)).getD i 0 = c := by
  rw [pSig_t, rSg_ok]
  constructor
  · intro z
    rcases z with z | z | z | z | z | z | z | z | z | z | z | z
    · exact ⟨0, by decide, z.symm⟩
    · exact ⟨1, by decide, z.symm⟩
    · exact ⟨2, by decide, z.symm⟩
    · exact ⟨3, by decide, z.symm⟩
    · exact ⟨4, by decide, z.symm⟩
    · exact ⟨5, by decide, z.symm⟩
    · exact ⟨6, by decide, z.symm⟩
    · exact ⟨7, by decide, z.symm⟩
    · exact ⟨8, by decide, z.symm⟩
    · exact ⟨9, by decide, z.symm⟩
    · exact ⟨10, by decide, z.symm⟩
    · exact ⟨11, by decide, z.symm⟩
  · rintro ⟨i, hi, e⟩
    have hi : i < 12 := hi
    have q : i = 0 ∨ i = 1 ∨ i = 2 ∨ i = 3 ∨ i = 4 ∨ i = 5 ∨ i = 6 ∨ i = 7 ∨ i = 8 ∨ i = 9 ∨ i = 10 ∨ i = 11 := by omega
    rcases q with rfl | rfl | rfl | rfl | rfl | rfl | rfl | rfl | rfl | rfl | rfl | rfl
    · exact Or.inl e.symm
    · exact Or.inr (Or.inl e.symm)
    · exact Or.inr (Or.inr (Or.inl e.symm))
    · exact Or.inr (Or.inr (Or.inr (Or.inl e.symm)))
    · exact Or.inr (Or.inr (Or.inr (Or.inr (Or.inl e.symm))))
    · exact Or.inr (Or.inr (Or.inr (Or.inr (Or.inr (Or.inl e.symm)))))
    · exact Or.inr (Or.inr (Or.inr (Or.inr (Or.inr (Or.inr (Or.inl e.symm))))))
    · exact Or.inr (Or.inr (Or.inr (Or.inr (Or.inr (Or.inr (Or.inr (Or.inl e.symm)))))))
    · exact Or.inr (Or.inr (Or.inr (Or.inr (Or.inr (Or.inr (Or.inr (Or.inr (Or.inl e.symm))))))))
    · exact Or.inr (Or.inr (Or.inr (Or.inr (Or.inr (Or.inr (Or.inr (Or.inr (Or.inr (Or.inl e.symm)))))))))
    · exact Or.inr (Or.inr (Or.inr (Or.inr (Or.inr (Or.inr (Or.inr (Or.inr (Or.inr (Or.inr (Or.inl e.symm))))))))))
    · exact Or.inr (Or.inr (Or.inr (Or.inr (Or.inr (Or.inr (Or.inr (Or.inr (Or.inr (Or.inr (Or.inr e.symm))))))))))
end RD
section RD2
variable {h : Hp} {t : pT} {n p l k : Nat}
theorem rFd (t : pT) (p l : Nat) (hk : k < 114) : pFd t p l (pWs.drop (rNo k)) (rNo k) = if (rWs k).length = l ∧ pEq t p (rWs k) = true then ((rNo k : Nat) : Int) else pFd t p l (pWs.drop (rNo k + 1)) (rNo k + 1) :=
  pFd_drop t p l (by have := (rWd_at hk).2.2.1; have q : pWs.length = 21 := rfl; omega)
theorem rTok_e (h1 : fld h 9 3 = (p : Int)) (h2 : p = n) (h3 : fld h 9 2 = (p : Int)) (h4 : fld h 9 4 = 0) : rTok t n h p := by
  have e : pK t n p = 0 := pK_0.mpr (by omega)
  refine ⟨h1, by omega, ?_, h4.trans e.symm, fun z => by omega⟩
  unfold pEn
  rw [if_neg (by omega)]
  exact h3
theorem rTok_w (h1 : fld h 9 3 = (p : Int)) (h2 : p < n) (hl : pLet (t p) = true) (h3 : fld h 9 2 = ((pRun pLet t n p : Nat) : Int)) (h4 : fld h 9 4 = 1) (h5 : fld h 9 5 = pFd t p (pRun pLet t n p - p) pWs 0) : rTok t n h p := by
  have e : pEn t n p = pRun pLet t n p := by unfold pEn; rw [if_pos h2, if_pos hl]
  refine ⟨h1, by omega, by rw [e]; exact h3, ?_, fun _ => ?_⟩
  · unfold pK
    rw [if_pos h2, if_pos hl]
    exact h4
  · unfold pV pWd
    rw [if_pos hl, e]
    exact h5
theorem rTok_d (h1 : fld h 9 3 = (p : Int)) (h2 : p < n) (hl : ¬ pLet (t p) = true) (hd : pDig (t p) = true) (h3 : fld h 9 2 = ((pRun pDig t n p : Nat) : Int)) (h4 : fld h 9 4 = 2) (h5 : fld h 9 5 = pNu t (pRun pDig t n p - p) p 0) : rTok t n h p := by
  have e : pEn t n p = pRun pDig t n p := by unfold pEn; rw [if_pos h2, if_neg hl, if_pos hd]
  refine ⟨h1, by omega, by rw [e]; exact h3, ?_, fun _ => ?_⟩
  · unfold pK
    rw [if_pos h2, if_neg hl, if_pos hd]
    exact h4
  · unfold pV pVl
    rw [if_neg hl, e]
    exact h5
theorem rTok_s (h1 : fld h 9 3 = (p : Int)) (h2 : p < n) (hl : ¬ pLet (t p) = true) (hd : ¬ pDig (t p) = true) (h3 : fld h 9 2 = (p : Int) + 1) (h4 : fld h 9 4 = (if pSig (t p) = true then t p else 3)) : rTok t n h p := by
  have e : pEn t n p = p + 1 := by unfold pEn; rw [if_pos h2, if_neg hl, if_neg hd]
  have k : pK t n p = (if pSig (t p) = true then t p else 3) := by unfold pK; rw [if_pos h2, if_neg hl, if_neg hd]
  refine ⟨h1, by omega, by rw [e]; omega, h4.trans k.symm, fun z => ?_⟩
  exfalso
  rw [k] at z
  by_cases q : pSig (t p) = true
  · rw [if_pos q] at z
    have := pSig_t.mp q
    omega
  · rw [if_neg q] at z
    omega
end RD2
end
section
/-! contracts of methods -/
-- java/lang/StringLatin1.indexOfChar([BIII)I
theorem m290_p {sc : List Int} (h : Hp) (w a b c : Int) (q_a : -2147483648 ≤ a ∧ a ≤ 2147483647) (hw : -33 < w ∧ w ≤ -10) (p1 : 0 ≤ b ∧ b ≤ 200) (p2 : c ≤ (zby w).length ∧ -1 ≤ c ∧ c ≤ 200) : zwC sc 1 290 [(2, (w - 90)), (0, a), (0, b), (0, c)] h (zwRt 0 (fun x g => h = g ∧ (-2147483648 ≤ x ∧ x ≤ 2147483647) ∧ (-1 ≤ x ∧ x ≤ 200) ∧ ((x = -1 ∧ ∀ j : Nat, b ≤ (j : Int) → (j : Int) < c → (zby w).getD j 0 ≠ i_byt a) ∨ (0 ≤ x ∧ x < c ∧ (zby w).getD x.toNat 0 = i_byt a)))) := by
  refine zwC_of (D := 0) 6 (by decide +kernel) rfl (ls := [(2, (w - 90)), (0, a), (0, b), (0, c), (9, 0), (9, 0)]) rfl ?_
  refine zwW_p [(1, 1, 0)] (q := 1) (ls' := [(2, (w - 90)), (0, a), (0, b), (0, c), (9, 0), (9, 0)]) (st' := [(0, a)]) (by decide +kernel) rfl ?_
  refine zwW_i2b (nx := 2) (by decide +kernel) ?_
  refine zwW_p [(2, 4, 0), (1, 2, 0), (2, 5, 0)] (q := 7) (ls' := [(2, (w - 90)), (0, a), (0, b), (0, c), (0, (i_byt a)), (0, b)]) (st' := []) (by decide +kernel) rfl ?_
  have L1 : ∀ (n0 : Nat) (iL1 : Int), n0 = ((1000 - iL1)).toNat → (0 ≤ iL1 ∧ iL1 ≤ 200) → (∀ j : Nat, b ≤ (j : Int) → (j : Int) < iL1 → (zby w).getD j 0 ≠ i_byt a) → zwW sc (0) 290 7 [(2, (w - 90)), (0, a), (0, b), (0, c), (0, (i_byt a)), (0, iL1)] [] h (zwRt 0 (fun x g => h = g ∧ (-2147483648 ≤ x ∧ x ≤ 2147483647) ∧ (-1 ≤ x ∧ x ≤ 200) ∧ ((x = -1 ∧ ∀ j : Nat, b ≤ (j : Int) → (j : Int) < c → (zby w).getD j 0 ≠ i_byt a) ∨ (0 ≤ x ∧ x < c ∧ (zby w).getD x.toNat 0 = i_byt a)))) := by
    intro n0
    induction n0 using Nat.strongRecOn with
    | ind n0 IHL1 =>
      intro iL1 hnL1 iL1_0 iL1_1
      refine zwW_p [(1, 5, 0), (1, 3, 0)] (q := 10) (ls' := [(2, (w - 90)), (0, a), (0, b), (0, c), (0, (i_byt a)), (0, iL1)]) (st' := [(0, c), (0, iL1)]) (by decide +kernel) rfl ?_
      refine zwic_ge (q := 31) (nx := 13) (by decide +kernel) (fun c2 => ?_) (fun c2 => ?_)
      · refine zwW_p [(0, -1, 0)] (q := 32) (ls' := [(2, (w - 90)), (0, a), (0, b), (0, c), (0, (i_byt a)), (0, iL1)]) (st' := [(0, -1)]) (by decide +kernel) rfl ?_
        refine zwW_ret (nx := 33) (a := 0) (b := 0) (by decide +kernel) rfl (Or.inl rfl) ?_
        exact ⟨rfl, by omega, by omega, by first | exact Or.inr ⟨by omega, by omega, by omega⟩ | exact Or.inl ⟨rfl, fun j j1 j2 => iL1_1 j j1 (by omega)⟩⟩
      · refine zwW_p [(1, 0, 2), (1, 5, 0)] (q := 16) (ls' := [(2, (w - 90)), (0, a), (0, b), (0, c), (0, (i_byt a)), (0, iL1)]) (st' := [(0, iL1), (2, (w - 90))]) (by decide +kernel) rfl ?_
        refine zwW_tld (w := w) (nx := 17) (by decide +kernel) rfl (by first | omega | exact ⟨by omega, by omega⟩) (by first | omega | exact ⟨by omega, by omega⟩) ?_
        have B16 := zby_at (w := w) (by first | omega | exact ⟨by omega, by omega⟩) (i := iL1.toNat) (by omega)
        refine zwW_p [(1, 4, 0)] (q := 19) (ls' := [(2, (w - 90)), (0, a), (0, b), (0, c), (0, (i_byt a)), (0, iL1)]) (st' := [(0, (i_byt a)), (0, ((zby w).getD iL1.toNat 0))]) (by decide +kernel) rfl ?_
        refine zwic_ne (q := 25) (nx := 22) (by decide +kernel) (fun c3 => ?_) (fun c3 => ?_)
        · refine zwW_inc (i := 5) (c := 1) (x := iL1) (nx := 28) (by decide +kernel) rfl (by first | omega | exact ⟨by omega, by omega⟩) (ls' := [(2, (w - 90)), (0, a), (0, b), (0, c), (0, (i_byt a)), (0, (iL1 + 1))]) rfl ?_
          refine zwW_p [(24, 7, 0)] (q := 7) (ls' := [(2, (w - 90)), (0, a), (0, b), (0, c), (0, (i_byt a)), (0, (iL1 + 1))]) (st' := []) (by decide +kernel) rfl ?_
          exact IHL1 ((1000 - (iL1 + 1))).toNat (by omega) (iL1 + 1) rfl (by omega) (fun j j1 j2 => by by_cases z : (j : Int) < iL1; exact iL1_1 j j1 z; (rw [show j = (iL1).toNat by omega]; omega))
        · refine zwW_p [(1, 5, 0)] (q := 24) (ls' := [(2, (w - 90)), (0, a), (0, b), (0, c), (0, (i_byt a)), (0, iL1)]) (st' := [(0, iL1)]) (by decide +kernel) rfl ?_
          refine zwW_ret (nx := 25) (a := 0) (b := 0) (by decide +kernel) rfl (Or.inl rfl) ?_
          exact ⟨rfl, by omega, by omega, by first | exact Or.inr ⟨by omega, by omega, by omega⟩ | exact Or.inl ⟨rfl, fun j j1 j2 => iL1_1 j j1 (by omega)⟩⟩
  exact L1 _ b rfl (by omega) (fun j j1 j2 => by omega)
-- java/lang/StringLatin1.indexOf([BIII)I
theorem m278_p {sc : List Int} (h : Hp) (w a b c : Int) (q_a : -2147483648 ≤ a ∧ a ≤ 2147483647) (hw : -33 < w ∧ w ≤ -10) (p1 : 0 ≤ b ∧ b ≤ 200) (p2 : c = (zby w).length ∧ c ≤ 200) (p3 : b = 0) (p4 : 0 ≤ a ∧ a ≤ 255) : zwC sc 2 278 [(2, (w - 90)), (0, a), (0, b), (0, c)] h (zwRt 0 (fun x g => h = g ∧ (-2147483648 ≤ x ∧ x ≤ 2147483647) ∧ (-1 ≤ x ∧ x ≤ 200) ∧ ((x = -1 ∧ ∀ j : Nat, (j : Int) < ((zby w).length : Int) → (zby w).getD j 0 ≠ i_byt a) ∨ (0 ≤ x ∧ x < ((zby w).length : Int) ∧ (zby w).getD x.toNat 0 = i_byt a)))) := by
  refine zwC_of (D := 1) 4 (by decide +kernel) rfl (ls := [(2, (w - 90)), (0, a), (0, b), (0, c)]) rfl ?_
  refine zwW_p [(1, 1, 0)] (q := 1) (ls' := [(2, (w - 90)), (0, a), (0, b), (0, c)]) (st' := [(0, a)]) (by decide +kernel) rfl ?_
  refine zwW_cs (k' := 289) (n := 1) (nx := 4) (as := [(0, a)]) (st' := []) (by decide +kernel) rfl (m289 h a (by omega)) rfl ?_
  rintro x _ ⟨rfl, ⟨rfl, c1⟩ | ⟨rfl, c1⟩⟩
  · refine zwif_ne (q := 9) (nx := 7) (by decide +kernel) (fun c2 => ?_) (fun c2 => ?_)
    · refine zwW_p [(1, 2, 0), (0, 0, 0)] (q := 11) (ls' := [(2, (w - 90)), (0, a), (0, b), (0, c)]) (st' := [(0, 0), (0, b)]) (by decide +kernel) rfl ?_
      refine zwW_max (nx := 14) (by decide +kernel) rfl ?_
      intro v3 ev3
      refine zwW_p [(2, 2, 0), (1, 3, 0), (1, 0, 2)] (q := 17) (ls' := [(2, (w - 90)), (0, a), (0, v3), (0, c)]) (st' := [(2, (w - 90)), (0, c)]) (by decide +kernel) rfl ?_
      refine zwW_tlen (w := w) (nx := 18) (by decide +kernel) rfl (by first | omega | exact ⟨by omega, by omega⟩) ?_
      have B17 := zby_le (w := w) (by first | omega | exact ⟨by omega, by omega⟩)
      refine zwW_min (nx := 21) (by decide +kernel) rfl ?_
      intro v4 ev4
      refine zwW_p [(2, 3, 0), (1, 2, 0), (1, 3, 0)] (q := 24) (ls' := [(2, (w - 90)), (0, a), (0, v3), (0, v4)]) (st' := [(0, v4), (0, v3)]) (by decide +kernel) rfl ?_
      refine zwic_lt (q := 29) (nx := 27) (by decide +kernel) (fun c5 => ?_) (fun c5 => ?_)
      · refine zwW_p [(1, 0, 2), (1, 1, 0), (1, 2, 0), (1, 3, 0)] (q := 33) (ls' := [(2, (w - 90)), (0, a), (0, v3), (0, v4)]) (st' := [(0, v4), (0, v3), (0, a), (2, (w - 90))]) (by decide +kernel) rfl ?_
        refine zwW_cs (k' := 290) (n := 4) (nx := 36) (as := [(2, (w - 90)), (0, a), (0, v3), (0, v4)]) (st' := []) (by decide +kernel) rfl (m290_p h w a v3 v4 (by omega) (by omega) (by omega) (by omega)) rfl ?_
        rintro v6 _ ⟨rfl, f7, f8, f9⟩
        refine zwW_ret (nx := 37) (a := 0) (b := 0) (by decide +kernel) rfl (Or.inl rfl) ?_
        exact ⟨rfl, by omega, by omega, by first | omega | exact Or.inl ⟨by omega, fun j hj => by omega⟩ | (rcases f9 with ⟨f1, f2⟩ | ⟨f1, f2, f3⟩ <;> first | exact Or.inl ⟨by omega, fun j hj => f2 j (by omega) (by omega)⟩ | exact Or.inr ⟨by omega, by omega, f3⟩)⟩
      · refine zwW_p [(0, -1, 0)] (q := 28) (ls' := [(2, (w - 90)), (0, a), (0, v3), (0, v4)]) (st' := [(0, -1)]) (by decide +kernel) rfl ?_
        refine zwW_ret (nx := 29) (a := 0) (b := 0) (by decide +kernel) rfl (Or.inl rfl) ?_
        exact ⟨rfl, by omega, by omega, by first | omega | exact Or.inl ⟨by omega, fun j hj => by omega⟩ | (rcases {F2} with ⟨f1, f2⟩ | ⟨f1, f2, f3⟩ <;> first | exact Or.inl ⟨by omega, fun j hj => f2 j (by omega) (by omega)⟩ | exact Or.inr ⟨by omega, by omega, f3⟩)⟩
    · exfalso; omega
  · refine zwif_ne (q := 9) (nx := 7) (by decide +kernel) (fun c10 => ?_) (fun c10 => ?_)
    · exfalso; omega
    · refine zwW_p [(0, -1, 0)] (q := 8) (ls' := [(2, (w - 90)), (0, a), (0, b), (0, c)]) (st' := [(0, -1)]) (by decide +kernel) rfl ?_
      refine zwW_ret (nx := 9) (a := 0) (b := 0) (by decide +kernel) rfl (Or.inl rfl) ?_
      exact ⟨rfl, by omega, by omega, by first | omega | exact Or.inl ⟨by omega, fun j hj => by omega⟩ | (rcases {F2} with ⟨f1, f2⟩ | ⟨f1, f2, f3⟩ <;> first | exact Or.inl ⟨by omega, fun j hj => f2 j (by omega) (by omega)⟩ | exact Or.inr ⟨by omega, by omega, f3⟩)⟩
-- java/lang/String.indexOf(II)I
theorem m261_p {sc : List Int} (h : Hp) (w a b : Int) (q_a : -2147483648 ≤ a ∧ a ≤ 2147483647) (hw : -33 < w ∧ w ≤ -10) (p1 : 0 ≤ b ∧ b ≤ 200) (p3 : b = 0) (p4 : 0 ≤ a ∧ a ≤ 255) : zwC sc 3 261 [(2, w), (0, a), (0, b)] h (zwRt 0 (fun x g => h = g ∧ (-2147483648 ≤ x ∧ x ≤ 2147483647) ∧ (-1 ≤ x ∧ x ≤ 200) ∧ ((x = -1 ∧ ∀ j : Nat, (j : Int) < ((zby w).length : Int) → (zby w).getD j 0 ≠ i_byt a) ∨ (0 ≤ x ∧ x < ((zby w).length : Int) ∧ (zby w).getD x.toNat 0 = i_byt a)))) := by
  refine zwC_of (D := 2) 3 (by decide +kernel) rfl (ls := [(2, w), (0, a), (0, b)]) rfl ?_
  refine zwW_p [(1, 0, 2)] (q := 1) (ls' := [(2, w), (0, a), (0, b)]) (st' := [(2, w)]) (by decide +kernel) rfl ?_
  refine zwW_cst (op := 60) (k' := 277) (n := 0) (nx := 4) (w := w) (tl := []) (st' := []) (by decide +kernel) rfl (by decide +kernel) (by first | omega | exact ⟨by omega, by omega⟩) rfl (m277 h w (by omega)) ?_
  rintro x _ ⟨rfl, rfl⟩
  refine zwif_eq (q := 23) (nx := 7) (by decide +kernel) (fun c1 => ?_) (fun c1 => ?_)
  · exfalso; omega
  · refine zwW_p [(1, 0, 2)] (q := 8) (ls' := [(2, w), (0, a), (0, b)]) (st' := [(2, w)]) (by decide +kernel) rfl ?_
    refine zwW_sval (nx := 11) (by decide +kernel) (by first | omega | exact ⟨by omega, by omega⟩) ?_
    refine zwW_p [(1, 1, 0), (1, 2, 0), (1, 0, 2)] (q := 14) (ls' := [(2, w), (0, a), (0, b)]) (st' := [(2, w), (0, b), (0, a), (2, (w - 90))]) (by decide +kernel) rfl ?_
    refine zwW_cst (op := 60) (k' := 265) (n := 0) (nx := 17) (w := w) (tl := []) (st' := [(0, b), (0, a), (2, (w - 90))]) (by decide +kernel) rfl (by decide +kernel) (by first | omega | exact ⟨by omega, by omega⟩) rfl (m265 h w (by omega)) ?_
    rintro v2 _ ⟨rfl, f3, f4, f5⟩
    refine zwW_cs (k' := 278) (n := 4) (nx := 20) (as := [(2, (w - 90)), (0, a), (0, b), (0, v2)]) (st' := []) (by decide +kernel) rfl (m278_p h w a b v2 (by omega) (by omega) (by omega) (by omega) (by omega) (by omega)) rfl ?_
    rintro v6 _ ⟨rfl, f7, f8, f9⟩
    refine zwW_p [(24, 36, 0)] (q := 36) (ls' := [(2, w), (0, a), (0, b)]) (st' := [(0, v6)]) (by decide +kernel) rfl ?_
    refine zwW_ret (nx := 37) (a := 0) (b := 0) (by decide +kernel) rfl (Or.inl rfl) ?_
    exact ⟨rfl, by omega, by omega, by exact f9⟩
-- java/lang/String.indexOf(I)I
theorem m240_p {sc : List Int} (h : Hp) (w a : Int) (q_a : -2147483648 ≤ a ∧ a ≤ 2147483647) (hw : -33 < w ∧ w ≤ -10) (p4 : 0 ≤ a ∧ a ≤ 255) : zwC sc 4 240 [(2, w), (0, a)] h (zwRt 0 (fun x g => h = g ∧ (-2147483648 ≤ x ∧ x ≤ 2147483647) ∧ (-1 ≤ x ∧ x ≤ 200) ∧ ((x = -1 ∧ ∀ j : Nat, (j : Int) < ((zby w).length : Int) → (zby w).getD j 0 ≠ i_byt a) ∨ (0 ≤ x ∧ x < ((zby w).length : Int) ∧ (zby w).getD x.toNat 0 = i_byt a)))) := by
  refine zwC_of (D := 3) 2 (by decide +kernel) rfl (ls := [(2, w), (0, a)]) rfl ?_
  refine zwW_p [(1, 0, 2), (1, 1, 0), (0, 0, 0)] (q := 3) (ls' := [(2, w), (0, a)]) (st' := [(0, 0), (0, a), (2, w)]) (by decide +kernel) rfl ?_
  refine zwW_cst (op := 60) (k' := 261) (n := 2) (nx := 6) (w := w) (tl := [(0, a), (0, 0)]) (st' := []) (by decide +kernel) rfl (by decide +kernel) (by first | omega | exact ⟨by omega, by omega⟩) rfl (m261_p h w a 0 (by omega) (by omega) (by omega) (by omega) (by omega)) ?_
  rintro v1 _ ⟨rfl, f2, f3, f4⟩
  refine zwW_ret (nx := 7) (a := 0) (b := 0) (by decide +kernel) rfl (Or.inl rfl) ?_
  exact ⟨rfl, by omega, by omega, by exact f4⟩
end
