/-! contracts of methods -/
-- WheelLandModel.strengthOf(II)I
theorem m175 {sc : List Int} (h : Hp) (I : zI h) (a b : Int) (p1 : 0 ≤ a) (p2 : a ≤ 19) : zwC sc 2 175 [(2, 37), (0, a), (0, b)] h (zwRt 0 (fun x g => h = g ∧ (-2147483648 ≤ x ∧ x ≤ 2147483647) ∧ (0 ≤ x))) := by
  refine zwC_of (D := 1) 3 (by decide +kernel) rfl (ls := [(2, 37), (0, a), (0, b)]) rfl ?_
  refine zwW_p [(0, 20, 0), (1, 0, 2)] (q := 3) (ls' := [(2, 37), (0, a), (0, b)]) (st' := [(2, 37), (0, 20)]) (by decide +kernel) rfl ?_
  refine zwW_gc I (kd := 13) (bn := 6) (n := 97) (c := 65) (nx := 6) (by decide +kernel) ?_
  refine zwW_p [(1, 0, 2)] (q := 7) (ls' := [(2, 37), (0, a), (0, b)]) (st' := [(2, 37), (2, 65), (0, 20)]) (by decide +kernel) rfl ?_
  refine zwW_gc I (kd := 13) (bn := 20) (n := 97) (c := 79) (nx := 10) (by decide +kernel) ?_
  refine zwW_p [(1, 1, 0)] (q := 11) (ls' := [(2, 37), (0, a), (0, b)]) (st' := [(0, a), (2, 79), (2, 65), (0, 20)]) (by decide +kernel) rfl ?_
  refine zwW_al I (a1 := 79) (a2 := 79) (kd := 20) (n := 20) (t := 0) (lo := 0) (hi := 7) (nx := 12) (by decide +kernel) (by first | decide | exact ⟨by decide, by decide⟩) (by first | omega | exact ⟨by omega, by omega⟩) ?_
  intro v1 ev1 lv1 uv1
  refine zwW_al I (a1 := 65) (a2 := 65) (kd := 20) (n := 8) (t := 0) (lo := 0) (hi := 9) (nx := 13) (by decide +kernel) (by first | decide | exact ⟨by decide, by decide⟩) (by first | omega | exact ⟨by omega, by omega⟩) ?_
  intro v2 ev2 lv2 uv2
  refine zwW_mul (nx := 14) (by decide +kernel) (by first | omega | exact ⟨by omega, by omega⟩) ?_
  refine zwW_p [(0, 3, 0), (1, 2, 0)] (q := 16) (ls' := [(2, 37), (0, a), (0, b)]) (st' := [(0, b), (0, 3), (0, (20 * v2))]) (by decide +kernel) rfl ?_
  refine zwW_mlw (nx := 17) (by decide +kernel) ?_
  intro v3 ev3 lv3 uv3
  refine zwW_adw (nx := 18) (by decide +kernel) ?_
  intro v4 ev4 lv4 uv4
  refine zwW_p [(0, 2, 0), (1, 0, 2)] (q := 20) (ls' := [(2, 37), (0, a), (0, b)]) (st' := [(2, 37), (0, 2), (0, v4)]) (by decide +kernel) rfl ?_
  refine zwW_gc I (kd := 13) (bn := 26) (n := 97) (c := 85) (nx := 23) (by decide +kernel) ?_
  refine zwW_p [(1, 1, 0)] (q := 24) (ls' := [(2, 37), (0, a), (0, b)]) (st' := [(0, a), (2, 85), (0, 2), (0, v4)]) (by decide +kernel) rfl ?_
  refine zwW_al I (a1 := 85) (a2 := 85) (kd := 20) (n := 20) (t := 0) (lo := 0) (hi := 60) (nx := 25) (by decide +kernel) (by first | decide | exact ⟨by decide, by decide⟩) (by first | omega | exact ⟨by omega, by omega⟩) ?_
  intro v5 ev5 lv5 uv5
  refine zwW_mul (nx := 26) (by decide +kernel) (by first | omega | exact ⟨by omega, by omega⟩) ?_
  refine zwW_sbw (nx := 27) (by decide +kernel) ?_
  intro v6 ev6 lv6 uv6
  refine zwW_cs (k' := 129) (n := 1) (nx := 30) (as := [(0, v6)]) (st' := []) (by decide +kernel) rfl (m129 h v6 (by omega)) rfl ?_
  rintro v7 _ ⟨rfl, f8, f9, f10⟩
  refine zwW_ret (nx := 31) (a := 0) (b := 0) (by decide +kernel) rfl (Or.inl rfl) ?_
  exact ⟨rfl, by omega, by omega⟩
def ms220 : Zms := [(177, 177, 0, 8), (178, 178, 0, 20), (179, 179, 0, 20)]
-- WheelLandModel.asIs()V
theorem m220 {sc : List Int} (h : Hp) (I : zI h) : zwC sc 1 220 [(2, 37)] h (zwRv (fun g => zI g ∧ zMR ms220 h g)) := by
  refine zwC_of (D := 0) 2 (by decide +kernel) rfl (ls := [(2, 37), (9, 0)]) rfl ?_
  have R : zMR ms220 h h := zMR.rf _ _
  refine zwW_p [(0, 0, 0), (2, 1, 0)] (q := 2) (ls' := [(2, 37), (0, 0)]) (st' := []) (by decide +kernel) rfl ?_
  have L1 : ∀ (n : Nat) (vL1 : Int) (hL1 : Hp), n = ((100 - vL1)).toNat → (0 ≤ vL1 ∧ vL1 ≤ 8) → zI hL1 → zMR ms220 h hL1 → zwW sc (0) 220 2 [(2, 37), (0, vL1)] [] hL1 (zwRv (fun g => zI g ∧ zMR ms220 h g)) := by
    intro n
    induction n using Nat.strongRecOn with
    | ind n IHL1 =>
      intro vL1 hL1 hnL1 iL1_0 IhL1 RhL1
      refine zwW_p [(1, 1, 0), (1, 0, 2)] (q := 4) (ls' := [(2, 37), (0, vL1)]) (st' := [(2, 37), (0, vL1)]) (by decide +kernel) rfl ?_
      refine zwW_gs IhL1 (kd := 13) (bn := 1) (n := 97) (t := 0) (lo := 0) (hi := 8) (nx := 7) (by decide +kernel) ?_
      intro v2 ev2 lv2 uv2
      refine zwic_ge (q := 28) (nx := 10) (by decide +kernel) (fun c3 => ?_) (fun c3 => ?_)
      · refine zwW_p [(0, 0, 0), (2, 1, 0)] (q := 30) (ls' := [(2, 37), (0, 0)]) (st' := []) (by decide +kernel) rfl ?_
        have L4 : ∀ (n : Nat) (qL4 : Int) (hL4 : Hp), n = ((100 - qL4)).toNat → (0 ≤ qL4 ∧ qL4 ≤ 20) → zI hL4 → zMR ms220 h hL4 → zwW sc (0) 220 30 [(2, 37), (0, qL4)] [] hL4 (zwRv (fun g => zI g ∧ zMR ms220 h g)) := by
          intro n
          induction n using Nat.strongRecOn with
          | ind n IHL4 =>
            intro qL4 hL4 hnL4 iL4_0 IhL4 RhL4
            refine zwW_p [(1, 1, 0), (1, 0, 2)] (q := 32) (ls' := [(2, 37), (0, qL4)]) (st' := [(2, 37), (0, qL4)]) (by decide +kernel) rfl ?_
            refine zwW_gs IhL4 (kd := 13) (bn := 2) (n := 97) (t := 0) (lo := 0) (hi := 20) (nx := 35) (by decide +kernel) ?_
            intro v5 ev5 lv5 uv5
            refine zwic_ge (q := 68) (nx := 38) (by decide +kernel) (fun c6 => ?_) (fun c6 => ?_)
            · refine zwW_retv (nx := 69) (a := 0) (b := 0) (by decide +kernel) ?_
              exact ⟨IhL4, RhL4⟩
            · refine zwW_p [(1, 0, 2)] (q := 39) (ls' := [(2, 37), (0, qL4)]) (st' := [(2, 37)]) (by decide +kernel) rfl ?_
              refine zwW_gc IhL4 (kd := 13) (bn := 67) (n := 97) (c := 178) (nx := 42) (by decide +kernel) ?_
              refine zwW_p [(1, 1, 0), (1, 0, 2)] (q := 44) (ls' := [(2, 37), (0, qL4)]) (st' := [(2, 37), (0, qL4), (2, 178)]) (by decide +kernel) rfl ?_
              refine zwW_gc IhL4 (kd := 13) (bn := 21) (n := 97) (c := 80) (nx := 47) (by decide +kernel) ?_
              refine zwW_p [(1, 1, 0)] (q := 48) (ls' := [(2, 37), (0, qL4)]) (st' := [(0, qL4), (2, 80), (0, qL4), (2, 178)]) (by decide +kernel) rfl ?_
              refine zwW_al IhL4 (a1 := 80) (a2 := 80) (kd := 20) (n := 20) (t := 0) (lo := 0) (hi := 5) (nx := 49) (by decide +kernel) (by first | decide | exact ⟨by decide, by decide⟩) (by first | omega | exact ⟨by omega, by omega⟩) ?_
              intro v7 ev7 lv7 uv7
              refine zwW_as IhL4 (a1 := 178) (a2 := 178) (n := 20) (lo := 0) (hi := 5) (nx := 50) (by decide +kernel) (by first | decide | exact ⟨by decide, by decide⟩) (by first | omega | exact ⟨by omega, by omega⟩) (by first | omega | exact ⟨by omega, by omega⟩) ?_
              intro h8 eh8 Ih8
              have Rh8 : zMR ms220 h h8 := RhL4.w (a1 := 178) (a2 := 178) (j1 := 0) (j2 := 20) (by decide +kernel) (by first | decide | exact ⟨by decide, by decide⟩) (by first | omega | exact ⟨by omega, by omega⟩) eh8
              refine zwW_p [(1, 0, 2)] (q := 51) (ls' := [(2, 37), (0, qL4)]) (st' := [(2, 37)]) (by decide +kernel) rfl ?_
              refine zwW_gc Ih8 (kd := 13) (bn := 68) (n := 97) (c := 179) (nx := 54) (by decide +kernel) ?_
              refine zwW_p [(1, 1, 0), (1, 0, 2)] (q := 56) (ls' := [(2, 37), (0, qL4)]) (st' := [(2, 37), (0, qL4), (2, 179)]) (by decide +kernel) rfl ?_
              refine zwW_gc Ih8 (kd := 13) (bn := 22) (n := 97) (c := 81) (nx := 59) (by decide +kernel) ?_
              refine zwW_p [(1, 1, 0)] (q := 60) (ls' := [(2, 37), (0, qL4)]) (st' := [(0, qL4), (2, 81), (0, qL4), (2, 179)]) (by decide +kernel) rfl ?_
              refine zwW_al Ih8 (a1 := 81) (a2 := 81) (kd := 20) (n := 20) (t := 0) (lo := 0) (hi := 9) (nx := 61) (by decide +kernel) (by first | decide | exact ⟨by decide, by decide⟩) (by first | omega | exact ⟨by omega, by omega⟩) ?_
              intro v9 ev9 lv9 uv9
              refine zwW_as Ih8 (a1 := 179) (a2 := 179) (n := 20) (lo := 0) (hi := 9) (nx := 62) (by decide +kernel) (by first | decide | exact ⟨by decide, by decide⟩) (by first | omega | exact ⟨by omega, by omega⟩) (by first | omega | exact ⟨by omega, by omega⟩) ?_
              intro h10 eh10 Ih10
              have Rh10 : zMR ms220 h h10 := Rh8.w (a1 := 179) (a2 := 179) (j1 := 0) (j2 := 20) (by decide +kernel) (by first | decide | exact ⟨by decide, by decide⟩) (by first | omega | exact ⟨by omega, by omega⟩) eh10
              refine zwW_inc (i := 1) (c := 1) (x := qL4) (nx := 65) (by decide +kernel) rfl (by first | omega | exact ⟨by omega, by omega⟩) (ls' := [(2, 37), (0, (qL4 + 1))]) rfl ?_
              refine zwW_p [(24, 30, 0)] (q := 30) (ls' := [(2, 37), (0, (qL4 + 1))]) (st' := []) (by decide +kernel) rfl ?_
              exact IHL4 ((100 - (qL4 + 1))).toNat (by omega) (qL4 + 1) h10 rfl (by omega) Ih10 Rh10
        exact L4 _ 0 hL1 rfl (by omega) IhL1 RhL1
      · refine zwW_p [(1, 0, 2)] (q := 11) (ls' := [(2, 37), (0, vL1)]) (st' := [(2, 37)]) (by decide +kernel) rfl ?_
        refine zwW_gc IhL1 (kd := 13) (bn := 66) (n := 97) (c := 177) (nx := 14) (by decide +kernel) ?_
        refine zwW_p [(1, 1, 0), (1, 0, 2)] (q := 16) (ls' := [(2, 37), (0, vL1)]) (st' := [(2, 37), (0, vL1), (2, 177)]) (by decide +kernel) rfl ?_
        refine zwW_gc IhL1 (kd := 13) (bn := 7) (n := 97) (c := 66) (nx := 19) (by decide +kernel) ?_
        refine zwW_p [(1, 1, 0)] (q := 20) (ls' := [(2, 37), (0, vL1)]) (st' := [(0, vL1), (2, 66), (0, vL1), (2, 177)]) (by decide +kernel) rfl ?_
        refine zwW_al IhL1 (a1 := 66) (a2 := 66) (kd := 20) (n := 8) (t := 0) (lo := -2147483648) (hi := 2147483647) (nx := 21) (by decide +kernel) (by first | decide | exact ⟨by decide, by decide⟩) (by first | omega | exact ⟨by omega, by omega⟩) ?_
        intro v11 ev11 lv11 uv11
        refine zwW_as IhL1 (a1 := 177) (a2 := 177) (n := 8) (lo := -2147483648) (hi := 2147483647) (nx := 22) (by decide +kernel) (by first | decide | exact ⟨by decide, by decide⟩) (by first | omega | exact ⟨by omega, by omega⟩) (by first | omega | exact ⟨by omega, by omega⟩) ?_
        intro h12 eh12 Ih12
        have Rh12 : zMR ms220 h h12 := RhL1.w (a1 := 177) (a2 := 177) (j1 := 0) (j2 := 8) (by decide +kernel) (by first | decide | exact ⟨by decide, by decide⟩) (by first | omega | exact ⟨by omega, by omega⟩) eh12
        refine zwW_inc (i := 1) (c := 1) (x := vL1) (nx := 25) (by decide +kernel) rfl (by first | omega | exact ⟨by omega, by omega⟩) (ls' := [(2, 37), (0, (vL1 + 1))]) rfl ?_
        refine zwW_p [(24, 2, 0)] (q := 2) (ls' := [(2, 37), (0, (vL1 + 1))]) (st' := []) (by decide +kernel) rfl ?_
        exact IHL1 ((100 - (vL1 + 1))).toNat (by omega) (vL1 + 1) h12 rfl (by omega) Ih12 Rh12
  exact L1 _ 0 h rfl (by omega) I R
def ms221 : Zms := [(176, 176, 0, 20), (177, 177, 0, 8)]
-- WheelLandModel.spins()I
theorem m221 {sc : List Int} (h : Hp) (I : zI h) (hA : zAM h) : zwC sc 2 221 [(2, 37)] h (zwRt 0 (fun x g => zI g ∧ zMR ms221 h g ∧ (-2147483648 ≤ x ∧ x ≤ 2147483647) ∧ (zNZ (fld g 176) (fld h 37 2).toNat ≤ 300 - fld h 37 64))) := by
  refine zwC_of (D := 1) 7 (by decide +kernel) rfl (ls := [(2, 37), (9, 0), (9, 0), (9, 0), (9, 0), (9, 0), (9, 0)]) rfl ?_
  have R : zMR ms221 h h := zMR.rf _ _
  have B0 := I.b (a1 := 37) (a2 := 37) (j1 := 2) (j2 := 3) (lo := 0) (hi := 20) (by decide +kernel) (r := 37) (j := 2) (by decide) (by decide) (by decide) (by decide)
  refine zwW_p [(0, 0, 0), (2, 1, 0), (1, 0, 2)] (q := 3) (ls' := [(2, 37), (0, 0), (9, 0), (9, 0), (9, 0), (9, 0), (9, 0)]) (st' := [(2, 37)]) (by decide +kernel) rfl ?_
  refine zwW_gs I (kd := 13) (bn := 64) (n := 97) (t := 0) (lo := 0) (hi := 300) (nx := 6) (by decide +kernel) ?_
  intro v1 ev1 lv1 uv1
  refine zwW_p [(2, 2, 0), (0, 0, 0), (2, 3, 0)] (q := 9) (ls' := [(2, 37), (0, 0), (0, v1), (0, 0), (9, 0), (9, 0), (9, 0)]) (st' := []) (by decide +kernel) rfl ?_
  have L2 : ∀ (n : Nat) (nL2 mL2 qL2 : Int) (w4L2 w5L2 w6L2 : Vl) (hL2 : Hp), n = ((100 - qL2)).toNat → (0 ≤ qL2 ∧ qL2 ≤ fld h 37 2) → (-2147483648 ≤ nL2 ∧ nL2 ≤ 2147483647) → (0 ≤ mL2 ∧ mL2 ≤ 300) → (mL2 = fld h 37 64 + zNZ (fld hL2 176) (qL2).toNat) → zI hL2 → zMR ms221 h hL2 → zwW sc (1) 221 9 [(2, 37), (0, nL2), (0, mL2), (0, qL2), w4L2, w5L2, w6L2] [] hL2 (zwRt 0 (fun x g => zI g ∧ zMR ms221 h g ∧ (-2147483648 ≤ x ∧ x ≤ 2147483647) ∧ (zNZ (fld g 176) (fld h 37 2).toNat ≤ 300 - fld h 37 64))) := by
    intro n
    induction n using Nat.strongRecOn with
    | ind n IHL2 =>
      intro nL2 mL2 qL2 w4L2 w5L2 w6L2 hL2 hnL2 iL2_0 iL2_1 iL2_2 iL2_3 IhL2 RhL2
      refine zwW_p [(1, 3, 0), (1, 0, 2)] (q := 11) (ls' := [(2, 37), (0, nL2), (0, mL2), (0, qL2), w4L2, w5L2, w6L2]) (st' := [(2, 37), (0, qL2)]) (by decide +kernel) rfl ?_
      refine zwW_gs IhL2 (kd := 13) (bn := 2) (n := 97) (t := 0) (lo := 0) (hi := 20) (nx := 14) (by decide +kernel) ?_
      intro v3 ev3 lv3 uv3
      refine zwic_ge (q := 195) (nx := 17) (by decide +kernel) (fun c4 => ?_) (fun c4 => ?_)
      · refine zwW_p [(1, 1, 0)] (q := 196) (ls' := [(2, 37), (0, nL2), (0, mL2), (0, qL2), w4L2, w5L2, w6L2]) (st' := [(0, nL2)]) (by decide +kernel) rfl ?_
        refine zwW_ret (nx := 197) (a := 0) (b := 0) (by decide +kernel) rfl (Or.inl rfl) ?_
        have H195 := RhL2.f (a1 := 37) (a2 := 37) (j1 := 2) (j2 := 3) (by decide +kernel) (r := 37) (j := 2) (by first | decide | exact ⟨by decide, by decide⟩) (by first | decide | exact ⟨by decide, by decide⟩)
        refine ⟨IhL2, RhL2, by omega, ?_⟩
        have Z195 := iL2_3
        rw [show qL2.toNat = (fld h 37 2).toNat by omega] at Z195
        omega
      · have H17 := RhL2.f (a1 := 37) (a2 := 37) (j1 := 2) (j2 := 3) (by decide +kernel) (r := 37) (j := 2) (by first | decide | exact ⟨by decide, by decide⟩) (by first | decide | exact ⟨by decide, by decide⟩)
        have A17 := hA (qL2).toNat (by omega)
        refine zwW_p [(1, 0, 2)] (q := 18) (ls' := [(2, 37), (0, nL2), (0, mL2), (0, qL2), w4L2, w5L2, w6L2]) (st' := [(2, 37)]) (by decide +kernel) rfl ?_
        refine zwW_gc IhL2 (kd := 13) (bn := 20) (n := 97) (c := 79) (nx := 21) (by decide +kernel) ?_
        refine zwW_p [(1, 3, 0)] (q := 22) (ls' := [(2, 37), (0, nL2), (0, mL2), (0, qL2), w4L2, w5L2, w6L2]) (st' := [(0, qL2), (2, 79)]) (by decide +kernel) rfl ?_
        refine zwW_al IhL2 (a1 := 79) (a2 := 79) (kd := 20) (n := 20) (t := 0) (lo := 0) (hi := 7) (nx := 23) (by decide +kernel) (by first | decide | exact ⟨by decide, by decide⟩) (by first | omega | exact ⟨by omega, by omega⟩) ?_
        intro v5 ev5 lv5 uv5
        refine zwW_p [(2, 4, 0), (1, 0, 2)] (q := 26) (ls' := [(2, 37), (0, nL2), (0, mL2), (0, qL2), (0, v5), w5L2, w6L2]) (st' := [(2, 37)]) (by decide +kernel) rfl ?_
        refine zwW_gc IhL2 (kd := 13) (bn := 67) (n := 97) (c := 178) (nx := 29) (by decide +kernel) ?_
        refine zwW_p [(1, 3, 0)] (q := 30) (ls' := [(2, 37), (0, nL2), (0, mL2), (0, qL2), (0, v5), w5L2, w6L2]) (st' := [(0, qL2), (2, 178)]) (by decide +kernel) rfl ?_
        refine zwW_al IhL2 (a1 := 178) (a2 := 178) (kd := 20) (n := 20) (t := 0) (lo := 0) (hi := 5) (nx := 31) (by decide +kernel) (by first | decide | exact ⟨by decide, by decide⟩) (by first | omega | exact ⟨by omega, by omega⟩) ?_
        intro v6 ev6 lv6 uv6
        refine zwW_p [(7, 0, 0), (1, 0, 2)] (q := 33) (ls' := [(2, 37), (0, nL2), (0, mL2), (0, qL2), (0, v5), w5L2, w6L2]) (st' := [(2, 37), (1, v6)]) (by decide +kernel) rfl ?_
        refine zwW_gc IhL2 (kd := 13) (bn := 3) (n := 97) (c := 38) (nx := 36) (by decide +kernel) ?_
        refine zwW_p [(1, 4, 0)] (q := 38) (ls' := [(2, 37), (0, nL2), (0, mL2), (0, qL2), (0, v5), w5L2, w6L2]) (st' := [(0, v5), (2, 38), (1, v6)]) (by decide +kernel) rfl ?_
        refine zwW_ro IhL2 (a := 38) (n := 8) (kd := 26) (base := 39) (step := 1) (nx := 39) (by decide +kernel) rfl (by first | omega | exact ⟨by omega, by omega⟩) ?_
        rw [show ((39 : Nat) : Int) + ((1 : Nat) : Int) * v5 = (39 + v5) by omega]
        refine zwW_p [(1, 0, 2)] (q := 40) (ls' := [(2, 37), (0, nL2), (0, mL2), (0, qL2), (0, v5), w5L2, w6L2]) (st' := [(2, 37), (2, (39 + v5)), (1, v6)]) (by decide +kernel) rfl ?_
        refine zwW_gs IhL2 (kd := 13) (bn := 0) (n := 97) (t := 0) (lo := 0) (hi := 156) (nx := 43) (by decide +kernel) ?_
        intro v7 ev7 lv7 uv7
        refine zwW_cs (k' := 174) (n := 1) (nx := 46) (as := [(0, v7)]) (st' := [(2, (39 + v5)), (1, v6)]) (by decide +kernel) rfl (m174 hL2 v7 (by omega) (by omega)) rfl ?_
        rintro v8 _ ⟨rfl, f9, f10, f11, f12⟩
        refine zwW_al IhL2 (a1 := 39) (a2 := 46) (kd := 20) (n := 4) (t := 0) (lo := 0) (hi := 40) (nx := 47) (by decide +kernel) (by first | omega | exact ⟨by omega, by omega⟩) (by first | omega | exact ⟨by omega, by omega⟩) ?_
        intro v13 ev13 lv13 uv13
        refine zwW_p [(7, 0, 0)] (q := 48) (ls' := [(2, 37), (0, nL2), (0, mL2), (0, qL2), (0, v5), w5L2, w6L2]) (st' := [(1, v13), (1, v6)]) (by decide +kernel) rfl ?_
        refine zwW_lmulp (A := 5) (B := 40) (nx := 49) (by decide +kernel) (by first | omega | exact ⟨by omega, by omega⟩) (by first | omega | exact ⟨by omega, by omega⟩) (by decide) ?_
        intro v14 ev14 lv14 uv14
        refine zwW_p [(0, 10, 0), (1, 0, 2)] (q := 52) (ls' := [(2, 37), (0, nL2), (0, mL2), (0, qL2), (0, v5), w5L2, w6L2]) (st' := [(2, 37), (0, 10), (1, v14)]) (by decide +kernel) rfl ?_
        refine zwW_gc IhL2 (kd := 13) (bn := 68) (n := 97) (c := 179) (nx := 55) (by decide +kernel) ?_
        refine zwW_p [(1, 3, 0)] (q := 56) (ls' := [(2, 37), (0, nL2), (0, mL2), (0, qL2), (0, v5), w5L2, w6L2]) (st' := [(0, qL2), (2, 179), (0, 10), (1, v14)]) (by decide +kernel) rfl ?_
        refine zwW_al IhL2 (a1 := 179) (a2 := 179) (kd := 20) (n := 20) (t := 0) (lo := 0) (hi := 9) (nx := 57) (by decide +kernel) (by first | decide | exact ⟨by decide, by decide⟩) (by first | omega | exact ⟨by omega, by omega⟩) ?_
        intro v15 ev15 lv15 uv15
        refine zwW_add (nx := 58) (by decide +kernel) (by first | omega | exact ⟨by omega, by omega⟩) ?_
        refine zwW_p [(7, 0, 0)] (q := 59) (ls' := [(2, 37), (0, nL2), (0, mL2), (0, qL2), (0, v5), w5L2, w6L2]) (st' := [(1, (10 + v15)), (1, v14)]) (by decide +kernel) rfl ?_
        refine zwW_lmulp (A := 200) (B := 19) (nx := 60) (by decide +kernel) (by first | omega | exact ⟨by omega, by omega⟩) (by first | omega | exact ⟨by omega, by omega⟩) (by decide) ?_
        intro v16 ev16 lv16 uv16
        refine zwW_p [(1, 0, 2)] (q := 61) (ls' := [(2, 37), (0, nL2), (0, mL2), (0, qL2), (0, v5), w5L2, w6L2]) (st' := [(2, 37), (1, v16)]) (by decide +kernel) rfl ?_
        refine zwW_gc IhL2 (kd := 13) (bn := 26) (n := 97) (c := 85) (nx := 64) (by decide +kernel) ?_
        refine zwW_p [(1, 3, 0)] (q := 65) (ls' := [(2, 37), (0, nL2), (0, mL2), (0, qL2), (0, v5), w5L2, w6L2]) (st' := [(0, qL2), (2, 85), (1, v16)]) (by decide +kernel) rfl ?_
        refine zwW_al IhL2 (a1 := 85) (a2 := 85) (kd := 20) (n := 20) (t := 0) (lo := 0) (hi := 60) (nx := 66) (by decide +kernel) (by first | decide | exact ⟨by decide, by decide⟩) (by first | omega | exact ⟨by omega, by omega⟩) ?_
        intro v17 ev17 lv17 uv17
        refine zwW_p [(0, 20, 0)] (q := 68) (ls' := [(2, 37), (0, nL2), (0, mL2), (0, qL2), (0, v5), w5L2, w6L2]) (st' := [(0, 20), (0, v17), (1, v16)]) (by decide +kernel) rfl ?_
        refine zwW_add (nx := 69) (by decide +kernel) (by first | omega | exact ⟨by omega, by omega⟩) ?_
        refine zwW_p [(7, 0, 0)] (q := 70) (ls' := [(2, 37), (0, nL2), (0, mL2), (0, qL2), (0, v5), w5L2, w6L2]) (st' := [(1, (v17 + 20)), (1, v16)]) (by decide +kernel) rfl ?_
        refine zwW_ldiv (nx := 71) (by decide +kernel) (by omega) (by omega) (by omega) ?_
        obtain ⟨v18, ev18⟩ : ∃ z, z = v16 / (v17 + 20) := ⟨_, rfl⟩
        rw [← ev18]
        have lv18 : 0 ≤ v18 := by rw [ev18]; exact Int.ediv_nonneg (by omega) (by omega)
        have uv18 : v18 ≤ v16 := by rw [ev18]; exact Int.ediv_le_self _ (by omega)
        refine zwW_p [(2, 5, 1), (1, 5, 1), (1, 0, 2)] (q := 76) (ls' := [(2, 37), (0, nL2), (0, mL2), (0, qL2), (0, v5), (1, v18), (9, 0)]) (st' := [(2, 37), (1, v18)]) (by decide +kernel) rfl ?_
        refine zwW_gc IhL2 (kd := 13) (bn := 66) (n := 97) (c := 177) (nx := 79) (by decide +kernel) ?_
        refine zwW_p [(1, 4, 0)] (q := 81) (ls' := [(2, 37), (0, nL2), (0, mL2), (0, qL2), (0, v5), (1, v18), (9, 0)]) (st' := [(0, v5), (2, 177), (1, v18)]) (by decide +kernel) rfl ?_
        refine zwW_al IhL2 (a1 := 177) (a2 := 177) (kd := 20) (n := 8) (t := 0) (lo := -2147483648) (hi := 2147483647) (nx := 82) (by decide +kernel) (by first | decide | exact ⟨by decide, by decide⟩) (by first | omega | exact ⟨by omega, by omega⟩) ?_
        intro v19 ev19 lv19 uv19
        refine zwW_p [(7, 0, 0), (1, 0, 2)] (q := 84) (ls' := [(2, 37), (0, nL2), (0, mL2), (0, qL2), (0, v5), (1, v18), (9, 0)]) (st' := [(2, 37), (1, v19), (1, v18)]) (by decide +kernel) rfl ?_
        refine zwW_gc IhL2 (kd := 13) (bn := 26) (n := 97) (c := 85) (nx := 87) (by decide +kernel) ?_
        refine zwW_p [(1, 3, 0)] (q := 88) (ls' := [(2, 37), (0, nL2), (0, mL2), (0, qL2), (0, v5), (1, v18), (9, 0)]) (st' := [(0, qL2), (2, 85), (1, v19), (1, v18)]) (by decide +kernel) rfl ?_
        refine zwW_al IhL2 (a1 := 85) (a2 := 85) (kd := 20) (n := 20) (t := 0) (lo := 0) (hi := 60) (nx := 89) (by decide +kernel) (by first | decide | exact ⟨by decide, by decide⟩) (by first | omega | exact ⟨by omega, by omega⟩) ?_
        intro v20 ev20 lv20 uv20
        refine zwW_p [(7, 0, 0)] (q := 90) (ls' := [(2, 37), (0, nL2), (0, mL2), (0, qL2), (0, v5), (1, v18), (9, 0)]) (st' := [(1, v20), (1, v19), (1, v18)]) (by decide +kernel) rfl ?_
        refine zwW_lmw (nx := 91) (by decide +kernel) ?_
        intro v21 ev21 lv21 uv21
        refine zwlc_le (q := 113) (nx := 95) (m := 92) (by decide +kernel) (by decide +kernel) (fun c22 => ?_) (fun c22 => ?_)
        · refine zwW_p [(1, 0, 2)] (q := 114) (ls' := [(2, 37), (0, nL2), (0, mL2), (0, qL2), (0, v5), (1, v18), (9, 0)]) (st' := [(2, 37)]) (by decide +kernel) rfl ?_
          refine zwW_gc IhL2 (kd := 13) (bn := 65) (n := 97) (c := 176) (nx := 117) (by decide +kernel) ?_
          refine zwW_p [(1, 3, 0), (1, 2, 0), (0, 300, 0)] (q := 122) (ls' := [(2, 37), (0, nL2), (0, mL2), (0, qL2), (0, v5), (1, v18), (9, 0)]) (st' := [(0, 300), (0, mL2), (0, qL2), (2, 176)]) (by decide +kernel) rfl ?_
          refine zwic_ne (q := 129) (nx := 125) (by decide +kernel) (fun c23 => ?_) (fun c23 => ?_)
          · refine zwW_p [(1, 5, 1)] (q := 131) (ls' := [(2, 37), (0, nL2), (0, mL2), (0, qL2), (0, v5), (1, v18), (9, 0)]) (st' := [(1, v18), (0, qL2), (2, 176)]) (by decide +kernel) rfl ?_
            refine zwW_l2i (nx := 132) (by decide +kernel) (by first | omega | exact ⟨by omega, by omega⟩) ?_
            refine zwW_as IhL2 (a1 := 176) (a2 := 176) (n := 20) (lo := -2147483648) (hi := 2147483647) (nx := 133) (by decide +kernel) (by first | decide | exact ⟨by decide, by decide⟩) (by first | omega | exact ⟨by omega, by omega⟩) (by first | omega | exact ⟨by omega, by omega⟩) ?_
            intro h24 eh24 Ih24
            have N132 : zNZ (fld h24 176) (qL2).toNat = zNZ (fld hL2 176) (qL2).toNat := zNZ_c _ (fun j hj => fld_oth eh24 (Or.inr (by omega)))
            have V132 : fld h24 176 (qL2).toNat = v18 := by rw [eh24]; exact fld_wr_eq (IhL2.s (a1 := 176) (a2 := 176) (k := 20) (n := 20) (by decide +kernel) (by decide) (by decide)) (by omega)
            have S132 : zNZ (fld h24 176) ((qL2).toNat + 1) = zNZ (fld h24 176) (qL2).toNat + (if fld h24 176 (qL2).toNat = 0 then 0 else 1) := rfl
            have Rh24 : zMR ms221 h h24 := RhL2.w (a1 := 176) (a2 := 176) (j1 := 0) (j2 := 20) (by decide +kernel) (by first | decide | exact ⟨by decide, by decide⟩) (by first | omega | exact ⟨by omega, by omega⟩) eh24
            refine zwW_p [(1, 0, 2)] (q := 134) (ls' := [(2, 37), (0, nL2), (0, mL2), (0, qL2), (0, v5), (1, v18), (9, 0)]) (st' := [(2, 37)]) (by decide +kernel) rfl ?_
            refine zwW_gc Ih24 (kd := 13) (bn := 65) (n := 97) (c := 176) (nx := 137) (by decide +kernel) ?_
            refine zwW_p [(1, 3, 0)] (q := 138) (ls' := [(2, 37), (0, nL2), (0, mL2), (0, qL2), (0, v5), (1, v18), (9, 0)]) (st' := [(0, qL2), (2, 176)]) (by decide +kernel) rfl ?_
            refine zwW_al Ih24 (a1 := 176) (a2 := 176) (kd := 20) (n := 20) (t := 0) (lo := -2147483648) (hi := 2147483647) (nx := 139) (by decide +kernel) (by first | decide | exact ⟨by decide, by decide⟩) (by first | omega | exact ⟨by omega, by omega⟩) ?_
            intro v25 ev25 lv25 uv25
            refine zwif_ne (q := 145) (nx := 142) (by decide +kernel) (fun c26 => ?_) (fun c26 => ?_)
            · refine zwW_p [(1, 0, 2)] (q := 146) (ls' := [(2, 37), (0, nL2), (0, mL2), (0, qL2), (0, v5), (1, v18), (9, 0)]) (st' := [(2, 37)]) (by decide +kernel) rfl ?_
              refine zwW_gc Ih24 (kd := 13) (bn := 66) (n := 97) (c := 177) (nx := 149) (by decide +kernel) ?_
              refine zwW_p [(1, 4, 0), (14, 0, 0)] (q := 152) (ls' := [(2, 37), (0, nL2), (0, mL2), (0, qL2), (0, v5), (1, v18), (9, 0)]) (st' := [(0, v5), (2, 177), (0, v5), (2, 177)]) (by decide +kernel) rfl ?_
              refine zwW_al Ih24 (a1 := 177) (a2 := 177) (kd := 20) (n := 8) (t := 0) (lo := -2147483648) (hi := 2147483647) (nx := 153) (by decide +kernel) (by first | decide | exact ⟨by decide, by decide⟩) (by first | omega | exact ⟨by omega, by omega⟩) ?_
              intro v27 ev27 lv27 uv27
              refine zwW_p [(1, 0, 2)] (q := 154) (ls' := [(2, 37), (0, nL2), (0, mL2), (0, qL2), (0, v5), (1, v18), (9, 0)]) (st' := [(2, 37), (0, v27), (0, v5), (2, 177)]) (by decide +kernel) rfl ?_
              refine zwW_gc Ih24 (kd := 13) (bn := 65) (n := 97) (c := 176) (nx := 157) (by decide +kernel) ?_
              refine zwW_p [(1, 3, 0)] (q := 158) (ls' := [(2, 37), (0, nL2), (0, mL2), (0, qL2), (0, v5), (1, v18), (9, 0)]) (st' := [(0, qL2), (2, 176), (0, v27), (0, v5), (2, 177)]) (by decide +kernel) rfl ?_
              refine zwW_al Ih24 (a1 := 176) (a2 := 176) (kd := 20) (n := 20) (t := 0) (lo := -2147483648) (hi := 2147483647) (nx := 159) (by decide +kernel) (by first | decide | exact ⟨by decide, by decide⟩) (by first | omega | exact ⟨by omega, by omega⟩) ?_
              intro v28 ev28 lv28 uv28
              refine zwW_p [(1, 0, 2)] (q := 160) (ls' := [(2, 37), (0, nL2), (0, mL2), (0, qL2), (0, v5), (1, v18), (9, 0)]) (st' := [(2, 37), (0, v28), (0, v27), (0, v5), (2, 177)]) (by decide +kernel) rfl ?_
              refine zwW_gc Ih24 (kd := 13) (bn := 26) (n := 97) (c := 85) (nx := 163) (by decide +kernel) ?_
              refine zwW_p [(1, 3, 0)] (q := 164) (ls' := [(2, 37), (0, nL2), (0, mL2), (0, qL2), (0, v5), (1, v18), (9, 0)]) (st' := [(0, qL2), (2, 85), (0, v28), (0, v27), (0, v5), (2, 177)]) (by decide +kernel) rfl ?_
              refine zwW_al Ih24 (a1 := 85) (a2 := 85) (kd := 20) (n := 20) (t := 0) (lo := 0) (hi := 60) (nx := 165) (by decide +kernel) (by first | decide | exact ⟨by decide, by decide⟩) (by first | omega | exact ⟨by omega, by omega⟩) ?_
              intro v29 ev29 lv29 uv29
              refine zwW_adw (nx := 166) (by decide +kernel) ?_
              intro v30 ev30 lv30 uv30
              refine zwW_p [(0, 1, 0)] (q := 167) (ls' := [(2, 37), (0, nL2), (0, mL2), (0, qL2), (0, v5), (1, v18), (9, 0)]) (st' := [(0, 1), (0, v30), (0, v27), (0, v5), (2, 177)]) (by decide +kernel) rfl ?_
              refine zwW_sbw (nx := 168) (by decide +kernel) ?_
              intro v31 ev31 lv31 uv31
              refine zwW_p [(1, 0, 2)] (q := 169) (ls' := [(2, 37), (0, nL2), (0, mL2), (0, qL2), (0, v5), (1, v18), (9, 0)]) (st' := [(2, 37), (0, v31), (0, v27), (0, v5), (2, 177)]) (by decide +kernel) rfl ?_
              refine zwW_gc Ih24 (kd := 13) (bn := 26) (n := 97) (c := 85) (nx := 172) (by decide +kernel) ?_
              refine zwW_p [(1, 3, 0)] (q := 173) (ls' := [(2, 37), (0, nL2), (0, mL2), (0, qL2), (0, v5), (1, v18), (9, 0)]) (st' := [(0, qL2), (2, 85), (0, v31), (0, v27), (0, v5), (2, 177)]) (by decide +kernel) rfl ?_
              refine zwW_al Ih24 (a1 := 85) (a2 := 85) (kd := 20) (n := 20) (t := 0) (lo := 0) (hi := 60) (nx := 174) (by decide +kernel) (by first | decide | exact ⟨by decide, by decide⟩) (by first | omega | exact ⟨by omega, by omega⟩) ?_
              intro v32 ev32 lv32 uv32
              have B174 := Rh24.f (a1 := 85) (a2 := 85) (j1 := 0) (j2 := 20) (by decide +kernel) (r := 85) (j := (qL2).toNat) (by first | decide | exact ⟨by decide, by decide⟩) (by first | omega | exact ⟨by omega, by omega⟩)
              refine zwW_any2 (a := 3) (nx := 175) (by decide +kernel) rfl (by first | omega | exact ⟨by omega, by omega⟩) (Or.inl (by omega)) ?_
              intro v33 lv33 uv33
              refine zwW_sbw (nx := 176) (by decide +kernel) ?_
              intro v34 ev34 lv34 uv34
              refine zwW_as Ih24 (a1 := 177) (a2 := 177) (n := 8) (lo := -2147483648) (hi := 2147483647) (nx := 177) (by decide +kernel) (by first | decide | exact ⟨by decide, by decide⟩) (by first | omega | exact ⟨by omega, by omega⟩) (by first | omega | exact ⟨by omega, by omega⟩) ?_
              intro h35 eh35 Ih35
              have N176 : fld h35 176 = fld h24 176 := funext (fun j => fld_oth eh35 (Or.inl (by decide)))
              have Rh35 : zMR ms221 h h35 := Rh24.w (a1 := 177) (a2 := 177) (j1 := 0) (j2 := 8) (by decide +kernel) (by first | decide | exact ⟨by decide, by decide⟩) (by first | omega | exact ⟨by omega, by omega⟩) eh35
              refine zwW_inc (i := 2) (c := 1) (x := mL2) (nx := 180) (by decide +kernel) rfl (by first | omega | exact ⟨by omega, by omega⟩) (ls' := [(2, 37), (0, nL2), (0, (mL2 + 1)), (0, qL2), (0, v5), (1, v18), (9, 0)]) rfl ?_
              refine zwW_p [(1, 1, 0), (1, 0, 2)] (q := 182) (ls' := [(2, 37), (0, nL2), (0, (mL2 + 1)), (0, qL2), (0, v5), (1, v18), (9, 0)]) (st' := [(2, 37), (0, nL2)]) (by decide +kernel) rfl ?_
              refine zwW_gc Ih35 (kd := 13) (bn := 65) (n := 97) (c := 176) (nx := 185) (by decide +kernel) ?_
              refine zwW_p [(1, 3, 0)] (q := 186) (ls' := [(2, 37), (0, nL2), (0, (mL2 + 1)), (0, qL2), (0, v5), (1, v18), (9, 0)]) (st' := [(0, qL2), (2, 176), (0, nL2)]) (by decide +kernel) rfl ?_
              refine zwW_al Ih35 (a1 := 176) (a2 := 176) (kd := 20) (n := 20) (t := 0) (lo := -2147483648) (hi := 2147483647) (nx := 187) (by decide +kernel) (by first | decide | exact ⟨by decide, by decide⟩) (by first | omega | exact ⟨by omega, by omega⟩) ?_
              intro v36 ev36 lv36 uv36
              refine zwW_adw (nx := 188) (by decide +kernel) ?_
              intro v37 ev37 lv37 uv37
              refine zwW_p [(2, 1, 0)] (q := 189) (ls' := [(2, 37), (0, v37), (0, (mL2 + 1)), (0, qL2), (0, v5), (1, v18), (9, 0)]) (st' := []) (by decide +kernel) rfl ?_
              refine zwW_inc (i := 3) (c := 1) (x := qL2) (nx := 192) (by decide +kernel) rfl (by first | omega | exact ⟨by omega, by omega⟩) (ls' := [(2, 37), (0, v37), (0, (mL2 + 1)), (0, (qL2 + 1)), (0, v5), (1, v18), (9, 0)]) rfl ?_
              refine zwW_p [(24, 9, 0)] (q := 9) (ls' := [(2, 37), (0, v37), (0, (mL2 + 1)), (0, (qL2 + 1)), (0, v5), (1, v18), (9, 0)]) (st' := []) (by decide +kernel) rfl ?_
              exact IHL2 ((100 - (qL2 + 1))).toNat (by omega) v37 (mL2 + 1) (qL2 + 1) (0, v5) (1, v18) (9, 0) h35 rfl (by omega) (by omega) (by omega) (by rw [show (qL2 + 1).toNat = (qL2).toNat + 1 by omega]; first | (rw [N176, S132, if_neg (by omega), N132]; omega) | (rw [S132, if_pos (by omega), N132]; omega)) Ih35 Rh35
            · refine zwW_p [(24, 189, 0)] (q := 189) (ls' := [(2, 37), (0, nL2), (0, mL2), (0, qL2), (0, v5), (1, v18), (9, 0)]) (st' := []) (by decide +kernel) rfl ?_
              refine zwW_inc (i := 3) (c := 1) (x := qL2) (nx := 192) (by decide +kernel) rfl (by first | omega | exact ⟨by omega, by omega⟩) (ls' := [(2, 37), (0, nL2), (0, mL2), (0, (qL2 + 1)), (0, v5), (1, v18), (9, 0)]) rfl ?_
              refine zwW_p [(24, 9, 0)] (q := 9) (ls' := [(2, 37), (0, nL2), (0, mL2), (0, (qL2 + 1)), (0, v5), (1, v18), (9, 0)]) (st' := []) (by decide +kernel) rfl ?_
              exact IHL2 ((100 - (qL2 + 1))).toNat (by omega) nL2 mL2 (qL2 + 1) (0, v5) (1, v18) (9, 0) h24 rfl (by omega) (by omega) (by omega) (by rw [show (qL2 + 1).toNat = (qL2).toNat + 1 by omega]; first | (rw [N176, S132, if_neg (by omega), N132]; omega) | (rw [S132, if_pos (by omega), N132]; omega)) Ih24 Rh24
          · refine zwW_p [(0, 0, 0), (24, 132, 0)] (q := 132) (ls' := [(2, 37), (0, nL2), (0, mL2), (0, qL2), (0, v5), (1, v18), (9, 0)]) (st' := [(0, 0), (0, qL2), (2, 176)]) (by decide +kernel) rfl ?_
            refine zwW_as IhL2 (a1 := 176) (a2 := 176) (n := 20) (lo := -2147483648) (hi := 2147483647) (nx := 133) (by decide +kernel) (by first | decide | exact ⟨by decide, by decide⟩) (by first | omega | exact ⟨by omega, by omega⟩) (by first | decide | exact ⟨by decide, by decide⟩) ?_
            intro h38 eh38 Ih38
            have N132 : zNZ (fld h38 176) (qL2).toNat = zNZ (fld hL2 176) (qL2).toNat := zNZ_c _ (fun j hj => fld_oth eh38 (Or.inr (by omega)))
            have V132 : fld h38 176 (qL2).toNat = 0 := by rw [eh38]; exact fld_wr_eq (IhL2.s (a1 := 176) (a2 := 176) (k := 20) (n := 20) (by decide +kernel) (by decide) (by decide)) (by omega)
            have S132 : zNZ (fld h38 176) ((qL2).toNat + 1) = zNZ (fld h38 176) (qL2).toNat + (if fld h38 176 (qL2).toNat = 0 then 0 else 1) := rfl
            have Rh38 : zMR ms221 h h38 := RhL2.w (a1 := 176) (a2 := 176) (j1 := 0) (j2 := 20) (by decide +kernel) (by first | decide | exact ⟨by decide, by decide⟩) (by first | omega | exact ⟨by omega, by omega⟩) eh38
            refine zwW_p [(1, 0, 2)] (q := 134) (ls' := [(2, 37), (0, nL2), (0, mL2), (0, qL2), (0, v5), (1, v18), (9, 0)]) (st' := [(2, 37)]) (by decide +kernel) rfl ?_
            refine zwW_gc Ih38 (kd := 13) (bn := 65) (n := 97) (c := 176) (nx := 137) (by decide +kernel) ?_
            refine zwW_p [(1, 3, 0)] (q := 138) (ls' := [(2, 37), (0, nL2), (0, mL2), (0, qL2), (0, v5), (1, v18), (9, 0)]) (st' := [(0, qL2), (2, 176)]) (by decide +kernel) rfl ?_
            refine zwW_al Ih38 (a1 := 176) (a2 := 176) (kd := 20) (n := 20) (t := 0) (lo := -2147483648) (hi := 2147483647) (nx := 139) (by decide +kernel) (by first | decide | exact ⟨by decide, by decide⟩) (by first | omega | exact ⟨by omega, by omega⟩) ?_
            intro v39 ev39 lv39 uv39
            refine zwif_ne (q := 145) (nx := 142) (by decide +kernel) (fun c40 => ?_) (fun c40 => ?_)
            · refine zwW_p [(1, 0, 2)] (q := 146) (ls' := [(2, 37), (0, nL2), (0, mL2), (0, qL2), (0, v5), (1, v18), (9, 0)]) (st' := [(2, 37)]) (by decide +kernel) rfl ?_
              refine zwW_gc Ih38 (kd := 13) (bn := 66) (n := 97) (c := 177) (nx := 149) (by decide +kernel) ?_
              refine zwW_p [(1, 4, 0), (14, 0, 0)] (q := 152) (ls' := [(2, 37), (0, nL2), (0, mL2), (0, qL2), (0, v5), (1, v18), (9, 0)]) (st' := [(0, v5), (2, 177), (0, v5), (2, 177)]) (by decide +kernel) rfl ?_
              refine zwW_al Ih38 (a1 := 177) (a2 := 177) (kd := 20) (n := 8) (t := 0) (lo := -2147483648) (hi := 2147483647) (nx := 153) (by decide +kernel) (by first | decide | exact ⟨by decide, by decide⟩) (by first | omega | exact ⟨by omega, by omega⟩) ?_
              intro v41 ev41 lv41 uv41
              refine zwW_p [(1, 0, 2)] (q := 154) (ls' := [(2, 37), (0, nL2), (0, mL2), (0, qL2), (0, v5), (1, v18), (9, 0)]) (st' := [(2, 37), (0, v41), (0, v5), (2, 177)]) (by decide +kernel) rfl ?_
              refine zwW_gc Ih38 (kd := 13) (bn := 65) (n := 97) (c := 176) (nx := 157) (by decide +kernel) ?_
              refine zwW_p [(1, 3, 0)] (q := 158) (ls' := [(2, 37), (0, nL2), (0, mL2), (0, qL2), (0, v5), (1, v18), (9, 0)]) (st' := [(0, qL2), (2, 176), (0, v41), (0, v5), (2, 177)]) (by decide +kernel) rfl ?_
              refine zwW_al Ih38 (a1 := 176) (a2 := 176) (kd := 20) (n := 20) (t := 0) (lo := -2147483648) (hi := 2147483647) (nx := 159) (by decide +kernel) (by first | decide | exact ⟨by decide, by decide⟩) (by first | omega | exact ⟨by omega, by omega⟩) ?_
              intro v42 ev42 lv42 uv42
              refine zwW_p [(1, 0, 2)] (q := 160) (ls' := [(2, 37), (0, nL2), (0, mL2), (0, qL2), (0, v5), (1, v18), (9, 0)]) (st' := [(2, 37), (0, v42), (0, v41), (0, v5), (2, 177)]) (by decide +kernel) rfl ?_
              refine zwW_gc Ih38 (kd := 13) (bn := 26) (n := 97) (c := 85) (nx := 163) (by decide +kernel) ?_
              refine zwW_p [(1, 3, 0)] (q := 164) (ls' := [(2, 37), (0, nL2), (0, mL2), (0, qL2), (0, v5), (1, v18), (9, 0)]) (st' := [(0, qL2), (2, 85), (0, v42), (0, v41), (0, v5), (2, 177)]) (by decide +kernel) rfl ?_
              refine zwW_al Ih38 (a1 := 85) (a2 := 85) (kd := 20) (n := 20) (t := 0) (lo := 0) (hi := 60) (nx := 165) (by decide +kernel) (by first | decide | exact ⟨by decide, by decide⟩) (by first | omega | exact ⟨by omega, by omega⟩) ?_
              intro v43 ev43 lv43 uv43
              refine zwW_adw (nx := 166) (by decide +kernel) ?_
              intro v44 ev44 lv44 uv44
              refine zwW_p [(0, 1, 0)] (q := 167) (ls' := [(2, 37), (0, nL2), (0, mL2), (0, qL2), (0, v5), (1, v18), (9, 0)]) (st' := [(0, 1), (0, v44), (0, v41), (0, v5), (2, 177)]) (by decide +kernel) rfl ?_
              refine zwW_sbw (nx := 168) (by decide +kernel) ?_
              intro v45 ev45 lv45 uv45
              refine zwW_p [(1, 0, 2)] (q := 169) (ls' := [(2, 37), (0, nL2), (0, mL2), (0, qL2), (0, v5), (1, v18), (9, 0)]) (st' := [(2, 37), (0, v45), (0, v41), (0, v5), (2, 177)]) (by decide +kernel) rfl ?_
              refine zwW_gc Ih38 (kd := 13) (bn := 26) (n := 97) (c := 85) (nx := 172) (by decide +kernel) ?_
              refine zwW_p [(1, 3, 0)] (q := 173) (ls' := [(2, 37), (0, nL2), (0, mL2), (0, qL2), (0, v5), (1, v18), (9, 0)]) (st' := [(0, qL2), (2, 85), (0, v45), (0, v41), (0, v5), (2, 177)]) (by decide +kernel) rfl ?_
              refine zwW_al Ih38 (a1 := 85) (a2 := 85) (kd := 20) (n := 20) (t := 0) (lo := 0) (hi := 60) (nx := 174) (by decide +kernel) (by first | decide | exact ⟨by decide, by decide⟩) (by first | omega | exact ⟨by omega, by omega⟩) ?_
              intro v46 ev46 lv46 uv46
              have B174 := Rh38.f (a1 := 85) (a2 := 85) (j1 := 0) (j2 := 20) (by decide +kernel) (r := 85) (j := (qL2).toNat) (by first | decide | exact ⟨by decide, by decide⟩) (by first | omega | exact ⟨by omega, by omega⟩)
              refine zwW_any2 (a := 3) (nx := 175) (by decide +kernel) rfl (by first | omega | exact ⟨by omega, by omega⟩) (Or.inl (by omega)) ?_
              intro v47 lv47 uv47
              refine zwW_sbw (nx := 176) (by decide +kernel) ?_
              intro v48 ev48 lv48 uv48
              refine zwW_as Ih38 (a1 := 177) (a2 := 177) (n := 8) (lo := -2147483648) (hi := 2147483647) (nx := 177) (by decide +kernel) (by first | decide | exact ⟨by decide, by decide⟩) (by first | omega | exact ⟨by omega, by omega⟩) (by first | omega | exact ⟨by omega, by omega⟩) ?_
              intro h49 eh49 Ih49
              have N176 : fld h49 176 = fld h38 176 := funext (fun j => fld_oth eh49 (Or.inl (by decide)))
              have Rh49 : zMR ms221 h h49 := Rh38.w (a1 := 177) (a2 := 177) (j1 := 0) (j2 := 8) (by decide +kernel) (by first | decide | exact ⟨by decide, by decide⟩) (by first | omega | exact ⟨by omega, by omega⟩) eh49
              refine zwW_inc (i := 2) (c := 1) (x := mL2) (nx := 180) (by decide +kernel) rfl (by first | omega | exact ⟨by omega, by omega⟩) (ls' := [(2, 37), (0, nL2), (0, (mL2 + 1)), (0, qL2), (0, v5), (1, v18), (9, 0)]) rfl ?_
              refine zwW_p [(1, 1, 0), (1, 0, 2)] (q := 182) (ls' := [(2, 37), (0, nL2), (0, (mL2 + 1)), (0, qL2), (0, v5), (1, v18), (9, 0)]) (st' := [(2, 37), (0, nL2)]) (by decide +kernel) rfl ?_
              refine zwW_gc Ih49 (kd := 13) (bn := 65) (n := 97) (c := 176) (nx := 185) (by decide +kernel) ?_
              refine zwW_p [(1, 3, 0)] (q := 186) (ls' := [(2, 37), (0, nL2), (0, (mL2 + 1)), (0, qL2), (0, v5), (1, v18), (9, 0)]) (st' := [(0, qL2), (2, 176), (0, nL2)]) (by decide +kernel) rfl ?_
              refine zwW_al Ih49 (a1 := 176) (a2 := 176) (kd := 20) (n := 20) (t := 0) (lo := -2147483648) (hi := 2147483647) (nx := 187) (by decide +kernel) (by first | decide | exact ⟨by decide, by decide⟩) (by first | omega | exact ⟨by omega, by omega⟩) ?_
              intro v50 ev50 lv50 uv50
              refine zwW_adw (nx := 188) (by decide +kernel) ?_
              intro v51 ev51 lv51 uv51
              refine zwW_p [(2, 1, 0)] (q := 189) (ls' := [(2, 37), (0, v51), (0, (mL2 + 1)), (0, qL2), (0, v5), (1, v18), (9, 0)]) (st' := []) (by decide +kernel) rfl ?_
              refine zwW_inc (i := 3) (c := 1) (x := qL2) (nx := 192) (by decide +kernel) rfl (by first | omega | exact ⟨by omega, by omega⟩) (ls' := [(2, 37), (0, v51), (0, (mL2 + 1)), (0, (qL2 + 1)), (0, v5), (1, v18), (9, 0)]) rfl ?_
              refine zwW_p [(24, 9, 0)] (q := 9) (ls' := [(2, 37), (0, v51), (0, (mL2 + 1)), (0, (qL2 + 1)), (0, v5), (1, v18), (9, 0)]) (st' := []) (by decide +kernel) rfl ?_
              exact IHL2 ((100 - (qL2 + 1))).toNat (by omega) v51 (mL2 + 1) (qL2 + 1) (0, v5) (1, v18) (9, 0) h49 rfl (by omega) (by omega) (by omega) (by rw [show (qL2 + 1).toNat = (qL2).toNat + 1 by omega]; first | (rw [N176, S132, if_neg (by omega), N132]; omega) | (rw [S132, if_pos (by omega), N132]; omega)) Ih49 Rh49
            · refine zwW_p [(24, 189, 0)] (q := 189) (ls' := [(2, 37), (0, nL2), (0, mL2), (0, qL2), (0, v5), (1, v18), (9, 0)]) (st' := []) (by decide +kernel) rfl ?_
              refine zwW_inc (i := 3) (c := 1) (x := qL2) (nx := 192) (by decide +kernel) rfl (by first | omega | exact ⟨by omega, by omega⟩) (ls' := [(2, 37), (0, nL2), (0, mL2), (0, (qL2 + 1)), (0, v5), (1, v18), (9, 0)]) rfl ?_
              refine zwW_p [(24, 9, 0)] (q := 9) (ls' := [(2, 37), (0, nL2), (0, mL2), (0, (qL2 + 1)), (0, v5), (1, v18), (9, 0)]) (st' := []) (by decide +kernel) rfl ?_
              exact IHL2 ((100 - (qL2 + 1))).toNat (by omega) nL2 mL2 (qL2 + 1) (0, v5) (1, v18) (9, 0) h38 rfl (by omega) (by omega) (by omega) (by rw [show (qL2 + 1).toNat = (qL2).toNat + 1 by omega]; first | (rw [N176, S132, if_neg (by omega), N132]; omega) | (rw [S132, if_pos (by omega), N132]; omega)) Ih38 Rh38
        · refine zwW_p [(1, 0, 2)] (q := 96) (ls' := [(2, 37), (0, nL2), (0, mL2), (0, qL2), (0, v5), (1, v18), (9, 0)]) (st' := [(2, 37)]) (by decide +kernel) rfl ?_
          refine zwW_gc IhL2 (kd := 13) (bn := 66) (n := 97) (c := 177) (nx := 99) (by decide +kernel) ?_
          refine zwW_p [(1, 4, 0)] (q := 101) (ls' := [(2, 37), (0, nL2), (0, mL2), (0, qL2), (0, v5), (1, v18), (9, 0)]) (st' := [(0, v5), (2, 177)]) (by decide +kernel) rfl ?_
          refine zwW_al IhL2 (a1 := 177) (a2 := 177) (kd := 20) (n := 8) (t := 0) (lo := -2147483648) (hi := 2147483647) (nx := 102) (by decide +kernel) (by first | decide | exact ⟨by decide, by decide⟩) (by first | omega | exact ⟨by omega, by omega⟩) ?_
          intro v52 ev52 lv52 uv52
          refine zwW_p [(7, 0, 0), (1, 0, 2)] (q := 104) (ls' := [(2, 37), (0, nL2), (0, mL2), (0, qL2), (0, v5), (1, v18), (9, 0)]) (st' := [(2, 37), (1, v52)]) (by decide +kernel) rfl ?_
          refine zwW_gc IhL2 (kd := 13) (bn := 26) (n := 97) (c := 85) (nx := 107) (by decide +kernel) ?_
          refine zwW_p [(1, 3, 0)] (q := 108) (ls' := [(2, 37), (0, nL2), (0, mL2), (0, qL2), (0, v5), (1, v18), (9, 0)]) (st' := [(0, qL2), (2, 85), (1, v52)]) (by decide +kernel) rfl ?_
          refine zwW_al IhL2 (a1 := 85) (a2 := 85) (kd := 20) (n := 20) (t := 0) (lo := 0) (hi := 60) (nx := 109) (by decide +kernel) (by first | decide | exact ⟨by decide, by decide⟩) (by first | omega | exact ⟨by omega, by omega⟩) ?_
          intro v53 ev53 lv53 uv53
          refine zwW_p [(7, 0, 0)] (q := 110) (ls' := [(2, 37), (0, nL2), (0, mL2), (0, qL2), (0, v5), (1, v18), (9, 0)]) (st' := [(1, v53), (1, v52)]) (by decide +kernel) rfl ?_
          refine zwW_lmw (nx := 111) (by decide +kernel) ?_
          intro v54 ev54 lv54 uv54
          refine zwW_p [(2, 5, 1), (1, 0, 2)] (q := 114) (ls' := [(2, 37), (0, nL2), (0, mL2), (0, qL2), (0, v5), (1, v54), (9, 0)]) (st' := [(2, 37)]) (by decide +kernel) rfl ?_
          refine zwW_gc IhL2 (kd := 13) (bn := 65) (n := 97) (c := 176) (nx := 117) (by decide +kernel) ?_
          refine zwW_p [(1, 3, 0), (1, 2, 0), (0, 300, 0)] (q := 122) (ls' := [(2, 37), (0, nL2), (0, mL2), (0, qL2), (0, v5), (1, v54), (9, 0)]) (st' := [(0, 300), (0, mL2), (0, qL2), (2, 176)]) (by decide +kernel) rfl ?_
          refine zwic_ne (q := 129) (nx := 125) (by decide +kernel) (fun c55 => ?_) (fun c55 => ?_)
          · refine zwW_p [(1, 5, 1)] (q := 131) (ls' := [(2, 37), (0, nL2), (0, mL2), (0, qL2), (0, v5), (1, v54), (9, 0)]) (st' := [(1, v54), (0, qL2), (2, 176)]) (by decide +kernel) rfl ?_
            refine zwW_l2x (nx := 132) (by decide +kernel) ?_
            intro v56 ev56 lv56 uv56
            refine zwW_as IhL2 (a1 := 176) (a2 := 176) (n := 20) (lo := -2147483648) (hi := 2147483647) (nx := 133) (by decide +kernel) (by first | decide | exact ⟨by decide, by decide⟩) (by first | omega | exact ⟨by omega, by omega⟩) (by first | omega | exact ⟨by omega, by omega⟩) ?_
            intro h57 eh57 Ih57
            have N132 : zNZ (fld h57 176) (qL2).toNat = zNZ (fld hL2 176) (qL2).toNat := zNZ_c _ (fun j hj => fld_oth eh57 (Or.inr (by omega)))
            have V132 : fld h57 176 (qL2).toNat = v56 := by rw [eh57]; exact fld_wr_eq (IhL2.s (a1 := 176) (a2 := 176) (k := 20) (n := 20) (by decide +kernel) (by decide) (by decide)) (by omega)
            have S132 : zNZ (fld h57 176) ((qL2).toNat + 1) = zNZ (fld h57 176) (qL2).toNat + (if fld h57 176 (qL2).toNat = 0 then 0 else 1) := rfl
            have Rh57 : zMR ms221 h h57 := RhL2.w (a1 := 176) (a2 := 176) (j1 := 0) (j2 := 20) (by decide +kernel) (by first | decide | exact ⟨by decide, by decide⟩) (by first | omega | exact ⟨by omega, by omega⟩) eh57
            refine zwW_p [(1, 0, 2)] (q := 134) (ls' := [(2, 37), (0, nL2), (0, mL2), (0, qL2), (0, v5), (1, v54), (9, 0)]) (st' := [(2, 37)]) (by decide +kernel) rfl ?_
            refine zwW_gc Ih57 (kd := 13) (bn := 65) (n := 97) (c := 176) (nx := 137) (by decide +kernel) ?_
            refine zwW_p [(1, 3, 0)] (q := 138) (ls' := [(2, 37), (0, nL2), (0, mL2), (0, qL2), (0, v5), (1, v54), (9, 0)]) (st' := [(0, qL2), (2, 176)]) (by decide +kernel) rfl ?_
            refine zwW_al Ih57 (a1 := 176) (a2 := 176) (kd := 20) (n := 20) (t := 0) (lo := -2147483648) (hi := 2147483647) (nx := 139) (by decide +kernel) (by first | decide | exact ⟨by decide, by decide⟩) (by first | omega | exact ⟨by omega, by omega⟩) ?_
            intro v58 ev58 lv58 uv58
            refine zwif_ne (q := 145) (nx := 142) (by decide +kernel) (fun c59 => ?_) (fun c59 => ?_)
            · refine zwW_p [(1, 0, 2)] (q := 146) (ls' := [(2, 37), (0, nL2), (0, mL2), (0, qL2), (0, v5), (1, v54), (9, 0)]) (st' := [(2, 37)]) (by decide +kernel) rfl ?_
              refine zwW_gc Ih57 (kd := 13) (bn := 66) (n := 97) (c := 177) (nx := 149) (by decide +kernel) ?_
              refine zwW_p [(1, 4, 0), (14, 0, 0)] (q := 152) (ls' := [(2, 37), (0, nL2), (0, mL2), (0, qL2), (0, v5), (1, v54), (9, 0)]) (st' := [(0, v5), (2, 177), (0, v5), (2, 177)]) (by decide +kernel) rfl ?_
              refine zwW_al Ih57 (a1 := 177) (a2 := 177) (kd := 20) (n := 8) (t := 0) (lo := -2147483648) (hi := 2147483647) (nx := 153) (by decide +kernel) (by first | decide | exact ⟨by decide, by decide⟩) (by first | omega | exact ⟨by omega, by omega⟩) ?_
              intro v60 ev60 lv60 uv60
              refine zwW_p [(1, 0, 2)] (q := 154) (ls' := [(2, 37), (0, nL2), (0, mL2), (0, qL2), (0, v5), (1, v54), (9, 0)]) (st' := [(2, 37), (0, v60), (0, v5), (2, 177)]) (by decide +kernel) rfl ?_
              refine zwW_gc Ih57 (kd := 13) (bn := 65) (n := 97) (c := 176) (nx := 157) (by decide +kernel) ?_
              refine zwW_p [(1, 3, 0)] (q := 158) (ls' := [(2, 37), (0, nL2), (0, mL2), (0, qL2), (0, v5), (1, v54), (9, 0)]) (st' := [(0, qL2), (2, 176), (0, v60), (0, v5), (2, 177)]) (by decide +kernel) rfl ?_
              refine zwW_al Ih57 (a1 := 176) (a2 := 176) (kd := 20) (n := 20) (t := 0) (lo := -2147483648) (hi := 2147483647) (nx := 159) (by decide +kernel) (by first | decide | exact ⟨by decide, by decide⟩) (by first | omega | exact ⟨by omega, by omega⟩) ?_
              intro v61 ev61 lv61 uv61
              refine zwW_p [(1, 0, 2)] (q := 160) (ls' := [(2, 37), (0, nL2), (0, mL2), (0, qL2), (0, v5), (1, v54), (9, 0)]) (st' := [(2, 37), (0, v61), (0, v60), (0, v5), (2, 177)]) (by decide +kernel) rfl ?_
              refine zwW_gc Ih57 (kd := 13) (bn := 26) (n := 97) (c := 85) (nx := 163) (by decide +kernel) ?_
              refine zwW_p [(1, 3, 0)] (q := 164) (ls' := [(2, 37), (0, nL2), (0, mL2), (0, qL2), (0, v5), (1, v54), (9, 0)]) (st' := [(0, qL2), (2, 85), (0, v61), (0, v60), (0, v5), (2, 177)]) (by decide +kernel) rfl ?_
              refine zwW_al Ih57 (a1 := 85) (a2 := 85) (kd := 20) (n := 20) (t := 0) (lo := 0) (hi := 60) (nx := 165) (by decide +kernel) (by first | decide | exact ⟨by decide, by decide⟩) (by first | omega | exact ⟨by omega, by omega⟩) ?_
              intro v62 ev62 lv62 uv62
              refine zwW_adw (nx := 166) (by decide +kernel) ?_
              intro v63 ev63 lv63 uv63
              refine zwW_p [(0, 1, 0)] (q := 167) (ls' := [(2, 37), (0, nL2), (0, mL2), (0, qL2), (0, v5), (1, v54), (9, 0)]) (st' := [(0, 1), (0, v63), (0, v60), (0, v5), (2, 177)]) (by decide +kernel) rfl ?_
              refine zwW_sbw (nx := 168) (by decide +kernel) ?_
              intro v64 ev64 lv64 uv64
              refine zwW_p [(1, 0, 2)] (q := 169) (ls' := [(2, 37), (0, nL2), (0, mL2), (0, qL2), (0, v5), (1, v54), (9, 0)]) (st' := [(2, 37), (0, v64), (0, v60), (0, v5), (2, 177)]) (by decide +kernel) rfl ?_
              refine zwW_gc Ih57 (kd := 13) (bn := 26) (n := 97) (c := 85) (nx := 172) (by decide +kernel) ?_
              refine zwW_p [(1, 3, 0)] (q := 173) (ls' := [(2, 37), (0, nL2), (0, mL2), (0, qL2), (0, v5), (1, v54), (9, 0)]) (st' := [(0, qL2), (2, 85), (0, v64), (0, v60), (0, v5), (2, 177)]) (by decide +kernel) rfl ?_
              refine zwW_al Ih57 (a1 := 85) (a2 := 85) (kd := 20) (n := 20) (t := 0) (lo := 0) (hi := 60) (nx := 174) (by decide +kernel) (by first | decide | exact ⟨by decide, by decide⟩) (by first | omega | exact ⟨by omega, by omega⟩) ?_
              intro v65 ev65 lv65 uv65
              have B174 := Rh57.f (a1 := 85) (a2 := 85) (j1 := 0) (j2 := 20) (by decide +kernel) (r := 85) (j := (qL2).toNat) (by first | decide | exact ⟨by decide, by decide⟩) (by first | omega | exact ⟨by omega, by omega⟩)
              refine zwW_any2 (a := 3) (nx := 175) (by decide +kernel) rfl (by first | omega | exact ⟨by omega, by omega⟩) (Or.inl (by omega)) ?_
              intro v66 lv66 uv66
              refine zwW_sbw (nx := 176) (by decide +kernel) ?_
              intro v67 ev67 lv67 uv67
              refine zwW_as Ih57 (a1 := 177) (a2 := 177) (n := 8) (lo := -2147483648) (hi := 2147483647) (nx := 177) (by decide +kernel) (by first | decide | exact ⟨by decide, by decide⟩) (by first | omega | exact ⟨by omega, by omega⟩) (by first | omega | exact ⟨by omega, by omega⟩) ?_
              intro h68 eh68 Ih68
              have N176 : fld h68 176 = fld h57 176 := funext (fun j => fld_oth eh68 (Or.inl (by decide)))
              have Rh68 : zMR ms221 h h68 := Rh57.w (a1 := 177) (a2 := 177) (j1 := 0) (j2 := 8) (by decide +kernel) (by first | decide | exact ⟨by decide, by decide⟩) (by first | omega | exact ⟨by omega, by omega⟩) eh68
              refine zwW_inc (i := 2) (c := 1) (x := mL2) (nx := 180) (by decide +kernel) rfl (by first | omega | exact ⟨by omega, by omega⟩) (ls' := [(2, 37), (0, nL2), (0, (mL2 + 1)), (0, qL2), (0, v5), (1, v54), (9, 0)]) rfl ?_
              refine zwW_p [(1, 1, 0), (1, 0, 2)] (q := 182) (ls' := [(2, 37), (0, nL2), (0, (mL2 + 1)), (0, qL2), (0, v5), (1, v54), (9, 0)]) (st' := [(2, 37), (0, nL2)]) (by decide +kernel) rfl ?_
              refine zwW_gc Ih68 (kd := 13) (bn := 65) (n := 97) (c := 176) (nx := 185) (by decide +kernel) ?_
              refine zwW_p [(1, 3, 0)] (q := 186) (ls' := [(2, 37), (0, nL2), (0, (mL2 + 1)), (0, qL2), (0, v5), (1, v54), (9, 0)]) (st' := [(0, qL2), (2, 176), (0, nL2)]) (by decide +kernel) rfl ?_
              refine zwW_al Ih68 (a1 := 176) (a2 := 176) (kd := 20) (n := 20) (t := 0) (lo := -2147483648) (hi := 2147483647) (nx := 187) (by decide +kernel) (by first | decide | exact ⟨by decide, by decide⟩) (by first | omega | exact ⟨by omega, by omega⟩) ?_
              intro v69 ev69 lv69 uv69
              refine zwW_adw (nx := 188) (by decide +kernel) ?_
              intro v70 ev70 lv70 uv70
              refine zwW_p [(2, 1, 0)] (q := 189) (ls' := [(2, 37), (0, v70), (0, (mL2 + 1)), (0, qL2), (0, v5), (1, v54), (9, 0)]) (st' := []) (by decide +kernel) rfl ?_
              refine zwW_inc (i := 3) (c := 1) (x := qL2) (nx := 192) (by decide +kernel) rfl (by first | omega | exact ⟨by omega, by omega⟩) (ls' := [(2, 37), (0, v70), (0, (mL2 + 1)), (0, (qL2 + 1)), (0, v5), (1, v54), (9, 0)]) rfl ?_
              refine zwW_p [(24, 9, 0)] (q := 9) (ls' := [(2, 37), (0, v70), (0, (mL2 + 1)), (0, (qL2 + 1)), (0, v5), (1, v54), (9, 0)]) (st' := []) (by decide +kernel) rfl ?_
              exact IHL2 ((100 - (qL2 + 1))).toNat (by omega) v70 (mL2 + 1) (qL2 + 1) (0, v5) (1, v54) (9, 0) h68 rfl (by omega) (by omega) (by omega) (by rw [show (qL2 + 1).toNat = (qL2).toNat + 1 by omega]; first | (rw [N176, S132, if_neg (by omega), N132]; omega) | (rw [S132, if_pos (by omega), N132]; omega)) Ih68 Rh68
            · refine zwW_p [(24, 189, 0)] (q := 189) (ls' := [(2, 37), (0, nL2), (0, mL2), (0, qL2), (0, v5), (1, v54), (9, 0)]) (st' := []) (by decide +kernel) rfl ?_
              refine zwW_inc (i := 3) (c := 1) (x := qL2) (nx := 192) (by decide +kernel) rfl (by first | omega | exact ⟨by omega, by omega⟩) (ls' := [(2, 37), (0, nL2), (0, mL2), (0, (qL2 + 1)), (0, v5), (1, v54), (9, 0)]) rfl ?_
              refine zwW_p [(24, 9, 0)] (q := 9) (ls' := [(2, 37), (0, nL2), (0, mL2), (0, (qL2 + 1)), (0, v5), (1, v54), (9, 0)]) (st' := []) (by decide +kernel) rfl ?_
              exact IHL2 ((100 - (qL2 + 1))).toNat (by omega) nL2 mL2 (qL2 + 1) (0, v5) (1, v54) (9, 0) h57 rfl (by omega) (by omega) (by omega) (by rw [show (qL2 + 1).toNat = (qL2).toNat + 1 by omega]; first | (rw [N176, S132, if_neg (by omega), N132]; omega) | (rw [S132, if_pos (by omega), N132]; omega)) Ih57 Rh57
          · refine zwW_p [(0, 0, 0), (24, 132, 0)] (q := 132) (ls' := [(2, 37), (0, nL2), (0, mL2), (0, qL2), (0, v5), (1, v54), (9, 0)]) (st' := [(0, 0), (0, qL2), (2, 176)]) (by decide +kernel) rfl ?_
            refine zwW_as IhL2 (a1 := 176) (a2 := 176) (n := 20) (lo := -2147483648) (hi := 2147483647) (nx := 133) (by decide +kernel) (by first | decide | exact ⟨by decide, by decide⟩) (by first | omega | exact ⟨by omega, by omega⟩) (by first | decide | exact ⟨by decide, by decide⟩) ?_
            intro h71 eh71 Ih71
            have N132 : zNZ (fld h71 176) (qL2).toNat = zNZ (fld hL2 176) (qL2).toNat := zNZ_c _ (fun j hj => fld_oth eh71 (Or.inr (by omega)))
            have V132 : fld h71 176 (qL2).toNat = 0 := by rw [eh71]; exact fld_wr_eq (IhL2.s (a1 := 176) (a2 := 176) (k := 20) (n := 20) (by decide +kernel) (by decide) (by decide)) (by omega)
            have S132 : zNZ (fld h71 176) ((qL2).toNat + 1) = zNZ (fld h71 176) (qL2).toNat + (if fld h71 176 (qL2).toNat = 0 then 0 else 1) := rfl
            have Rh71 : zMR ms221 h h71 := RhL2.w (a1 := 176) (a2 := 176) (j1 := 0) (j2 := 20) (by decide +kernel) (by first | decide | exact ⟨by decide, by decide⟩) (by first | omega | exact ⟨by omega, by omega⟩) eh71
            refine zwW_p [(1, 0, 2)] (q := 134) (ls' := [(2, 37), (0, nL2), (0, mL2), (0, qL2), (0, v5), (1, v54), (9, 0)]) (st' := [(2, 37)]) (by decide +kernel) rfl ?_
            refine zwW_gc Ih71 (kd := 13) (bn := 65) (n := 97) (c := 176) (nx := 137) (by decide +kernel) ?_
            refine zwW_p [(1, 3, 0)] (q := 138) (ls' := [(2, 37), (0, nL2), (0, mL2), (0, qL2), (0, v5), (1, v54), (9, 0)]) (st' := [(0, qL2), (2, 176)]) (by decide +kernel) rfl ?_
            refine zwW_al Ih71 (a1 := 176) (a2 := 176) (kd := 20) (n := 20) (t := 0) (lo := -2147483648) (hi := 2147483647) (nx := 139) (by decide +kernel) (by first | decide | exact ⟨by decide, by decide⟩) (by first | omega | exact ⟨by omega, by omega⟩) ?_
            intro v72 ev72 lv72 uv72
            refine zwif_ne (q := 145) (nx := 142) (by decide +kernel) (fun c73 => ?_) (fun c73 => ?_)
            · refine zwW_p [(1, 0, 2)] (q := 146) (ls' := [(2, 37), (0, nL2), (0, mL2), (0, qL2), (0, v5), (1, v54), (9, 0)]) (st' := [(2, 37)]) (by decide +kernel) rfl ?_
              refine zwW_gc Ih71 (kd := 13) (bn := 66) (n := 97) (c := 177) (nx := 149) (by decide +kernel) ?_
              refine zwW_p [(1, 4, 0), (14, 0, 0)] (q := 152) (ls' := [(2, 37), (0, nL2), (0, mL2), (0, qL2), (0, v5), (1, v54), (9, 0)]) (st' := [(0, v5), (2, 177), (0, v5), (2, 177)]) (by decide +kernel) rfl ?_
              refine zwW_al Ih71 (a1 := 177) (a2 := 177) (kd := 20) (n := 8) (t := 0) (lo := -2147483648) (hi := 2147483647) (nx := 153) (by decide +kernel) (by first | decide | exact ⟨by decide, by decide⟩) (by first | omega | exact ⟨by omega, by omega⟩) ?_
              intro v74 ev74 lv74 uv74
              refine zwW_p [(1, 0, 2)] (q := 154) (ls' := [(2, 37), (0, nL2), (0, mL2), (0, qL2), (0, v5), (1, v54), (9, 0)]) (st' := [(2, 37), (0, v74), (0, v5), (2, 177)]) (by decide +kernel) rfl ?_
              refine zwW_gc Ih71 (kd := 13) (bn := 65) (n := 97) (c := 176) (nx := 157) (by decide +kernel) ?_
              refine zwW_p [(1, 3, 0)] (q := 158) (ls' := [(2, 37), (0, nL2), (0, mL2), (0, qL2), (0, v5), (1, v54), (9, 0)]) (st' := [(0, qL2), (2, 176), (0, v74), (0, v5), (2, 177)]) (by decide +kernel) rfl ?_
              refine zwW_al Ih71 (a1 := 176) (a2 := 176) (kd := 20) (n := 20) (t := 0) (lo := -2147483648) (hi := 2147483647) (nx := 159) (by decide +kernel) (by first | decide | exact ⟨by decide, by decide⟩) (by first | omega | exact ⟨by omega, by omega⟩) ?_
              intro v75 ev75 lv75 uv75
              refine zwW_p [(1, 0, 2)] (q := 160) (ls' := [(2, 37), (0, nL2), (0, mL2), (0, qL2), (0, v5), (1, v54), (9, 0)]) (st' := [(2, 37), (0, v75), (0, v74), (0, v5), (2, 177)]) (by decide +kernel) rfl ?_
              refine zwW_gc Ih71 (kd := 13) (bn := 26) (n := 97) (c := 85) (nx := 163) (by decide +kernel) ?_
              refine zwW_p [(1, 3, 0)] (q := 164) (ls' := [(2, 37), (0, nL2), (0, mL2), (0, qL2), (0, v5), (1, v54), (9, 0)]) (st' := [(0, qL2), (2, 85), (0, v75), (0, v74), (0, v5), (2, 177)]) (by decide +kernel) rfl ?_
              refine zwW_al Ih71 (a1 := 85) (a2 := 85) (kd := 20) (n := 20) (t := 0) (lo := 0) (hi := 60) (nx := 165) (by decide +kernel) (by first | decide | exact ⟨by decide, by decide⟩) (by first | omega | exact ⟨by omega, by omega⟩) ?_
              intro v76 ev76 lv76 uv76
              refine zwW_adw (nx := 166) (by decide +kernel) ?_
              intro v77 ev77 lv77 uv77
              refine zwW_p [(0, 1, 0)] (q := 167) (ls' := [(2, 37), (0, nL2), (0, mL2), (0, qL2), (0, v5), (1, v54), (9, 0)]) (st' := [(0, 1), (0, v77), (0, v74), (0, v5), (2, 177)]) (by decide +kernel) rfl ?_
              refine zwW_sbw (nx := 168) (by decide +kernel) ?_
              intro v78 ev78 lv78 uv78
              refine zwW_p [(1, 0, 2)] (q := 169) (ls' := [(2, 37), (0, nL2), (0, mL2), (0, qL2), (0, v5), (1, v54), (9, 0)]) (st' := [(2, 37), (0, v78), (0, v74), (0, v5), (2, 177)]) (by decide +kernel) rfl ?_
              refine zwW_gc Ih71 (kd := 13) (bn := 26) (n := 97) (c := 85) (nx := 172) (by decide +kernel) ?_
              refine zwW_p [(1, 3, 0)] (q := 173) (ls' := [(2, 37), (0, nL2), (0, mL2), (0, qL2), (0, v5), (1, v54), (9, 0)]) (st' := [(0, qL2), (2, 85), (0, v78), (0, v74), (0, v5), (2, 177)]) (by decide +kernel) rfl ?_
              refine zwW_al Ih71 (a1 := 85) (a2 := 85) (kd := 20) (n := 20) (t := 0) (lo := 0) (hi := 60) (nx := 174) (by decide +kernel) (by first | decide | exact ⟨by decide, by decide⟩) (by first | omega | exact ⟨by omega, by omega⟩) ?_
              intro v79 ev79 lv79 uv79
              have B174 := Rh71.f (a1 := 85) (a2 := 85) (j1 := 0) (j2 := 20) (by decide +kernel) (r := 85) (j := (qL2).toNat) (by first | decide | exact ⟨by decide, by decide⟩) (by first | omega | exact ⟨by omega, by omega⟩)
              refine zwW_any2 (a := 3) (nx := 175) (by decide +kernel) rfl (by first | omega | exact ⟨by omega, by omega⟩) (Or.inl (by omega)) ?_
              intro v80 lv80 uv80
              refine zwW_sbw (nx := 176) (by decide +kernel) ?_
              intro v81 ev81 lv81 uv81
              refine zwW_as Ih71 (a1 := 177) (a2 := 177) (n := 8) (lo := -2147483648) (hi := 2147483647) (nx := 177) (by decide +kernel) (by first | decide | exact ⟨by decide, by decide⟩) (by first | omega | exact ⟨by omega, by omega⟩) (by first | omega | exact ⟨by omega, by omega⟩) ?_
              intro h82 eh82 Ih82
              have N176 : fld h82 176 = fld h71 176 := funext (fun j => fld_oth eh82 (Or.inl (by decide)))
              have Rh82 : zMR ms221 h h82 := Rh71.w (a1 := 177) (a2 := 177) (j1 := 0) (j2 := 8) (by decide +kernel) (by first | decide | exact ⟨by decide, by decide⟩) (by first | omega | exact ⟨by omega, by omega⟩) eh82
              refine zwW_inc (i := 2) (c := 1) (x := mL2) (nx := 180) (by decide +kernel) rfl (by first | omega | exact ⟨by omega, by omega⟩) (ls' := [(2, 37), (0, nL2), (0, (mL2 + 1)), (0, qL2), (0, v5), (1, v54), (9, 0)]) rfl ?_
              refine zwW_p [(1, 1, 0), (1, 0, 2)] (q := 182) (ls' := [(2, 37), (0, nL2), (0, (mL2 + 1)), (0, qL2), (0, v5), (1, v54), (9, 0)]) (st' := [(2, 37), (0, nL2)]) (by decide +kernel) rfl ?_
              refine zwW_gc Ih82 (kd := 13) (bn := 65) (n := 97) (c := 176) (nx := 185) (by decide +kernel) ?_
              refine zwW_p [(1, 3, 0)] (q := 186) (ls' := [(2, 37), (0, nL2), (0, (mL2 + 1)), (0, qL2), (0, v5), (1, v54), (9, 0)]) (st' := [(0, qL2), (2, 176), (0, nL2)]) (by decide +kernel) rfl ?_
              refine zwW_al Ih82 (a1 := 176) (a2 := 176) (kd := 20) (n := 20) (t := 0) (lo := -2147483648) (hi := 2147483647) (nx := 187) (by decide +kernel) (by first | decide | exact ⟨by decide, by decide⟩) (by first | omega | exact ⟨by omega, by omega⟩) ?_
              intro v83 ev83 lv83 uv83
              refine zwW_adw (nx := 188) (by decide +kernel) ?_
              intro v84 ev84 lv84 uv84
              refine zwW_p [(2, 1, 0)] (q := 189) (ls' := [(2, 37), (0, v84), (0, (mL2 + 1)), (0, qL2), (0, v5), (1, v54), (9, 0)]) (st' := []) (by decide +kernel) rfl ?_
              refine zwW_inc (i := 3) (c := 1) (x := qL2) (nx := 192) (by decide +kernel) rfl (by first | omega | exact ⟨by omega, by omega⟩) (ls' := [(2, 37), (0, v84), (0, (mL2 + 1)), (0, (qL2 + 1)), (0, v5), (1, v54), (9, 0)]) rfl ?_
              refine zwW_p [(24, 9, 0)] (q := 9) (ls' := [(2, 37), (0, v84), (0, (mL2 + 1)), (0, (qL2 + 1)), (0, v5), (1, v54), (9, 0)]) (st' := []) (by decide +kernel) rfl ?_
              exact IHL2 ((100 - (qL2 + 1))).toNat (by omega) v84 (mL2 + 1) (qL2 + 1) (0, v5) (1, v54) (9, 0) h82 rfl (by omega) (by omega) (by omega) (by rw [show (qL2 + 1).toNat = (qL2).toNat + 1 by omega]; first | (rw [N176, S132, if_neg (by omega), N132]; omega) | (rw [S132, if_pos (by omega), N132]; omega)) Ih82 Rh82
            · refine zwW_p [(24, 189, 0)] (q := 189) (ls' := [(2, 37), (0, nL2), (0, mL2), (0, qL2), (0, v5), (1, v54), (9, 0)]) (st' := []) (by decide +kernel) rfl ?_
              refine zwW_inc (i := 3) (c := 1) (x := qL2) (nx := 192) (by decide +kernel) rfl (by first | omega | exact ⟨by omega, by omega⟩) (ls' := [(2, 37), (0, nL2), (0, mL2), (0, (qL2 + 1)), (0, v5), (1, v54), (9, 0)]) rfl ?_
              refine zwW_p [(24, 9, 0)] (q := 9) (ls' := [(2, 37), (0, nL2), (0, mL2), (0, (qL2 + 1)), (0, v5), (1, v54), (9, 0)]) (st' := []) (by decide +kernel) rfl ?_
              exact IHL2 ((100 - (qL2 + 1))).toNat (by omega) nL2 mL2 (qL2 + 1) (0, v5) (1, v54) (9, 0) h71 rfl (by omega) (by omega) (by omega) (by rw [show (qL2 + 1).toNat = (qL2).toNat + 1 by omega]; first | (rw [N176, S132, if_neg (by omega), N132]; omega) | (rw [S132, if_pos (by omega), N132]; omega)) Ih71 Rh71
  exact L2 _ 0 v1 0 (9, 0) (9, 0) (9, 0) h rfl (by omega) (by omega) (by omega) (by show _ = _ + 0; omega) I R
def ms194 : Zms := [(37, 37, 64, 65), (37, 37, 71, 72), (66, 66, 0, 8), (95, 95, 0, 20), (170, 170, 0, 300), (171, 171, 0, 300), (172, 172, 0, 300), (173, 173, 0, 300), (174, 174, 0, 300), (175, 175, 0, 300), (176, 176, 0, 20), (177, 177, 0, 8), (178, 178, 0, 20), (179, 179, 0, 20), (206, 361, 0, 6)]
-- WheelLandModel.lays()V
theorem m194 {sc : List Int} (h : Hp) (I : zI h) (p1 : fld h 37 0 ≤ 155) (hA : zAM h) : zwC sc 3 194 [(2, 37)] h (zwRv (fun g => zI g ∧ zMR ms194 h g)) := by
  refine zwC_of (D := 2) 3 (by decide +kernel) rfl (ls := [(2, 37), (9, 0), (9, 0)]) rfl ?_
  have R : zMR ms194 h h := zMR.rf _ _
  have B0 := I.b (a1 := 37) (a2 := 37) (j1 := 2) (j2 := 3) (lo := 0) (hi := 20) (by decide +kernel) (r := 37) (j := 2) (by decide) (by decide) (by decide) (by decide)
  refine zwW_p [(1, 0, 2)] (q := 1) (ls' := [(2, 37), (9, 0), (9, 0)]) (st' := [(2, 37)]) (by decide +kernel) rfl ?_
  refine zwW_cmv I (op := 60) (k' := 220) (n := 0) (kd := 13) (m := 97) (nx := 4) (r := 37) (tl := []) (st' := []) (by decide +kernel) rfl (by decide +kernel) rfl (m220 h I) ?_
  rintro h1 ⟨Ih1, Qh1⟩
  have Rh1 : zMR ms194 h h1 := R.tr Qh1 (by decide +kernel)
  have th1_37_0 : fld h1 37 0 = fld h 37 0 := Qh1.f (a1 := 37) (a2 := 37) (j1 := 0) (j2 := 1) (by decide +kernel) (by first | decide | exact ⟨by decide, by decide⟩) (by first | decide | exact ⟨by decide, by decide⟩)
  have th1_37_64 : fld h1 37 64 = fld h 37 64 := Qh1.f (a1 := 37) (a2 := 37) (j1 := 64) (j2 := 65) (by decide +kernel) (by first | decide | exact ⟨by decide, by decide⟩) (by first | decide | exact ⟨by decide, by decide⟩)
  have H4 := Rh1.f (a1 := 37) (a2 := 37) (j1 := 2) (j2 := 3) (by decide +kernel) (r := 37) (j := 2) (by first | decide | exact ⟨by decide, by decide⟩) (by first | decide | exact ⟨by decide, by decide⟩)
  refine zwW_p [(1, 0, 2)] (q := 5) (ls' := [(2, 37), (9, 0), (9, 0)]) (st' := [(2, 37)]) (by decide +kernel) rfl ?_
  refine zwW_cm Ih1 (op := 60) (k' := 221) (n := 0) (kd := 13) (m := 97) (nx := 8) (r := 37) (tl := []) (st' := []) (by decide +kernel) rfl (by decide +kernel) rfl (m221 h1 Ih1 (hA.mr Rh1 (by decide +kernel) (by omega))) ?_
  rintro v2 h5 ⟨Ih5, Qh5, f3, f4⟩
  have Rh5 : zMR ms194 h h5 := Rh1.tr Qh5 (by decide +kernel)
  have th5_37_0 : fld h5 37 0 = fld h1 37 0 := Qh5.f (a1 := 37) (a2 := 37) (j1 := 0) (j2 := 1) (by decide +kernel) (by first | decide | exact ⟨by decide, by decide⟩) (by first | decide | exact ⟨by decide, by decide⟩)
  have th5_37_64 : fld h5 37 64 = fld h1 37 64 := Qh5.f (a1 := 37) (a2 := 37) (j1 := 64) (j2 := 65) (by decide +kernel) (by first | decide | exact ⟨by decide, by decide⟩) (by first | decide | exact ⟨by decide, by decide⟩)
  have Z8 : zNZ (fld h5 176) (fld h 37 2).toNat ≤ 300 - fld h 37 64 := by have := f4; rw [H4] at this; omega
  refine zwW_p [(2, 1, 0), (1, 0, 2)] (q := 10) (ls' := [(2, 37), (0, v2), (9, 0)]) (st' := [(2, 37)]) (by decide +kernel) rfl ?_
  refine zwW_gc Ih5 (kd := 13) (bn := 91) (n := 97) (c := 205) (nx := 13) (by decide +kernel) ?_
  refine zwW_p [(1, 0, 2)] (q := 14) (ls' := [(2, 37), (0, v2), (9, 0)]) (st' := [(2, 37), (2, 205)]) (by decide +kernel) rfl ?_
  refine zwW_gs Ih5 (kd := 13) (bn := 0) (n := 97) (t := 0) (lo := 0) (hi := 156) (nx := 17) (by decide +kernel) ?_
  intro v6 ev6 lv6 uv6
  refine zwW_ro Ih5 (a := 205) (n := 156) (kd := 26) (base := 206) (step := 1) (nx := 18) (by decide +kernel) rfl (by first | omega | exact ⟨by omega, by omega⟩) ?_
  rw [show ((206 : Nat) : Int) + ((1 : Nat) : Int) * v6 = (206 + v6) by omega]
  refine zwW_p [(0, 1, 0), (1, 1, 0)] (q := 20) (ls' := [(2, 37), (0, v2), (9, 0)]) (st' := [(0, v2), (0, 1), (2, (206 + v6))]) (by decide +kernel) rfl ?_
  refine zwW_as Ih5 (a1 := 206) (a2 := 361) (n := 6) (lo := -2147483648) (hi := 2147483647) (nx := 21) (by decide +kernel) (by first | omega | exact ⟨by omega, by omega⟩) (by first | decide | exact ⟨by decide, by decide⟩) (by first | omega | exact ⟨by omega, by omega⟩) ?_
  intro h7 eh7 Ih7
  have th7_37_0 : fld h7 37 0 = fld h5 37 0 := by rw [eh7]; exact fld_wr (by omega)
  have th7_37_64 : fld h7 37 64 = fld h5 37 64 := by rw [eh7]; exact fld_wr (by omega)
  have Kh7_176 : fld h7 176 = fld h5 176 := (funext fun j => fld_oth eh7 (Or.inl (by omega))).trans rfl
  have Rh7 : zMR ms194 h h7 := Rh5.w (a1 := 206) (a2 := 361) (j1 := 0) (j2 := 6) (by decide +kernel) (by first | omega | exact ⟨by omega, by omega⟩) (by first | decide | exact ⟨by decide, by decide⟩) eh7
  refine zwW_p [(1, 0, 2), (12, 0, 0)] (q := 23) (ls' := [(2, 37), (0, v2), (9, 0)]) (st' := [(2, 37), (2, 37)]) (by decide +kernel) rfl ?_
  refine zwW_gs Ih7 (kd := 13) (bn := 71) (n := 97) (t := 0) (lo := -2147483648) (hi := 2147483647) (nx := 26) (by decide +kernel) ?_
  intro v8 ev8 lv8 uv8
  refine zwW_p [(1, 1, 0)] (q := 27) (ls' := [(2, 37), (0, v2), (9, 0)]) (st' := [(0, v2), (0, v8), (2, 37)]) (by decide +kernel) rfl ?_
  refine zwW_adw (nx := 28) (by decide +kernel) ?_
  intro v9 ev9 lv9 uv9
  refine zwW_ps Ih7 (kd := 13) (bn := 71) (n := 97) (lo := -2147483648) (hi := 2147483647) (nx := 31) (by decide +kernel) (by first | omega | exact ⟨by omega, by omega⟩) ?_
  intro h10 eh10 Ih10
  have th10_37_0 : fld h10 37 0 = fld h7 37 0 := by rw [eh10]; exact fld_wr (by decide)
  have th10_37_64 : fld h10 37 64 = fld h7 37 64 := by rw [eh10]; exact fld_wr (by decide)
  have Kh10_176 : fld h10 176 = fld h5 176 := (funext fun j => fld_oth eh10 (Or.inl (by omega))).trans Kh7_176
  have Rh10 : zMR ms194 h h10 := Rh7.w (a1 := 37) (a2 := 37) (j1 := 71) (j2 := 72) (by decide +kernel) (by first | decide | exact ⟨by decide, by decide⟩) (by first | decide | exact ⟨by decide, by decide⟩) eh10
  refine zwW_p [(0, 0, 0), (2, 2, 0)] (q := 33) (ls' := [(2, 37), (0, v2), (0, 0)]) (st' := []) (by decide +kernel) rfl ?_
  have L11 : ∀ (n : Nat) (vL11 : Int) (hL11 : Hp), n = ((100 - vL11)).toNat → (0 ≤ vL11 ∧ vL11 ≤ 8) → (fld hL11 37 0 = fld h 37 0) → (fld hL11 37 64 = fld h 37 64) → (fld hL11 176 = fld h5 176) → zI hL11 → zMR ms194 h hL11 → zwW sc (2) 194 33 [(2, 37), (0, v2), (0, vL11)] [] hL11 (zwRv (fun g => zI g ∧ zMR ms194 h g)) := by
    intro n
    induction n using Nat.strongRecOn with
    | ind n IHL11 =>
      intro vL11 hL11 hnL11 iL11_0 iL11_1 iL11_2 iL11_3 IhL11 RhL11
      refine zwW_p [(1, 2, 0), (1, 0, 2)] (q := 35) (ls' := [(2, 37), (0, v2), (0, vL11)]) (st' := [(2, 37), (0, vL11)]) (by decide +kernel) rfl ?_
      refine zwW_gs IhL11 (kd := 13) (bn := 1) (n := 97) (t := 0) (lo := 0) (hi := 8) (nx := 38) (by decide +kernel) ?_
      intro v12 ev12 lv12 uv12
      refine zwic_ge (q := 59) (nx := 41) (by decide +kernel) (fun c13 => ?_) (fun c13 => ?_)
      · refine zwW_p [(0, 0, 0), (2, 2, 0)] (q := 61) (ls' := [(2, 37), (0, v2), (0, 0)]) (st' := []) (by decide +kernel) rfl ?_
        have L14 : ∀ (n : Nat) (qL14 : Int) (hL14 : Hp), n = ((100 - qL14)).toNat → (0 ≤ qL14 ∧ qL14 ≤ fld h 37 2) → (fld hL14 37 0 = fld h 37 0) → (fld hL14 37 64 = fld h 37 64 + zNZ (fld h5 176) (qL14).toNat) → (fld hL14 176 = fld h5 176) → zI hL14 → zMR ms194 h hL14 → zwW sc (2) 194 61 [(2, 37), (0, v2), (0, qL14)] [] hL14 (zwRv (fun g => zI g ∧ zMR ms194 h g)) := by
          intro n
          induction n using Nat.strongRecOn with
          | ind n IHL14 =>
            intro qL14 hL14 hnL14 iL14_0 iL14_1 iL14_2 iL14_3 IhL14 RhL14
            refine zwW_p [(1, 2, 0), (1, 0, 2)] (q := 63) (ls' := [(2, 37), (0, v2), (0, qL14)]) (st' := [(2, 37), (0, qL14)]) (by decide +kernel) rfl ?_
            refine zwW_gs IhL14 (kd := 13) (bn := 2) (n := 97) (t := 0) (lo := 0) (hi := 20) (nx := 66) (by decide +kernel) ?_
            intro v15 ev15 lv15 uv15
            refine zwic_ge (q := 233) (nx := 69) (by decide +kernel) (fun c16 => ?_) (fun c16 => ?_)
            · refine zwW_retv (nx := 234) (a := 0) (b := 0) (by decide +kernel) ?_
              exact ⟨IhL14, RhL14⟩
            · have H69 := RhL14.f (a1 := 37) (a2 := 37) (j1 := 2) (j2 := 3) (by decide +kernel) (r := 37) (j := 2) (by first | decide | exact ⟨by decide, by decide⟩) (by first | decide | exact ⟨by decide, by decide⟩)
              refine zwW_p [(1, 0, 2)] (q := 70) (ls' := [(2, 37), (0, v2), (0, qL14)]) (st' := [(2, 37)]) (by decide +kernel) rfl ?_
              refine zwW_gc IhL14 (kd := 13) (bn := 36) (n := 97) (c := 95) (nx := 73) (by decide +kernel) ?_
              refine zwW_p [(1, 2, 0), (14, 0, 0)] (q := 75) (ls' := [(2, 37), (0, v2), (0, qL14)]) (st' := [(0, qL14), (2, 95), (0, qL14), (2, 95)]) (by decide +kernel) rfl ?_
              refine zwW_al IhL14 (a1 := 95) (a2 := 95) (kd := 20) (n := 20) (t := 0) (lo := -2147483648) (hi := 2147483647) (nx := 76) (by decide +kernel) (by first | decide | exact ⟨by decide, by decide⟩) (by first | omega | exact ⟨by omega, by omega⟩) ?_
              intro v17 ev17 lv17 uv17
              refine zwW_p [(1, 0, 2)] (q := 77) (ls' := [(2, 37), (0, v2), (0, qL14)]) (st' := [(2, 37), (0, v17), (0, qL14), (2, 95)]) (by decide +kernel) rfl ?_
              refine zwW_gc IhL14 (kd := 13) (bn := 21) (n := 97) (c := 80) (nx := 80) (by decide +kernel) ?_
              refine zwW_p [(1, 2, 0)] (q := 81) (ls' := [(2, 37), (0, v2), (0, qL14)]) (st' := [(0, qL14), (2, 80), (0, v17), (0, qL14), (2, 95)]) (by decide +kernel) rfl ?_
              refine zwW_al IhL14 (a1 := 80) (a2 := 80) (kd := 20) (n := 20) (t := 0) (lo := 0) (hi := 5) (nx := 82) (by decide +kernel) (by first | decide | exact ⟨by decide, by decide⟩) (by first | omega | exact ⟨by omega, by omega⟩) ?_
              intro v18 ev18 lv18 uv18
              refine zwW_p [(1, 0, 2)] (q := 83) (ls' := [(2, 37), (0, v2), (0, qL14)]) (st' := [(2, 37), (0, v18), (0, v17), (0, qL14), (2, 95)]) (by decide +kernel) rfl ?_
              refine zwW_gc IhL14 (kd := 13) (bn := 3) (n := 97) (c := 38) (nx := 86) (by decide +kernel) ?_
              refine zwW_p [(1, 0, 2)] (q := 87) (ls' := [(2, 37), (0, v2), (0, qL14)]) (st' := [(2, 37), (2, 38), (0, v18), (0, v17), (0, qL14), (2, 95)]) (by decide +kernel) rfl ?_
              refine zwW_gc IhL14 (kd := 13) (bn := 20) (n := 97) (c := 79) (nx := 90) (by decide +kernel) ?_
              refine zwW_p [(1, 2, 0)] (q := 91) (ls' := [(2, 37), (0, v2), (0, qL14)]) (st' := [(0, qL14), (2, 79), (2, 38), (0, v18), (0, v17), (0, qL14), (2, 95)]) (by decide +kernel) rfl ?_
              refine zwW_al IhL14 (a1 := 79) (a2 := 79) (kd := 20) (n := 20) (t := 0) (lo := 0) (hi := 7) (nx := 92) (by decide +kernel) (by first | decide | exact ⟨by decide, by decide⟩) (by first | omega | exact ⟨by omega, by omega⟩) ?_
              intro v19 ev19 lv19 uv19
              refine zwW_ro IhL14 (a := 38) (n := 8) (kd := 26) (base := 39) (step := 1) (nx := 93) (by decide +kernel) rfl (by first | omega | exact ⟨by omega, by omega⟩) ?_
              rw [show ((39 : Nat) : Int) + ((1 : Nat) : Int) * v19 = (39 + v19) by omega]
              refine zwW_p [(1, 0, 2)] (q := 94) (ls' := [(2, 37), (0, v2), (0, qL14)]) (st' := [(2, 37), (2, (39 + v19)), (0, v18), (0, v17), (0, qL14), (2, 95)]) (by decide +kernel) rfl ?_
              refine zwW_gs IhL14 (kd := 13) (bn := 0) (n := 97) (t := 0) (lo := 0) (hi := 156) (nx := 97) (by decide +kernel) ?_
              intro v20 ev20 lv20 uv20
              refine zwW_cs (k' := 174) (n := 1) (nx := 100) (as := [(0, v20)]) (st' := [(2, (39 + v19)), (0, v18), (0, v17), (0, qL14), (2, 95)]) (by decide +kernel) rfl (m174 hL14 v20 (by omega) (by omega)) rfl ?_
              rintro v21 _ ⟨rfl, f22, f23, f24, f25⟩
              refine zwW_al IhL14 (a1 := 39) (a2 := 46) (kd := 20) (n := 4) (t := 0) (lo := 0) (hi := 40) (nx := 101) (by decide +kernel) (by first | omega | exact ⟨by omega, by omega⟩) (by first | omega | exact ⟨by omega, by omega⟩) ?_
              intro v26 ev26 lv26 uv26
              refine zwW_mulp (A := 5) (B := 40) (nx := 102) (by decide +kernel) (by first | omega | exact ⟨by omega, by omega⟩) (by first | omega | exact ⟨by omega, by omega⟩) (by decide) ?_
              intro v27 ev27 lv27 uv27
              refine zwW_p [(0, 10, 0), (1, 0, 2)] (q := 105) (ls' := [(2, 37), (0, v2), (0, qL14)]) (st' := [(2, 37), (0, 10), (0, v27), (0, v17), (0, qL14), (2, 95)]) (by decide +kernel) rfl ?_
              refine zwW_gc IhL14 (kd := 13) (bn := 22) (n := 97) (c := 81) (nx := 108) (by decide +kernel) ?_
              refine zwW_p [(1, 2, 0)] (q := 109) (ls' := [(2, 37), (0, v2), (0, qL14)]) (st' := [(0, qL14), (2, 81), (0, 10), (0, v27), (0, v17), (0, qL14), (2, 95)]) (by decide +kernel) rfl ?_
              refine zwW_al IhL14 (a1 := 81) (a2 := 81) (kd := 20) (n := 20) (t := 0) (lo := 0) (hi := 9) (nx := 110) (by decide +kernel) (by first | decide | exact ⟨by decide, by decide⟩) (by first | omega | exact ⟨by omega, by omega⟩) ?_
              intro v28 ev28 lv28 uv28
              refine zwW_add (nx := 111) (by decide +kernel) (by first | omega | exact ⟨by omega, by omega⟩) ?_
              refine zwW_mulp (A := 200) (B := 19) (nx := 112) (by decide +kernel) (by first | omega | exact ⟨by omega, by omega⟩) (by first | omega | exact ⟨by omega, by omega⟩) (by decide) ?_
              intro v29 ev29 lv29 uv29
              refine zwW_p [(0, 24, 0)] (q := 114) (ls' := [(2, 37), (0, v2), (0, qL14)]) (st' := [(0, 24), (0, v29), (0, v17), (0, qL14), (2, 95)]) (by decide +kernel) rfl ?_
              refine zwW_div (nx := 115) (by decide +kernel) (by omega) (by omega) (by omega) ?_
              refine zwW_adw (nx := 116) (by decide +kernel) ?_
              intro v30 ev30 lv30 uv30
              refine zwW_as IhL14 (a1 := 95) (a2 := 95) (n := 20) (lo := -2147483648) (hi := 2147483647) (nx := 117) (by decide +kernel) (by first | decide | exact ⟨by decide, by decide⟩) (by first | omega | exact ⟨by omega, by omega⟩) (by first | omega | exact ⟨by omega, by omega⟩) ?_
              intro h31 eh31 Ih31
              have th31_37_0 : fld h31 37 0 = fld hL14 37 0 := by rw [eh31]; exact fld_wr (by omega)
              have th31_37_64 : fld h31 37 64 = fld hL14 37 64 := by rw [eh31]; exact fld_wr (by omega)
              have Kh31_176 : fld h31 176 = fld h5 176 := (funext fun j => fld_oth eh31 (Or.inl (by omega))).trans iL14_3
              have Rh31 : zMR ms194 h h31 := RhL14.w (a1 := 95) (a2 := 95) (j1 := 0) (j2 := 20) (by decide +kernel) (by first | decide | exact ⟨by decide, by decide⟩) (by first | omega | exact ⟨by omega, by omega⟩) eh31
              refine zwW_p [(1, 0, 2)] (q := 118) (ls' := [(2, 37), (0, v2), (0, qL14)]) (st' := [(2, 37)]) (by decide +kernel) rfl ?_
              refine zwW_gc Ih31 (kd := 13) (bn := 65) (n := 97) (c := 176) (nx := 121) (by decide +kernel) ?_
              refine zwW_p [(1, 2, 0)] (q := 122) (ls' := [(2, 37), (0, v2), (0, qL14)]) (st' := [(0, qL14), (2, 176)]) (by decide +kernel) rfl ?_
              refine zwW_al Ih31 (a1 := 176) (a2 := 176) (kd := 20) (n := 20) (t := 0) (lo := -2147483648) (hi := 2147483647) (nx := 123) (by decide +kernel) (by first | decide | exact ⟨by decide, by decide⟩) (by first | omega | exact ⟨by omega, by omega⟩) ?_
              intro v32 ev32 lv32 uv32
              refine zwif_ne (q := 129) (nx := 126) (by decide +kernel) (fun c33 => ?_) (fun c33 => ?_)
              · have K129 := congrFun Kh31_176 (qL14).toNat
                have S129 : zNZ (fld h5 176) ((qL14).toNat + 1) = zNZ (fld h5 176) (qL14).toNat + (if fld h5 176 (qL14).toNat = 0 then 0 else 1) := rfl
                rw [if_neg (by omega)] at S129
                have M129 := zNZ_le (fld h5 176) ((qL14).toNat + 1) ((fld h 37 2).toNat - ((qL14).toNat + 1))
                rw [show (qL14).toNat + 1 + ((fld h 37 2).toNat - ((qL14).toNat + 1)) = (fld h 37 2).toNat by omega] at M129
                refine zwW_p [(1, 0, 2)] (q := 130) (ls' := [(2, 37), (0, v2), (0, qL14)]) (st' := [(2, 37)]) (by decide +kernel) rfl ?_
                refine zwW_gc Ih31 (kd := 13) (bn := 58) (n := 97) (c := 170) (nx := 133) (by decide +kernel) ?_
                refine zwW_p [(1, 0, 2)] (q := 134) (ls' := [(2, 37), (0, v2), (0, qL14)]) (st' := [(2, 37), (2, 170)]) (by decide +kernel) rfl ?_
                refine zwW_gs Ih31 (kd := 13) (bn := 64) (n := 97) (t := 0) (lo := 0) (hi := 300) (nx := 137) (by decide +kernel) ?_
                intro v34 ev34 lv34 uv34
                refine zwW_p [(1, 2, 0)] (q := 138) (ls' := [(2, 37), (0, v2), (0, qL14)]) (st' := [(0, qL14), (0, v34), (2, 170)]) (by decide +kernel) rfl ?_
                refine zwW_as Ih31 (a1 := 170) (a2 := 170) (n := 300) (lo := 0) (hi := 19) (nx := 139) (by decide +kernel) (by first | decide | exact ⟨by decide, by decide⟩) (by first | omega | exact ⟨by omega, by omega⟩) (by first | omega | exact ⟨by omega, by omega⟩) ?_
                intro h35 eh35 Ih35
                have th35_37_0 : fld h35 37 0 = fld h31 37 0 := by rw [eh35]; exact fld_wr (by omega)
                have th35_37_64 : fld h35 37 64 = fld h31 37 64 := by rw [eh35]; exact fld_wr (by omega)
                have Kh35_176 : fld h35 176 = fld h5 176 := (funext fun j => fld_oth eh35 (Or.inl (by omega))).trans Kh31_176
                have Rh35 : zMR ms194 h h35 := Rh31.w (a1 := 170) (a2 := 170) (j1 := 0) (j2 := 300) (by decide +kernel) (by first | decide | exact ⟨by decide, by decide⟩) (by first | omega | exact ⟨by omega, by omega⟩) eh35
                refine zwW_p [(1, 0, 2)] (q := 140) (ls' := [(2, 37), (0, v2), (0, qL14)]) (st' := [(2, 37)]) (by decide +kernel) rfl ?_
                refine zwW_gc Ih35 (kd := 13) (bn := 59) (n := 97) (c := 171) (nx := 143) (by decide +kernel) ?_
                refine zwW_p [(1, 0, 2)] (q := 144) (ls' := [(2, 37), (0, v2), (0, qL14)]) (st' := [(2, 37), (2, 171)]) (by decide +kernel) rfl ?_
                refine zwW_gs Ih35 (kd := 13) (bn := 64) (n := 97) (t := 0) (lo := 0) (hi := 300) (nx := 147) (by decide +kernel) ?_
                intro v36 ev36 lv36 uv36
                refine zwW_p [(1, 0, 2)] (q := 148) (ls' := [(2, 37), (0, v2), (0, qL14)]) (st' := [(2, 37), (0, v36), (2, 171)]) (by decide +kernel) rfl ?_
                refine zwW_gs Ih35 (kd := 13) (bn := 0) (n := 97) (t := 0) (lo := 0) (hi := 156) (nx := 151) (by decide +kernel) ?_
                intro v37 ev37 lv37 uv37
                refine zwW_as Ih35 (a1 := 171) (a2 := 171) (n := 300) (lo := -2147483648) (hi := 2147483647) (nx := 152) (by decide +kernel) (by first | decide | exact ⟨by decide, by decide⟩) (by first | omega | exact ⟨by omega, by omega⟩) (by first | omega | exact ⟨by omega, by omega⟩) ?_
                intro h38 eh38 Ih38
                have th38_37_0 : fld h38 37 0 = fld h35 37 0 := by rw [eh38]; exact fld_wr (by omega)
                have th38_37_64 : fld h38 37 64 = fld h35 37 64 := by rw [eh38]; exact fld_wr (by omega)
                have Kh38_176 : fld h38 176 = fld h5 176 := (funext fun j => fld_oth eh38 (Or.inl (by omega))).trans Kh35_176
                have Rh38 : zMR ms194 h h38 := Rh35.w (a1 := 171) (a2 := 171) (j1 := 0) (j2 := 300) (by decide +kernel) (by first | decide | exact ⟨by decide, by decide⟩) (by first | omega | exact ⟨by omega, by omega⟩) eh38
                refine zwW_p [(1, 0, 2)] (q := 153) (ls' := [(2, 37), (0, v2), (0, qL14)]) (st' := [(2, 37)]) (by decide +kernel) rfl ?_
                refine zwW_gc Ih38 (kd := 13) (bn := 60) (n := 97) (c := 172) (nx := 156) (by decide +kernel) ?_
                refine zwW_p [(1, 0, 2)] (q := 157) (ls' := [(2, 37), (0, v2), (0, qL14)]) (st' := [(2, 37), (2, 172)]) (by decide +kernel) rfl ?_
                refine zwW_gs Ih38 (kd := 13) (bn := 64) (n := 97) (t := 0) (lo := 0) (hi := 300) (nx := 160) (by decide +kernel) ?_
                intro v39 ev39 lv39 uv39
                refine zwW_p [(1, 0, 2)] (q := 161) (ls' := [(2, 37), (0, v2), (0, qL14)]) (st' := [(2, 37), (0, v39), (2, 172)]) (by decide +kernel) rfl ?_
                refine zwW_gc Ih38 (kd := 13) (bn := 26) (n := 97) (c := 85) (nx := 164) (by decide +kernel) ?_
                refine zwW_p [(1, 2, 0)] (q := 165) (ls' := [(2, 37), (0, v2), (0, qL14)]) (st' := [(0, qL14), (2, 85), (0, v39), (2, 172)]) (by decide +kernel) rfl ?_
                refine zwW_al Ih38 (a1 := 85) (a2 := 85) (kd := 20) (n := 20) (t := 0) (lo := 0) (hi := 60) (nx := 166) (by decide +kernel) (by first | decide | exact ⟨by decide, by decide⟩) (by first | omega | exact ⟨by omega, by omega⟩) ?_
                intro v40 ev40 lv40 uv40
                refine zwW_as Ih38 (a1 := 172) (a2 := 172) (n := 300) (lo := -2147483648) (hi := 2147483647) (nx := 167) (by decide +kernel) (by first | decide | exact ⟨by decide, by decide⟩) (by first | omega | exact ⟨by omega, by omega⟩) (by first | omega | exact ⟨by omega, by omega⟩) ?_
                intro h41 eh41 Ih41
                have th41_37_0 : fld h41 37 0 = fld h38 37 0 := by rw [eh41]; exact fld_wr (by omega)
                have th41_37_64 : fld h41 37 64 = fld h38 37 64 := by rw [eh41]; exact fld_wr (by omega)
                have Kh41_176 : fld h41 176 = fld h5 176 := (funext fun j => fld_oth eh41 (Or.inl (by omega))).trans Kh38_176
                have Rh41 : zMR ms194 h h41 := Rh38.w (a1 := 172) (a2 := 172) (j1 := 0) (j2 := 300) (by decide +kernel) (by first | decide | exact ⟨by decide, by decide⟩) (by first | omega | exact ⟨by omega, by omega⟩) eh41
                refine zwW_p [(1, 0, 2)] (q := 168) (ls' := [(2, 37), (0, v2), (0, qL14)]) (st' := [(2, 37)]) (by decide +kernel) rfl ?_
                refine zwW_gc Ih41 (kd := 13) (bn := 61) (n := 97) (c := 173) (nx := 171) (by decide +kernel) ?_
                refine zwW_p [(1, 0, 2)] (q := 172) (ls' := [(2, 37), (0, v2), (0, qL14)]) (st' := [(2, 37), (2, 173)]) (by decide +kernel) rfl ?_
                refine zwW_gs Ih41 (kd := 13) (bn := 64) (n := 97) (t := 0) (lo := 0) (hi := 300) (nx := 175) (by decide +kernel) ?_
                intro v42 ev42 lv42 uv42
                refine zwW_p [(1, 0, 2), (1, 2, 0), (1, 0, 2)] (q := 178) (ls' := [(2, 37), (0, v2), (0, qL14)]) (st' := [(2, 37), (0, qL14), (2, 37), (0, v42), (2, 173)]) (by decide +kernel) rfl ?_
                refine zwW_gc Ih41 (kd := 13) (bn := 22) (n := 97) (c := 81) (nx := 181) (by decide +kernel) ?_
                refine zwW_p [(1, 2, 0)] (q := 182) (ls' := [(2, 37), (0, v2), (0, qL14)]) (st' := [(0, qL14), (2, 81), (0, qL14), (2, 37), (0, v42), (2, 173)]) (by decide +kernel) rfl ?_
                refine zwW_al Ih41 (a1 := 81) (a2 := 81) (kd := 20) (n := 20) (t := 0) (lo := 0) (hi := 9) (nx := 183) (by decide +kernel) (by first | decide | exact ⟨by decide, by decide⟩) (by first | omega | exact ⟨by omega, by omega⟩) ?_
                intro v43 ev43 lv43 uv43
                refine zwW_cm Ih41 (op := 60) (k' := 175) (n := 2) (kd := 13) (m := 97) (nx := 186) (r := 37) (tl := [(0, qL14), (0, v43)]) (st' := [(0, v42), (2, 173)]) (by decide +kernel) rfl (by decide +kernel) rfl (m175 h41 Ih41 qL14 v43 (by omega) (by omega)) ?_
                rintro v44 _ ⟨rfl, f45, f46⟩
                refine zwW_as Ih41 (a1 := 173) (a2 := 173) (n := 300) (lo := -2147483648) (hi := 2147483647) (nx := 187) (by decide +kernel) (by first | decide | exact ⟨by decide, by decide⟩) (by first | omega | exact ⟨by omega, by omega⟩) (by first | omega | exact ⟨by omega, by omega⟩) ?_
                intro h47 eh47 Ih47
                have th47_37_0 : fld h47 37 0 = fld h41 37 0 := by rw [eh47]; exact fld_wr (by omega)
                have th47_37_64 : fld h47 37 64 = fld h41 37 64 := by rw [eh47]; exact fld_wr (by omega)
                have Kh47_176 : fld h47 176 = fld h5 176 := (funext fun j => fld_oth eh47 (Or.inl (by omega))).trans Kh41_176
                have Rh47 : zMR ms194 h h47 := Rh41.w (a1 := 173) (a2 := 173) (j1 := 0) (j2 := 300) (by decide +kernel) (by first | decide | exact ⟨by decide, by decide⟩) (by first | omega | exact ⟨by omega, by omega⟩) eh47
                refine zwW_p [(1, 0, 2)] (q := 188) (ls' := [(2, 37), (0, v2), (0, qL14)]) (st' := [(2, 37)]) (by decide +kernel) rfl ?_
                refine zwW_gc Ih47 (kd := 13) (bn := 62) (n := 97) (c := 174) (nx := 191) (by decide +kernel) ?_
                refine zwW_p [(1, 0, 2)] (q := 192) (ls' := [(2, 37), (0, v2), (0, qL14)]) (st' := [(2, 37), (2, 174)]) (by decide +kernel) rfl ?_
                refine zwW_gs Ih47 (kd := 13) (bn := 64) (n := 97) (t := 0) (lo := 0) (hi := 300) (nx := 195) (by decide +kernel) ?_
                intro v48 ev48 lv48 uv48
                refine zwW_p [(1, 0, 2)] (q := 196) (ls' := [(2, 37), (0, v2), (0, qL14)]) (st' := [(2, 37), (0, v48), (2, 174)]) (by decide +kernel) rfl ?_
                refine zwW_gc Ih47 (kd := 13) (bn := 65) (n := 97) (c := 176) (nx := 199) (by decide +kernel) ?_
                refine zwW_p [(1, 2, 0)] (q := 200) (ls' := [(2, 37), (0, v2), (0, qL14)]) (st' := [(0, qL14), (2, 176), (0, v48), (2, 174)]) (by decide +kernel) rfl ?_
                refine zwW_al Ih47 (a1 := 176) (a2 := 176) (kd := 20) (n := 20) (t := 0) (lo := -2147483648) (hi := 2147483647) (nx := 201) (by decide +kernel) (by first | decide | exact ⟨by decide, by decide⟩) (by first | omega | exact ⟨by omega, by omega⟩) ?_
                intro v49 ev49 lv49 uv49
                refine zwW_as Ih47 (a1 := 174) (a2 := 174) (n := 300) (lo := -2147483648) (hi := 2147483647) (nx := 202) (by decide +kernel) (by first | decide | exact ⟨by decide, by decide⟩) (by first | omega | exact ⟨by omega, by omega⟩) (by first | omega | exact ⟨by omega, by omega⟩) ?_
                intro h50 eh50 Ih50
                have th50_37_0 : fld h50 37 0 = fld h47 37 0 := by rw [eh50]; exact fld_wr (by omega)
                have th50_37_64 : fld h50 37 64 = fld h47 37 64 := by rw [eh50]; exact fld_wr (by omega)
                have Kh50_176 : fld h50 176 = fld h5 176 := (funext fun j => fld_oth eh50 (Or.inl (by omega))).trans Kh47_176
                have Rh50 : zMR ms194 h h50 := Rh47.w (a1 := 174) (a2 := 174) (j1 := 0) (j2 := 300) (by decide +kernel) (by first | decide | exact ⟨by decide, by decide⟩) (by first | omega | exact ⟨by omega, by omega⟩) eh50
                refine zwW_p [(1, 0, 2)] (q := 203) (ls' := [(2, 37), (0, v2), (0, qL14)]) (st' := [(2, 37)]) (by decide +kernel) rfl ?_
                refine zwW_gc Ih50 (kd := 13) (bn := 63) (n := 97) (c := 175) (nx := 206) (by decide +kernel) ?_
                refine zwW_p [(1, 0, 2)] (q := 207) (ls' := [(2, 37), (0, v2), (0, qL14)]) (st' := [(2, 37), (2, 175)]) (by decide +kernel) rfl ?_
                refine zwW_gs Ih50 (kd := 13) (bn := 64) (n := 97) (t := 0) (lo := 0) (hi := 300) (nx := 210) (by decide +kernel) ?_
                intro v51 ev51 lv51 uv51
                refine zwW_p [(1, 0, 2)] (q := 211) (ls' := [(2, 37), (0, v2), (0, qL14)]) (st' := [(2, 37), (0, v51), (2, 175)]) (by decide +kernel) rfl ?_
                refine zwW_gc Ih50 (kd := 13) (bn := 65) (n := 97) (c := 176) (nx := 214) (by decide +kernel) ?_
                refine zwW_p [(1, 2, 0)] (q := 215) (ls' := [(2, 37), (0, v2), (0, qL14)]) (st' := [(0, qL14), (2, 176), (0, v51), (2, 175)]) (by decide +kernel) rfl ?_
                refine zwW_al Ih50 (a1 := 176) (a2 := 176) (kd := 20) (n := 20) (t := 0) (lo := -2147483648) (hi := 2147483647) (nx := 216) (by decide +kernel) (by first | decide | exact ⟨by decide, by decide⟩) (by first | omega | exact ⟨by omega, by omega⟩) ?_
                intro v52 ev52 lv52 uv52
                refine zwW_as Ih50 (a1 := 175) (a2 := 175) (n := 300) (lo := -2147483648) (hi := 2147483647) (nx := 217) (by decide +kernel) (by first | decide | exact ⟨by decide, by decide⟩) (by first | omega | exact ⟨by omega, by omega⟩) (by first | omega | exact ⟨by omega, by omega⟩) ?_
                intro h53 eh53 Ih53
                have th53_37_0 : fld h53 37 0 = fld h50 37 0 := by rw [eh53]; exact fld_wr (by omega)
                have th53_37_64 : fld h53 37 64 = fld h50 37 64 := by rw [eh53]; exact fld_wr (by omega)
                have Kh53_176 : fld h53 176 = fld h5 176 := (funext fun j => fld_oth eh53 (Or.inl (by omega))).trans Kh50_176
                have Rh53 : zMR ms194 h h53 := Rh50.w (a1 := 175) (a2 := 175) (j1 := 0) (j2 := 300) (by decide +kernel) (by first | decide | exact ⟨by decide, by decide⟩) (by first | omega | exact ⟨by omega, by omega⟩) eh53
                refine zwW_p [(1, 0, 2), (12, 0, 0)] (q := 219) (ls' := [(2, 37), (0, v2), (0, qL14)]) (st' := [(2, 37), (2, 37)]) (by decide +kernel) rfl ?_
                refine zwW_gs Ih53 (kd := 13) (bn := 64) (n := 97) (t := 0) (lo := 0) (hi := 300) (nx := 222) (by decide +kernel) ?_
                intro v54 ev54 lv54 uv54
                refine zwW_p [(0, 1, 0)] (q := 223) (ls' := [(2, 37), (0, v2), (0, qL14)]) (st' := [(0, 1), (0, v54), (2, 37)]) (by decide +kernel) rfl ?_
                refine zwW_add (nx := 224) (by decide +kernel) (by first | omega | exact ⟨by omega, by omega⟩) ?_
                refine zwW_ps Ih53 (kd := 13) (bn := 64) (n := 97) (lo := 0) (hi := 300) (nx := 227) (by decide +kernel) (by first | omega | exact ⟨by omega, by omega⟩) ?_
                intro h55 eh55 Ih55
                have th55_37_0 : fld h55 37 0 = fld h53 37 0 := by rw [eh55]; exact fld_wr (by decide)
                have th55_37_64 : fld h55 37 64 = (v54 + 1) := by rw [eh55]; exact fld_wr_eq (Ih53.s (a1 := 37) (a2 := 37) (k := 13) (n := 97) (by decide +kernel) (by decide) (by decide)) (by decide)
                have Kh55_176 : fld h55 176 = fld h5 176 := (funext fun j => fld_oth eh55 (Or.inl (by omega))).trans Kh53_176
                have Rh55 : zMR ms194 h h55 := Rh53.w (a1 := 37) (a2 := 37) (j1 := 64) (j2 := 65) (by decide +kernel) (by first | decide | exact ⟨by decide, by decide⟩) (by first | decide | exact ⟨by decide, by decide⟩) eh55
                have S227 : zNZ (fld h5 176) ((qL14).toNat + 1) = zNZ (fld h5 176) (qL14).toNat + (if fld h5 176 (qL14).toNat = 0 then 0 else 1) := rfl
                have K227 := congrFun Kh55_176 (qL14).toNat
                refine zwW_inc (i := 2) (c := 1) (x := qL14) (nx := 230) (by decide +kernel) rfl (by first | omega | exact ⟨by omega, by omega⟩) (ls' := [(2, 37), (0, v2), (0, (qL14 + 1))]) rfl ?_
                refine zwW_p [(24, 61, 0)] (q := 61) (ls' := [(2, 37), (0, v2), (0, (qL14 + 1))]) (st' := []) (by decide +kernel) rfl ?_
                exact IHL14 ((100 - (qL14 + 1))).toNat (by omega) (qL14 + 1) h55 rfl (by omega) (by omega) (by rw [show (qL14 + 1).toNat = (qL14).toNat + 1 by omega, S227]; first | (rw [if_neg (by omega)]; omega) | (rw [if_pos (by omega)]; omega)) (Kh55_176) Ih55 Rh55
              · refine zwW_p [(24, 227, 0)] (q := 227) (ls' := [(2, 37), (0, v2), (0, qL14)]) (st' := []) (by decide +kernel) rfl ?_
                have S227 : zNZ (fld h5 176) ((qL14).toNat + 1) = zNZ (fld h5 176) (qL14).toNat + (if fld h5 176 (qL14).toNat = 0 then 0 else 1) := rfl
                have K227 := congrFun Kh31_176 (qL14).toNat
                refine zwW_inc (i := 2) (c := 1) (x := qL14) (nx := 230) (by decide +kernel) rfl (by first | omega | exact ⟨by omega, by omega⟩) (ls' := [(2, 37), (0, v2), (0, (qL14 + 1))]) rfl ?_
                refine zwW_p [(24, 61, 0)] (q := 61) (ls' := [(2, 37), (0, v2), (0, (qL14 + 1))]) (st' := []) (by decide +kernel) rfl ?_
                exact IHL14 ((100 - (qL14 + 1))).toNat (by omega) (qL14 + 1) h31 rfl (by omega) (by omega) (by rw [show (qL14 + 1).toNat = (qL14).toNat + 1 by omega, S227]; first | (rw [if_neg (by omega)]; omega) | (rw [if_pos (by omega)]; omega)) (Kh31_176) Ih31 Rh31
        exact L14 _ 0 hL11 rfl (by omega) (by omega) (by show _ = _ + 0; omega) (iL11_3) IhL11 RhL11
      · refine zwW_p [(1, 0, 2)] (q := 42) (ls' := [(2, 37), (0, v2), (0, vL11)]) (st' := [(2, 37)]) (by decide +kernel) rfl ?_
        refine zwW_gc IhL11 (kd := 13) (bn := 7) (n := 97) (c := 66) (nx := 45) (by decide +kernel) ?_
        refine zwW_p [(1, 2, 0), (1, 0, 2)] (q := 47) (ls' := [(2, 37), (0, v2), (0, vL11)]) (st' := [(2, 37), (0, vL11), (2, 66)]) (by decide +kernel) rfl ?_
        refine zwW_gc IhL11 (kd := 13) (bn := 66) (n := 97) (c := 177) (nx := 50) (by decide +kernel) ?_
        refine zwW_p [(1, 2, 0)] (q := 51) (ls' := [(2, 37), (0, v2), (0, vL11)]) (st' := [(0, vL11), (2, 177), (0, vL11), (2, 66)]) (by decide +kernel) rfl ?_
        refine zwW_al IhL11 (a1 := 177) (a2 := 177) (kd := 20) (n := 8) (t := 0) (lo := -2147483648) (hi := 2147483647) (nx := 52) (by decide +kernel) (by first | decide | exact ⟨by decide, by decide⟩) (by first | omega | exact ⟨by omega, by omega⟩) ?_
        intro v56 ev56 lv56 uv56
        refine zwW_as IhL11 (a1 := 66) (a2 := 66) (n := 8) (lo := -2147483648) (hi := 2147483647) (nx := 53) (by decide +kernel) (by first | decide | exact ⟨by decide, by decide⟩) (by first | omega | exact ⟨by omega, by omega⟩) (by first | omega | exact ⟨by omega, by omega⟩) ?_
        intro h57 eh57 Ih57
        have th57_37_0 : fld h57 37 0 = fld hL11 37 0 := by rw [eh57]; exact fld_wr (by omega)
        have th57_37_64 : fld h57 37 64 = fld hL11 37 64 := by rw [eh57]; exact fld_wr (by omega)
        have Kh57_176 : fld h57 176 = fld h5 176 := (funext fun j => fld_oth eh57 (Or.inl (by omega))).trans iL11_3
        have Rh57 : zMR ms194 h h57 := RhL11.w (a1 := 66) (a2 := 66) (j1 := 0) (j2 := 8) (by decide +kernel) (by first | decide | exact ⟨by decide, by decide⟩) (by first | omega | exact ⟨by omega, by omega⟩) eh57
        refine zwW_inc (i := 2) (c := 1) (x := vL11) (nx := 56) (by decide +kernel) rfl (by first | omega | exact ⟨by omega, by omega⟩) (ls' := [(2, 37), (0, v2), (0, (vL11 + 1))]) rfl ?_
        refine zwW_p [(24, 33, 0)] (q := 33) (ls' := [(2, 37), (0, v2), (0, (vL11 + 1))]) (st' := []) (by decide +kernel) rfl ?_
        exact IHL11 ((100 - (vL11 + 1))).toNat (by omega) (vL11 + 1) h57 rfl (by omega) (by omega) (by omega) (Kh57_176) Ih57 Rh57
  exact L11 _ 0 h10 rfl (by omega) (by omega) (by omega) (Kh10_176) Ih10 Rh10
