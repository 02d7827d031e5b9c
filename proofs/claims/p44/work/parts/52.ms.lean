/-! contracts of methods -/
-- WheelLandModel.spins()I
theorem m221_s {sc : List Int} (h : Hp) (I : zI h) (hA : zAM h) (BO : zBs (zOv h)) : zwC sc 2 221 [(2, 37)] h (zwRt 0 (fun x g => zI g ∧ zMR ms221 h g ∧ (-2147483648 ≤ x ∧ x ≤ 2147483647) ∧ (zNZ (fld g 176) (fld h 37 2).toNat ≤ 300 - fld h 37 64) ∧ (x = yTo (zOv h) (yEp (zOv h)) (fld h 37 2).toNat ∧ (∀ v : Nat, fld g 177 v = ySN (zOv h) (yEp (zOv h)) (fld h 37 2).toNat 66 v) ∧ (∀ k : Nat, (k : Int) < fld h 37 2 → fld g 176 k = yX (ySN (zOv h) (yEp (zOv h)) k) (yEp (zOv h)) k)))) := by
  refine zwC_of (D := 1) 7 (by decide +kernel) rfl (ls := [(2, 37), (9, 0), (9, 0), (9, 0), (9, 0), (9, 0), (9, 0)]) rfl ?_
  have R : zMR ms221 h h := zMR.rf _ _
  have B0 := I.b (a1 := 37) (a2 := 37) (j1 := 2) (j2 := 3) (lo := 0) (hi := 20) (by decide +kernel) (r := 37) (j := 2) (by decide) (by decide) (by decide) (by decide)
  refine zwW_p [(0, 0, 0), (2, 1, 0), (1, 0, 2)] (q := 3) (ls' := [(2, 37), (0, 0), (9, 0), (9, 0), (9, 0), (9, 0), (9, 0)]) (st' := [(2, 37)]) (by decide +kernel) rfl ?_
  refine zwW_gs I (kd := 13) (bn := 64) (n := 97) (t := 0) (lo := 0) (hi := 300) (nx := 6) (by decide +kernel) ?_
  intro v1 ev1 lv1 uv1
  refine zwW_p [(2, 2, 0), (0, 0, 0), (2, 3, 0)] (q := 9) (ls' := [(2, 37), (0, 0), (0, v1), (0, 0), (9, 0), (9, 0), (9, 0)]) (st' := []) (by decide +kernel) rfl ?_
  have L2 : ∀ (n0 : Nat) (nL2 mL2 qL2 : Int) (w4L2 w5L2 w6L2 : Vl) (hL2 : Hp), n0 = ((100 - qL2)).toNat → (0 ≤ qL2 ∧ qL2 ≤ fld h 37 2) → (-2147483648 ≤ nL2 ∧ nL2 ≤ 2147483647) → (0 ≤ mL2 ∧ mL2 ≤ 300) → (mL2 = fld h 37 64 + zNZ (fld hL2 176) (qL2).toNat) → (∀ v : Nat, fld hL2 177 v = (ySN (zOv h) (yEp (zOv h)) (qL2).toNat) 66 v) → (mL2 = (ySN (zOv h) (yEp (zOv h)) (qL2).toNat) 37 64) → (nL2 = yTo (zOv h) (yEp (zOv h)) (qL2).toNat) → (∀ k : Nat, (k : Int) < qL2 → fld hL2 176 k = yX (ySN (zOv h) (yEp (zOv h)) k) (yEp (zOv h)) k) → (0 ≤ nL2 ∧ nL2 ≤ 76000) → zI hL2 → zMR ms221 h hL2 → zwW sc (1) 221 9 [(2, 37), (0, nL2), (0, mL2), (0, qL2), w4L2, w5L2, w6L2] [] hL2 (zwRt 0 (fun x g => zI g ∧ zMR ms221 h g ∧ (-2147483648 ≤ x ∧ x ≤ 2147483647) ∧ (zNZ (fld g 176) (fld h 37 2).toNat ≤ 300 - fld h 37 64) ∧ (x = yTo (zOv h) (yEp (zOv h)) (fld h 37 2).toNat ∧ (∀ v : Nat, fld g 177 v = ySN (zOv h) (yEp (zOv h)) (fld h 37 2).toNat 66 v) ∧ (∀ k : Nat, (k : Int) < fld h 37 2 → fld g 176 k = yX (ySN (zOv h) (yEp (zOv h)) k) (yEp (zOv h)) k)))) := by
    intro n0
    induction n0 using Nat.strongRecOn with
    | ind n0 IHL2 =>
      intro nL2 mL2 qL2 w4L2 w5L2 w6L2 hL2 hnL2 iL2_0 iL2_1 iL2_2 iL2_3 iL2_4 iL2_5 iL2_6 iL2_7 iL2_8 IhL2 RhL2
      refine zwW_p [(1, 3, 0), (1, 0, 2)] (q := 11) (ls' := [(2, 37), (0, nL2), (0, mL2), (0, qL2), w4L2, w5L2, w6L2]) (st' := [(2, 37), (0, qL2)]) (by decide +kernel) rfl ?_
      refine zwW_gs IhL2 (kd := 13) (bn := 2) (n := 97) (t := 0) (lo := 0) (hi := 20) (nx := 14) (by decide +kernel) ?_
      intro v3 ev3 lv3 uv3
      refine zwic_ge (q := 195) (nx := 17) (by decide +kernel) (fun c4 => ?_) (fun c4 => ?_)
      · refine zwW_p [(1, 1, 0)] (q := 196) (ls' := [(2, 37), (0, nL2), (0, mL2), (0, qL2), w4L2, w5L2, w6L2]) (st' := [(0, nL2)]) (by decide +kernel) rfl ?_
        refine zwW_ret (nx := 197) (a := 0) (b := 0) (by decide +kernel) rfl (Or.inl rfl) ?_
        have H195 := RhL2.f (a1 := 37) (a2 := 37) (j1 := 2) (j2 := 3) (by decide +kernel) (r := 37) (j := 2) (by first | decide | exact ⟨by decide, by decide⟩) (by first | decide | exact ⟨by decide, by decide⟩)
        refine ⟨IhL2, RhL2, by omega, ?_, ?_⟩
        · have Z195 := iL2_3
          rw [show qL2.toNat = (fld h 37 2).toNat by omega] at Z195
          omega
        · rw [show (fld h 37 2).toNat = (qL2).toNat by omega]
          exact ⟨iL2_6, iL2_4, fun k hk => iL2_7 k (by omega)⟩
      · have H17 := RhL2.f (a1 := 37) (a2 := 37) (j1 := 2) (j2 := 3) (by decide +kernel) (r := 37) (j := 2) (by first | decide | exact ⟨by decide, by decide⟩) (by first | decide | exact ⟨by decide, by decide⟩)
        have A17 := hA (qL2).toNat (by omega)
        have BT := BO.sn (yEp_4 (S := (zOv h))) (qL2).toNat (show ((((qL2).toNat) : Nat) : Int) ≤ fld h 37 2 by omega)
        have KT : ((((qL2).toNat) : Nat) : Int) < (ySN (zOv h) (yEp (zOv h)) (qL2).toNat) 37 2 := by rw [ySN_ne (b := 37) (by decide) (Or.inr (by decide))]; show _ < fld h 37 2; omega
        have bk := BT.1 (qL2).toNat KT
        have UB := yX_b BT (yEp_4 (S := (zOv h))) KT
        have YT : yTo (zOv h) (yEp (zOv h)) ((qL2).toNat + 1) = yTo (zOv h) (yEp (zOv h)) (qL2).toNat + yX (ySN (zOv h) (yEp (zOv h)) (qL2).toNat) (yEp (zOv h)) (qL2).toNat := rfl
        have TB := yTo_b BO (yEp_4 (S := (zOv h))) ((qL2).toNat + 1) (show ((((qL2).toNat + 1) : Nat) : Int) ≤ fld h 37 2 by omega)
        have ct := (BT.2.1 ((ySN (zOv h) (yEp (zOv h)) (qL2).toNat) 79 (qL2).toNat).toNat (by omega)).1
        refine zwW_p [(1, 0, 2)] (q := 18) (ls' := [(2, 37), (0, nL2), (0, mL2), (0, qL2), w4L2, w5L2, w6L2]) (st' := [(2, 37)]) (by decide +kernel) rfl ?_
        refine zwW_gc IhL2 (kd := 13) (bn := 20) (n := 97) (c := 79) (nx := 21) (by decide +kernel) ?_
        refine zwW_p [(1, 3, 0)] (q := 22) (ls' := [(2, 37), (0, nL2), (0, mL2), (0, qL2), w4L2, w5L2, w6L2]) (st' := [(0, qL2), (2, 79)]) (by decide +kernel) rfl ?_
        have ib1 : 0 ≤ qL2 ∧ qL2 < ((20 : Nat) : Int) := (by first | omega | exact ⟨by omega, by omega⟩)
        refine zwW_al IhL2 (a1 := 79) (a2 := 79) (kd := 20) (n := 20) (t := 0) (lo := 0) (hi := 7) (nx := 23) (by decide +kernel) (by first | decide | exact ⟨by decide, by decide⟩) ib1 ?_
        intro v5 ev5 lv5 uv5
        refine zwW_p [(2, 4, 0)] (q := 25) (ls' := [(2, 37), (0, nL2), (0, mL2), (0, qL2), (0, v5), w5L2, w6L2]) (st' := []) (by decide +kernel) rfl ?_
        have a79 : v5 = (ySN (zOv h) (yEp (zOv h)) (qL2).toNat) 79 (qL2).toNat := by rw [ev5, ySN_ne (b := 79) (by decide) (Or.inl (by decide))]; exact RhL2.f (a1 := 79) (a2 := 79) (j1 := 0) (j2 := 20) (by decide +kernel) (by first | decide | exact ⟨by decide, by decide⟩) (by first | omega | exact ⟨by omega, by omega⟩)
        refine zwW_p [(1, 0, 2)] (q := 26) (ls' := [(2, 37), (0, nL2), (0, mL2), (0, qL2), (0, v5), w5L2, w6L2]) (st' := [(2, 37)]) (by decide +kernel) rfl ?_
        refine zwW_gc IhL2 (kd := 13) (bn := 67) (n := 97) (c := 178) (nx := 29) (by decide +kernel) ?_
        refine zwW_p [(1, 3, 0)] (q := 30) (ls' := [(2, 37), (0, nL2), (0, mL2), (0, qL2), (0, v5), w5L2, w6L2]) (st' := [(0, qL2), (2, 178)]) (by decide +kernel) rfl ?_
        refine zwW_al IhL2 (a1 := 178) (a2 := 178) (kd := 20) (n := 20) (t := 0) (lo := 0) (hi := 5) (nx := 31) (by decide +kernel) (by first | decide | exact ⟨by decide, by decide⟩) ib1 ?_
        intro v6 ev6 lv6 uv6
        have a80 : v6 = (ySN (zOv h) (yEp (zOv h)) (qL2).toNat) 80 (qL2).toNat := by rw [ev6, ySN_ne (b := 80) (by decide) (Or.inl (by decide))]; exact RhL2.f (a1 := 178) (a2 := 178) (j1 := 0) (j2 := 20) (by decide +kernel) (by first | decide | exact ⟨by decide, by decide⟩) (by first | omega | exact ⟨by omega, by omega⟩)
        refine zwW_p [(7, 0, 0), (1, 0, 2)] (q := 33) (ls' := [(2, 37), (0, nL2), (0, mL2), (0, qL2), (0, v5), w5L2, w6L2]) (st' := [(2, 37), (1, v6)]) (by decide +kernel) rfl ?_
        refine zwW_gc IhL2 (kd := 13) (bn := 3) (n := 97) (c := 38) (nx := 36) (by decide +kernel) ?_
        refine zwW_p [(1, 4, 0)] (q := 38) (ls' := [(2, 37), (0, nL2), (0, mL2), (0, qL2), (0, v5), w5L2, w6L2]) (st' := [(0, v5), (2, 38), (1, v6)]) (by decide +kernel) rfl ?_
        refine zwW_ro IhL2 (a := 38) (n := 8) (kd := 26) (base := 39) (step := 1) (nx := 39) (by decide +kernel) rfl (by first | omega | exact ⟨by omega, by omega⟩) ?_
        rw [show ((39 : Nat) : Int) + ((1 : Nat) : Int) * v5 = (39 + v5) by omega]
        refine zwW_p [(1, 0, 2)] (q := 40) (ls' := [(2, 37), (0, nL2), (0, mL2), (0, qL2), (0, v5), w5L2, w6L2]) (st' := [(2, 37), (2, (39 + v5)), (1, v6)]) (by decide +kernel) rfl ?_
        refine zwW_gs IhL2 (kd := 13) (bn := 0) (n := 97) (t := 0) (lo := 0) (hi := 156) (nx := 43) (by decide +kernel) ?_
        intro v7 ev7 lv7 uv7
        refine zwW_cs (k' := 174) (n := 1) (nx := 46) (as := [(0, v7)]) (st' := [(2, (39 + v5)), (1, v6)]) (by decide +kernel) rfl (m174 hL2 v7 (by omega) (by omega)) rfl ?_
        rintro v8 _ ⟨rfl, f9, f10, f11, f12⟩
        have n46 : fld hL2 37 0 = fld h 37 0 := RhL2.f (a1 := 37) (a2 := 37) (j1 := 0) (j2 := 1) (by decide +kernel) (by first | decide | exact ⟨by decide, by decide⟩) (by first | decide | exact ⟨by decide, by decide⟩)
        have s46 : (v8).toNat = (yEp (zOv h)) := by unfold yEp; show _ = (fld h 37 0).toNat / 13 % 4; omega
        have ib2 : 0 ≤ v8 ∧ v8 < ((4 : Nat) : Int) := (by first | omega | exact ⟨by omega, by omega⟩)
        refine zwW_al IhL2 (a1 := 39) (a2 := 46) (kd := 20) (n := 4) (t := 0) (lo := 0) (hi := 40) (nx := 47) (by decide +kernel) (by first | omega | exact ⟨by omega, by omega⟩) ib2 ?_
        intro v13 ev13 lv13 uv13
        have a39 : v13 = (ySN (zOv h) (yEp (zOv h)) (qL2).toNat) 39 (4 * ((ySN (zOv h) (yEp (zOv h)) (qL2).toNat) 79 (qL2).toNat).toNat + (yEp (zOv h))) := by
          rw [← a79, ySN_ne (b := 39) (by decide) (Or.inl (by decide)), ← s46]
          show _ = zSt h 39 _
          rw [zSt_39 (by omega), show (((v5).toNat : Nat) : Int) = v5 by omega, ev13]
          exact RhL2.f (a1 := 39) (a2 := 46) (j1 := 0) (j2 := 4) (by decide +kernel) (by first | omega | exact ⟨by omega, by omega⟩) (by first | omega | exact ⟨by omega, by omega⟩)
        refine zwW_p [(7, 0, 0)] (q := 48) (ls' := [(2, 37), (0, nL2), (0, mL2), (0, qL2), (0, v5), w5L2, w6L2]) (st' := [(1, v13), (1, v6)]) (by decide +kernel) rfl ?_
        refine zwW_lmulp (A := 5) (B := 40) (nx := 49) (by decide +kernel) (by first | omega | exact ⟨by omega, by omega⟩) (by first | omega | exact ⟨by omega, by omega⟩) (by decide) ?_
        intro v14 ev14 lv14 uv14
        refine zwW_p [(0, 10, 0), (1, 0, 2)] (q := 52) (ls' := [(2, 37), (0, nL2), (0, mL2), (0, qL2), (0, v5), w5L2, w6L2]) (st' := [(2, 37), (0, 10), (1, v14)]) (by decide +kernel) rfl ?_
        refine zwW_gc IhL2 (kd := 13) (bn := 68) (n := 97) (c := 179) (nx := 55) (by decide +kernel) ?_
        refine zwW_p [(1, 3, 0)] (q := 56) (ls' := [(2, 37), (0, nL2), (0, mL2), (0, qL2), (0, v5), w5L2, w6L2]) (st' := [(0, qL2), (2, 179), (0, 10), (1, v14)]) (by decide +kernel) rfl ?_
        refine zwW_al IhL2 (a1 := 179) (a2 := 179) (kd := 20) (n := 20) (t := 0) (lo := 0) (hi := 9) (nx := 57) (by decide +kernel) (by first | decide | exact ⟨by decide, by decide⟩) ib1 ?_
        intro v15 ev15 lv15 uv15
        have a81 : v15 = (ySN (zOv h) (yEp (zOv h)) (qL2).toNat) 81 (qL2).toNat := by rw [ev15, ySN_ne (b := 81) (by decide) (Or.inl (by decide))]; exact RhL2.f (a1 := 179) (a2 := 179) (j1 := 0) (j2 := 20) (by decide +kernel) (by first | decide | exact ⟨by decide, by decide⟩) (by first | omega | exact ⟨by omega, by omega⟩)
        refine zwW_add (nx := 58) (by decide +kernel) (by first | omega | exact ⟨by omega, by omega⟩) ?_
        refine zwW_p [(7, 0, 0)] (q := 59) (ls' := [(2, 37), (0, nL2), (0, mL2), (0, qL2), (0, v5), w5L2, w6L2]) (st' := [(1, (10 + v15)), (1, v14)]) (by decide +kernel) rfl ?_
        refine zwW_lmulp (A := 200) (B := 19) (nx := 60) (by decide +kernel) (by first | omega | exact ⟨by omega, by omega⟩) (by first | omega | exact ⟨by omega, by omega⟩) (by decide) ?_
        intro v16 ev16 lv16 uv16
        refine zwW_p [(1, 0, 2)] (q := 61) (ls' := [(2, 37), (0, nL2), (0, mL2), (0, qL2), (0, v5), w5L2, w6L2]) (st' := [(2, 37), (1, v16)]) (by decide +kernel) rfl ?_
        refine zwW_gc IhL2 (kd := 13) (bn := 26) (n := 97) (c := 85) (nx := 64) (by decide +kernel) ?_
        refine zwW_p [(1, 3, 0)] (q := 65) (ls' := [(2, 37), (0, nL2), (0, mL2), (0, qL2), (0, v5), w5L2, w6L2]) (st' := [(0, qL2), (2, 85), (1, v16)]) (by decide +kernel) rfl ?_
        refine zwW_al IhL2 (a1 := 85) (a2 := 85) (kd := 20) (n := 20) (t := 0) (lo := 0) (hi := 60) (nx := 66) (by decide +kernel) (by first | decide | exact ⟨by decide, by decide⟩) ib1 ?_
        intro v17 ev17 lv17 uv17
        have a85 : v17 = (ySN (zOv h) (yEp (zOv h)) (qL2).toNat) 85 (qL2).toNat := by rw [ev17, ySN_ne (b := 85) (by decide) (Or.inl (by decide))]; exact RhL2.f (a1 := 85) (a2 := 85) (j1 := 0) (j2 := 20) (by decide +kernel) (by first | decide | exact ⟨by decide, by decide⟩) (by first | omega | exact ⟨by omega, by omega⟩)
        refine zwW_p [(0, 20, 0)] (q := 68) (ls' := [(2, 37), (0, nL2), (0, mL2), (0, qL2), (0, v5), w5L2, w6L2]) (st' := [(0, 20), (0, v17), (1, v16)]) (by decide +kernel) rfl ?_
        refine zwW_add (nx := 69) (by decide +kernel) (by first | omega | exact ⟨by omega, by omega⟩) ?_
        refine zwW_p [(7, 0, 0)] (q := 70) (ls' := [(2, 37), (0, nL2), (0, mL2), (0, qL2), (0, v5), w5L2, w6L2]) (st' := [(1, (v17 + 20)), (1, v16)]) (by decide +kernel) rfl ?_
        refine zwW_ldiv (nx := 71) (by decide +kernel) (by omega) (by omega) (by omega) ?_
        obtain ⟨v18, ev18⟩ : ∃ z, z = v16 / (v17 + 20) := ⟨_, rfl⟩
        rw [← ev18]
        have lv18 : 0 ≤ v18 := by rw [ev18]; exact Int.ediv_nonneg (by omega) (by omega)
        have uv18 : v18 ≤ v16 := by rw [ev18]; exact Int.ediv_le_self _ (by omega)
        have q71 : v18 = v6 * v13 * (10 + v15) / (v17 + 20) := by subst_vars; rfl
        refine zwW_p [(2, 5, 1), (1, 5, 1), (1, 0, 2)] (q := 76) (ls' := [(2, 37), (0, nL2), (0, mL2), (0, qL2), (0, v5), (1, v18), (9, 0)]) (st' := [(2, 37), (1, v18)]) (by decide +kernel) rfl ?_
        refine zwW_gc IhL2 (kd := 13) (bn := 66) (n := 97) (c := 177) (nx := 79) (by decide +kernel) ?_
        refine zwW_p [(1, 4, 0)] (q := 81) (ls' := [(2, 37), (0, nL2), (0, mL2), (0, qL2), (0, v5), (1, v18), (9, 0)]) (st' := [(0, v5), (2, 177), (1, v18)]) (by decide +kernel) rfl ?_
        have ib3 : 0 ≤ v5 ∧ v5 < ((8 : Nat) : Int) := (by first | omega | exact ⟨by omega, by omega⟩)
        refine zwW_al IhL2 (a1 := 177) (a2 := 177) (kd := 20) (n := 8) (t := 0) (lo := -2147483648) (hi := 2147483647) (nx := 82) (by decide +kernel) (by first | decide | exact ⟨by decide, by decide⟩) ib3 ?_
        intro v19 ev19 lv19 uv19
        have a66 : v19 = (ySN (zOv h) (yEp (zOv h)) (qL2).toNat) 66 ((ySN (zOv h) (yEp (zOv h)) (qL2).toNat) 79 (qL2).toNat).toNat := by rw [← a79, ev19]; exact iL2_4 _
        refine zwW_p [(7, 0, 0), (1, 0, 2)] (q := 84) (ls' := [(2, 37), (0, nL2), (0, mL2), (0, qL2), (0, v5), (1, v18), (9, 0)]) (st' := [(2, 37), (1, v19), (1, v18)]) (by decide +kernel) rfl ?_
        refine zwW_gc IhL2 (kd := 13) (bn := 26) (n := 97) (c := 85) (nx := 87) (by decide +kernel) ?_
        refine zwW_p [(1, 3, 0)] (q := 88) (ls' := [(2, 37), (0, nL2), (0, mL2), (0, qL2), (0, v5), (1, v18), (9, 0)]) (st' := [(0, qL2), (2, 85), (1, v19), (1, v18)]) (by decide +kernel) rfl ?_
        refine zwW_al IhL2 (a1 := 85) (a2 := 85) (kd := 20) (n := 20) (t := 0) (lo := 0) (hi := 60) (nx := 89) (by decide +kernel) (by first | decide | exact ⟨by decide, by decide⟩) ib1 ?_
        intro v20 ev20 lv20 uv20
        have d89 : v20 = v17 := by rw [ev20, ev17]
        refine zwW_p [(7, 0, 0)] (q := 90) (ls' := [(2, 37), (0, nL2), (0, mL2), (0, qL2), (0, v5), (1, v18), (9, 0)]) (st' := [(1, v20), (1, v19), (1, v18)]) (by decide +kernel) rfl ?_
        refine zwW_lmulp (A := 9999) (B := 60) (nx := 91) (by decide +kernel) (by first | omega | exact ⟨by omega, by omega⟩) (by first | omega | exact ⟨by omega, by omega⟩) (by decide) ?_
        intro v21 ev21 lv21 uv21
        have q91 : v21 = v19 * v17 := by rw [ev21, d89]
        refine zwlc_le (q := 113) (nx := 95) (m := 92) (by decide +kernel) (by decide +kernel) (fun c22 => ?_) (fun c22 => ?_)
        · refine zwW_p [(1, 0, 2)] (q := 114) (ls' := [(2, 37), (0, nL2), (0, mL2), (0, qL2), (0, v5), (1, v18), (9, 0)]) (st' := [(2, 37)]) (by decide +kernel) rfl ?_
          refine zwW_gc IhL2 (kd := 13) (bn := 65) (n := 97) (c := 176) (nx := 117) (by decide +kernel) ?_
          refine zwW_p [(1, 3, 0), (1, 2, 0), (0, 300, 0)] (q := 122) (ls' := [(2, 37), (0, nL2), (0, mL2), (0, qL2), (0, v5), (1, v18), (9, 0)]) (st' := [(0, 300), (0, mL2), (0, qL2), (2, 176)]) (by decide +kernel) rfl ?_
          refine zwic_ne (q := 129) (nx := 125) (by decide +kernel) (fun c23 => ?_) (fun c23 => ?_)
          · refine zwW_p [(1, 5, 1)] (q := 131) (ls' := [(2, 37), (0, nL2), (0, mL2), (0, qL2), (0, v5), (1, v18), (9, 0)]) (st' := [(1, v18), (0, qL2), (2, 176)]) (by decide +kernel) rfl ?_
            refine zwW_l2i (nx := 132) (by decide +kernel) (by first | omega | exact ⟨by omega, by omega⟩) ?_
            refine zwW_as IhL2 (a1 := 176) (a2 := 176) (n := 20) (lo := -2147483648) (hi := 2147483647) (nx := 133) (by decide +kernel) (by first | decide | exact ⟨by decide, by decide⟩) ib1 (by first | omega | exact ⟨by omega, by omega⟩) ?_
            intro h24 eh24 Ih24
            have jbh24 : 0 ≤ qL2.toNat ∧ qL2.toNat < 20 := ⟨Nat.zero_le _, zit ib1⟩
            have N132 : zNZ (fld h24 176) (qL2).toNat = zNZ (fld hL2 176) (qL2).toNat := zNZ_c _ (fun j hj => fld_oth eh24 (Or.inr (by omega)))
            have V132 : fld h24 176 (qL2).toNat = v18 := by rw [eh24]; exact fld_wr_eq (IhL2.s (a1 := 176) (a2 := 176) (k := 20) (n := 20) (by decide +kernel) (by decide) (by decide)) (by omega)
            have S132 : zNZ (fld h24 176) ((qL2).toNat + 1) = zNZ (fld h24 176) (qL2).toNat + (if fld h24 176 (qL2).toNat = 0 then 0 else 1) := rfl
            have U132 : v18 = yX (ySN (zOv h) (yEp (zOv h)) (qL2).toNat) (yEp (zOv h)) (qL2).toNat := by
              unfold yX yHk
              first
              | rw [if_pos (by omega)]
              | (rw [if_neg (by omega), ← a80, ← a39, ← a81, ← a85, ← a66, ← q71, ← q91]; omega)
            have C132 : ∀ v : Nat, fld h24 177 v = (ySN (zOv h) (yEp (zOv h)) (qL2).toNat) 66 v := fun v => by rw [eh24, fld_wr (Or.inl (by decide))]; exact iL2_4 v
            have K132 : ∀ k : Nat, (k : Int) < qL2 + 1 → fld h24 176 k = yX (ySN (zOv h) (yEp (zOv h)) k) (yEp (zOv h)) k := by
              intro k hk
              by_cases z : k = (qL2).toNat
              · rw [z, V132, U132]
              · rw [eh24, fld_wr (Or.inr z)]; exact iL2_7 k (by omega)
            have Rh24 : zMR ms221 h h24 := RhL2.w (a1 := 176) (a2 := 176) (j1 := 0) (j2 := 20) (by decide +kernel) (by first | decide | exact ⟨by decide, by decide⟩) jbh24 eh24
            refine zwW_p [(1, 0, 2)] (q := 134) (ls' := [(2, 37), (0, nL2), (0, mL2), (0, qL2), (0, v5), (1, v18), (9, 0)]) (st' := [(2, 37)]) (by decide +kernel) rfl ?_
            refine zwW_gc Ih24 (kd := 13) (bn := 65) (n := 97) (c := 176) (nx := 137) (by decide +kernel) ?_
            refine zwW_p [(1, 3, 0)] (q := 138) (ls' := [(2, 37), (0, nL2), (0, mL2), (0, qL2), (0, v5), (1, v18), (9, 0)]) (st' := [(0, qL2), (2, 176)]) (by decide +kernel) rfl ?_
            refine zwW_al Ih24 (a1 := 176) (a2 := 176) (kd := 20) (n := 20) (t := 0) (lo := -2147483648) (hi := 2147483647) (nx := 139) (by decide +kernel) (by first | decide | exact ⟨by decide, by decide⟩) ib1 ?_
            intro v25 ev25 lv25 uv25
            have V139 : v25 = yX (ySN (zOv h) (yEp (zOv h)) (qL2).toNat) (yEp (zOv h)) (qL2).toNat := by rw [ev25, V132, U132]
            refine zwif_ne (q := 145) (nx := 142) (by decide +kernel) (fun c26 => ?_) (fun c26 => ?_)
            · refine zwW_p [(1, 0, 2)] (q := 146) (ls' := [(2, 37), (0, nL2), (0, mL2), (0, qL2), (0, v5), (1, v18), (9, 0)]) (st' := [(2, 37)]) (by decide +kernel) rfl ?_
              refine zwW_gc Ih24 (kd := 13) (bn := 66) (n := 97) (c := 177) (nx := 149) (by decide +kernel) ?_
              refine zwW_p [(1, 4, 0), (14, 0, 0)] (q := 152) (ls' := [(2, 37), (0, nL2), (0, mL2), (0, qL2), (0, v5), (1, v18), (9, 0)]) (st' := [(0, v5), (2, 177), (0, v5), (2, 177)]) (by decide +kernel) rfl ?_
              refine zwW_al Ih24 (a1 := 177) (a2 := 177) (kd := 20) (n := 8) (t := 0) (lo := -2147483648) (hi := 2147483647) (nx := 153) (by decide +kernel) (by first | decide | exact ⟨by decide, by decide⟩) ib3 ?_
              intro v27 ev27 lv27 uv27
              have C153 : v27 = (ySN (zOv h) (yEp (zOv h)) (qL2).toNat) 66 ((ySN (zOv h) (yEp (zOv h)) (qL2).toNat) 79 (qL2).toNat).toNat := by rw [ev27, ← a79]; exact C132 _
              refine zwW_p [(1, 0, 2)] (q := 154) (ls' := [(2, 37), (0, nL2), (0, mL2), (0, qL2), (0, v5), (1, v18), (9, 0)]) (st' := [(2, 37), (0, v27), (0, v5), (2, 177)]) (by decide +kernel) rfl ?_
              refine zwW_gc Ih24 (kd := 13) (bn := 65) (n := 97) (c := 176) (nx := 157) (by decide +kernel) ?_
              refine zwW_p [(1, 3, 0)] (q := 158) (ls' := [(2, 37), (0, nL2), (0, mL2), (0, qL2), (0, v5), (1, v18), (9, 0)]) (st' := [(0, qL2), (2, 176), (0, v27), (0, v5), (2, 177)]) (by decide +kernel) rfl ?_
              refine zwW_al Ih24 (a1 := 176) (a2 := 176) (kd := 20) (n := 20) (t := 0) (lo := -2147483648) (hi := 2147483647) (nx := 159) (by decide +kernel) (by first | decide | exact ⟨by decide, by decide⟩) ib1 ?_
              intro v28 ev28 lv28 uv28
              have V159 : v28 = yX (ySN (zOv h) (yEp (zOv h)) (qL2).toNat) (yEp (zOv h)) (qL2).toNat := by rw [ev28, V132, U132]
              refine zwW_p [(1, 0, 2)] (q := 160) (ls' := [(2, 37), (0, nL2), (0, mL2), (0, qL2), (0, v5), (1, v18), (9, 0)]) (st' := [(2, 37), (0, v28), (0, v27), (0, v5), (2, 177)]) (by decide +kernel) rfl ?_
              refine zwW_gc Ih24 (kd := 13) (bn := 26) (n := 97) (c := 85) (nx := 163) (by decide +kernel) ?_
              refine zwW_p [(1, 3, 0)] (q := 164) (ls' := [(2, 37), (0, nL2), (0, mL2), (0, qL2), (0, v5), (1, v18), (9, 0)]) (st' := [(0, qL2), (2, 85), (0, v28), (0, v27), (0, v5), (2, 177)]) (by decide +kernel) rfl ?_
              refine zwW_al Ih24 (a1 := 85) (a2 := 85) (kd := 20) (n := 20) (t := 0) (lo := 0) (hi := 60) (nx := 165) (by decide +kernel) (by first | decide | exact ⟨by decide, by decide⟩) ib1 ?_
              intro v29 ev29 lv29 uv29
              have A165 : v29 = (ySN (zOv h) (yEp (zOv h)) (qL2).toNat) 85 (qL2).toNat := by rw [ev29, ySN_ne (b := 85) (by decide) (Or.inl (by decide))]; exact Rh24.f (a1 := 85) (a2 := 85) (j1 := 0) (j2 := 20) (by decide +kernel) (by first | decide | exact ⟨by decide, by decide⟩) (by first | omega | exact ⟨by omega, by omega⟩)
              refine zwW_add (nx := 166) (by decide +kernel) (by first | omega | exact ⟨by omega, by omega⟩) ?_
              refine zwW_p [(0, 1, 0)] (q := 167) (ls' := [(2, 37), (0, nL2), (0, mL2), (0, qL2), (0, v5), (1, v18), (9, 0)]) (st' := [(0, 1), (0, (v28 + v29)), (0, v27), (0, v5), (2, 177)]) (by decide +kernel) rfl ?_
              refine zwW_sub (nx := 168) (by decide +kernel) (by first | omega | exact ⟨by omega, by omega⟩) ?_
              refine zwW_p [(1, 0, 2)] (q := 169) (ls' := [(2, 37), (0, nL2), (0, mL2), (0, qL2), (0, v5), (1, v18), (9, 0)]) (st' := [(2, 37), (0, ((v28 + v29) - 1)), (0, v27), (0, v5), (2, 177)]) (by decide +kernel) rfl ?_
              refine zwW_gc Ih24 (kd := 13) (bn := 26) (n := 97) (c := 85) (nx := 172) (by decide +kernel) ?_
              refine zwW_p [(1, 3, 0)] (q := 173) (ls' := [(2, 37), (0, nL2), (0, mL2), (0, qL2), (0, v5), (1, v18), (9, 0)]) (st' := [(0, qL2), (2, 85), (0, ((v28 + v29) - 1)), (0, v27), (0, v5), (2, 177)]) (by decide +kernel) rfl ?_
              refine zwW_al Ih24 (a1 := 85) (a2 := 85) (kd := 20) (n := 20) (t := 0) (lo := 0) (hi := 60) (nx := 174) (by decide +kernel) (by first | decide | exact ⟨by decide, by decide⟩) ib1 ?_
              intro v30 ev30 lv30 uv30
              have B174 := Rh24.f (a1 := 85) (a2 := 85) (j1 := 0) (j2 := 20) (by decide +kernel) (r := 85) (j := (qL2).toNat) (by first | decide | exact ⟨by decide, by decide⟩) (by first | omega | exact ⟨by omega, by omega⟩)
              have A174 : v30 = (ySN (zOv h) (yEp (zOv h)) (qL2).toNat) 85 (qL2).toNat := by rw [ev30, ySN_ne (b := 85) (by decide) (Or.inl (by decide))]; exact Rh24.f (a1 := 85) (a2 := 85) (j1 := 0) (j2 := 20) (by decide +kernel) (by first | decide | exact ⟨by decide, by decide⟩) (by first | omega | exact ⟨by omega, by omega⟩)
              refine zwW_div (nx := 175) (by decide +kernel) (by omega) (by omega) (by omega) ?_
              obtain ⟨v31, ev31⟩ : ∃ z, z = ((v28 + v29) - 1) / v30 := ⟨_, rfl⟩
              rw [← ev31]
              have Q175 : v31 = (yX (ySN (zOv h) (yEp (zOv h)) (qL2).toNat) (yEp (zOv h)) (qL2).toNat + (ySN (zOv h) (yEp (zOv h)) (qL2).toNat) 85 (qL2).toNat - 1) / (ySN (zOv h) (yEp (zOv h)) (qL2).toNat) 85 (qL2).toNat := by rw [ev31, V159, A165, A174]
              have R175 := zceil UB.1 (by omega) UB.2.2.1
              refine zwW_sub (nx := 176) (by decide +kernel) (by first | omega | exact ⟨by omega, by omega⟩) ?_
              refine zwW_as Ih24 (a1 := 177) (a2 := 177) (n := 8) (lo := -2147483648) (hi := 2147483647) (nx := 177) (by decide +kernel) (by first | decide | exact ⟨by decide, by decide⟩) ib3 (by first | omega | exact ⟨by omega, by omega⟩) ?_
              intro h32 eh32 Ih32
              have jbh32 : 0 ≤ v5.toNat ∧ v5.toNat < 8 := ⟨Nat.zero_le _, zit ib3⟩
              have N176 : fld h32 176 = fld h24 176 := funext (fun j => fld_oth eh32 (Or.inl (by decide)))
              have M176 := fwi eh32 (Ih24.s (a1 := 177) (a2 := 177) (k := 20) (n := 8) (by decide +kernel) (by decide) (by decide)) (by omega)
              have Rh32 : zMR ms221 h h32 := Rh24.w (a1 := 177) (a2 := 177) (j1 := 0) (j2 := 8) (by decide +kernel) (by first | decide | exact ⟨by decide, by decide⟩) jbh32 eh32
              refine zwW_inc (i := 2) (c := 1) (x := mL2) (nx := 180) (by decide +kernel) rfl (by first | omega | exact ⟨by omega, by omega⟩) (ls' := [(2, 37), (0, nL2), (0, (mL2 + 1)), (0, qL2), (0, v5), (1, v18), (9, 0)]) rfl ?_
              refine zwW_p [(1, 1, 0), (1, 0, 2)] (q := 182) (ls' := [(2, 37), (0, nL2), (0, (mL2 + 1)), (0, qL2), (0, v5), (1, v18), (9, 0)]) (st' := [(2, 37), (0, nL2)]) (by decide +kernel) rfl ?_
              refine zwW_gc Ih32 (kd := 13) (bn := 65) (n := 97) (c := 176) (nx := 185) (by decide +kernel) ?_
              refine zwW_p [(1, 3, 0)] (q := 186) (ls' := [(2, 37), (0, nL2), (0, (mL2 + 1)), (0, qL2), (0, v5), (1, v18), (9, 0)]) (st' := [(0, qL2), (2, 176), (0, nL2)]) (by decide +kernel) rfl ?_
              refine zwW_al Ih32 (a1 := 176) (a2 := 176) (kd := 20) (n := 20) (t := 0) (lo := -2147483648) (hi := 2147483647) (nx := 187) (by decide +kernel) (by first | decide | exact ⟨by decide, by decide⟩) ib1 ?_
              intro v33 ev33 lv33 uv33
              have V187 : v33 = yX (ySN (zOv h) (yEp (zOv h)) (qL2).toNat) (yEp (zOv h)) (qL2).toNat := by rw [ev33, congrFun N176 (qL2).toNat, V132, U132]
              refine zwW_add (nx := 188) (by decide +kernel) (by first | omega | exact ⟨by omega, by omega⟩) ?_
              refine zwW_p [(2, 1, 0)] (q := 189) (ls' := [(2, 37), (0, (nL2 + v33)), (0, (mL2 + 1)), (0, qL2), (0, v5), (1, v18), (9, 0)]) (st' := []) (by decide +kernel) rfl ?_
              have Z189 : (∀ v : Nat, fld h32 177 v = ySN (zOv h) (yEp (zOv h)) (qL2 + 1).toNat 66 v) ∧ (mL2 + 1) = ySN (zOv h) (yEp (zOv h)) (qL2 + 1).toNat 37 64 ∧ (nL2 + v33) = yTo (zOv h) (yEp (zOv h)) (qL2 + 1).toNat ∧ (∀ k : Nat, (k : Int) < qL2 + 1 → fld h32 176 k = yX (ySN (zOv h) (yEp (zOv h)) k) (yEp (zOv h)) k) := by
                rw [show (qL2 + 1).toNat = (qL2).toNat + 1 by omega, YT]
                first
                | (have z0 : yX (ySN (zOv h) (yEp (zOv h)) (qL2).toNat) (yEp (zOv h)) (qL2).toNat = 0 := (by omega); exact ⟨fun v => (by show _ = yS1 (ySN (zOv h) (yEp (zOv h)) (qL2).toNat) (yEp (zOv h)) (qL2).toNat 66 v; rw [yS1_0 z0]; exact C132 v), (by show _ = yS1 (ySN (zOv h) (yEp (zOv h)) (qL2).toNat) (yEp (zOv h)) (qL2).toNat 37 64; rw [yS1_0 z0]; exact iL2_5), (by rw [z0]; omega), K132⟩)
                | (have z1 : 0 < yX (ySN (zOv h) (yEp (zOv h)) (qL2).toNat) (yEp (zOv h)) (qL2).toNat := (by omega); exact ⟨fun v => (by show _ = yS1 (ySN (zOv h) (yEp (zOv h)) (qL2).toNat) (yEp (zOv h)) (qL2).toNat 66 v; rw [yS1_p z1]; show _ = zs (ySN (zOv h) (yEp (zOv h)) (qL2).toNat) 66 _ _ 66 v; rw [zs_if, M176 v, C132 v]; by_cases zz : v = (v5).toNat; (rw [if_pos zz, if_pos ⟨rfl, by rw [zz, a79]⟩]; omega); (rw [if_neg zz, if_neg (fun w => zz (by rw [w.2, a79]))])), (by show _ = yS1 (ySN (zOv h) (yEp (zOv h)) (qL2).toNat) (yEp (zOv h)) (qL2).toNat 37 64; rw [yS1_p z1, zs_eq]; omega), (by omega), fun k hk => (congrFun N176 k).trans (K132 k hk)⟩)
              refine zwW_inc (i := 3) (c := 1) (x := qL2) (nx := 192) (by decide +kernel) rfl (by first | omega | exact ⟨by omega, by omega⟩) (ls' := [(2, 37), (0, (nL2 + v33)), (0, (mL2 + 1)), (0, (qL2 + 1)), (0, v5), (1, v18), (9, 0)]) rfl ?_
              refine zwW_p [(24, 9, 0)] (q := 9) (ls' := [(2, 37), (0, (nL2 + v33)), (0, (mL2 + 1)), (0, (qL2 + 1)), (0, v5), (1, v18), (9, 0)]) (st' := []) (by decide +kernel) rfl ?_
              exact IHL2 ((100 - (qL2 + 1))).toNat (by omega) (nL2 + v33) (mL2 + 1) (qL2 + 1) (0, v5) (1, v18) (9, 0) h32 rfl (by omega) (by omega) (by omega) (by rw [show (qL2 + 1).toNat = (qL2).toNat + 1 by omega]; first | (rw [N176, S132, if_neg (by omega), N132]; omega) | (rw [S132, if_pos (by omega), N132]; omega)) (Z189.1) (Z189.2.1) (Z189.2.2.1) (Z189.2.2.2) (by omega) Ih32 Rh32
            · refine zwW_p [(24, 189, 0)] (q := 189) (ls' := [(2, 37), (0, nL2), (0, mL2), (0, qL2), (0, v5), (1, v18), (9, 0)]) (st' := []) (by decide +kernel) rfl ?_
              have Z189 : (∀ v : Nat, fld h24 177 v = ySN (zOv h) (yEp (zOv h)) (qL2 + 1).toNat 66 v) ∧ mL2 = ySN (zOv h) (yEp (zOv h)) (qL2 + 1).toNat 37 64 ∧ nL2 = yTo (zOv h) (yEp (zOv h)) (qL2 + 1).toNat ∧ (∀ k : Nat, (k : Int) < qL2 + 1 → fld h24 176 k = yX (ySN (zOv h) (yEp (zOv h)) k) (yEp (zOv h)) k) := by
                rw [show (qL2 + 1).toNat = (qL2).toNat + 1 by omega, YT]
                first
                | (have z0 : yX (ySN (zOv h) (yEp (zOv h)) (qL2).toNat) (yEp (zOv h)) (qL2).toNat = 0 := (by omega); exact ⟨fun v => (by show _ = yS1 (ySN (zOv h) (yEp (zOv h)) (qL2).toNat) (yEp (zOv h)) (qL2).toNat 66 v; rw [yS1_0 z0]; exact C132 v), (by show _ = yS1 (ySN (zOv h) (yEp (zOv h)) (qL2).toNat) (yEp (zOv h)) (qL2).toNat 37 64; rw [yS1_0 z0]; exact iL2_5), (by rw [z0]; omega), K132⟩)
                | (have z1 : 0 < yX (ySN (zOv h) (yEp (zOv h)) (qL2).toNat) (yEp (zOv h)) (qL2).toNat := (by omega); exact ⟨fun v => (by show _ = yS1 (ySN (zOv h) (yEp (zOv h)) (qL2).toNat) (yEp (zOv h)) (qL2).toNat 66 v; rw [yS1_p z1]; show _ = zs (ySN (zOv h) (yEp (zOv h)) (qL2).toNat) 66 _ _ 66 v; rw [zs_if, M176 v, C132 v]; by_cases zz : v = (v5).toNat; (rw [if_pos zz, if_pos ⟨rfl, by rw [zz, a79]⟩]; omega); (rw [if_neg zz, if_neg (fun w => zz (by rw [w.2, a79]))])), (by show _ = yS1 (ySN (zOv h) (yEp (zOv h)) (qL2).toNat) (yEp (zOv h)) (qL2).toNat 37 64; rw [yS1_p z1, zs_eq]; omega), (by omega), fun k hk => (congrFun N176 k).trans (K132 k hk)⟩)
              refine zwW_inc (i := 3) (c := 1) (x := qL2) (nx := 192) (by decide +kernel) rfl (by first | omega | exact ⟨by omega, by omega⟩) (ls' := [(2, 37), (0, nL2), (0, mL2), (0, (qL2 + 1)), (0, v5), (1, v18), (9, 0)]) rfl ?_
              refine zwW_p [(24, 9, 0)] (q := 9) (ls' := [(2, 37), (0, nL2), (0, mL2), (0, (qL2 + 1)), (0, v5), (1, v18), (9, 0)]) (st' := []) (by decide +kernel) rfl ?_
              exact IHL2 ((100 - (qL2 + 1))).toNat (by omega) nL2 mL2 (qL2 + 1) (0, v5) (1, v18) (9, 0) h24 rfl (by omega) (by omega) (by omega) (by rw [show (qL2 + 1).toNat = (qL2).toNat + 1 by omega]; first | (rw [N176, S132, if_neg (by omega), N132]; omega) | (rw [S132, if_pos (by omega), N132]; omega)) (Z189.1) (Z189.2.1) (Z189.2.2.1) (Z189.2.2.2) (by omega) Ih24 Rh24
          · refine zwW_p [(0, 0, 0), (24, 132, 0)] (q := 132) (ls' := [(2, 37), (0, nL2), (0, mL2), (0, qL2), (0, v5), (1, v18), (9, 0)]) (st' := [(0, 0), (0, qL2), (2, 176)]) (by decide +kernel) rfl ?_
            refine zwW_as IhL2 (a1 := 176) (a2 := 176) (n := 20) (lo := -2147483648) (hi := 2147483647) (nx := 133) (by decide +kernel) (by first | decide | exact ⟨by decide, by decide⟩) ib1 (by first | decide | exact ⟨by decide, by decide⟩) ?_
            intro h34 eh34 Ih34
            have jbh34 : 0 ≤ qL2.toNat ∧ qL2.toNat < 20 := ⟨Nat.zero_le _, zit ib1⟩
            have N132 : zNZ (fld h34 176) (qL2).toNat = zNZ (fld hL2 176) (qL2).toNat := zNZ_c _ (fun j hj => fld_oth eh34 (Or.inr (by omega)))
            have V132 : fld h34 176 (qL2).toNat = 0 := by rw [eh34]; exact fld_wr_eq (IhL2.s (a1 := 176) (a2 := 176) (k := 20) (n := 20) (by decide +kernel) (by decide) (by decide)) (by omega)
            have S132 : zNZ (fld h34 176) ((qL2).toNat + 1) = zNZ (fld h34 176) (qL2).toNat + (if fld h34 176 (qL2).toNat = 0 then 0 else 1) := rfl
            have U132 : 0 = yX (ySN (zOv h) (yEp (zOv h)) (qL2).toNat) (yEp (zOv h)) (qL2).toNat := by
              unfold yX yHk
              first
              | rw [if_pos (by omega)]
              | (rw [if_neg (by omega), ← a80, ← a39, ← a81, ← a85, ← a66, ← q71, ← q91]; omega)
            have C132 : ∀ v : Nat, fld h34 177 v = (ySN (zOv h) (yEp (zOv h)) (qL2).toNat) 66 v := fun v => by rw [eh34, fld_wr (Or.inl (by decide))]; exact iL2_4 v
            have K132 : ∀ k : Nat, (k : Int) < qL2 + 1 → fld h34 176 k = yX (ySN (zOv h) (yEp (zOv h)) k) (yEp (zOv h)) k := by
              intro k hk
              by_cases z : k = (qL2).toNat
              · rw [z, V132, U132]
              · rw [eh34, fld_wr (Or.inr z)]; exact iL2_7 k (by omega)
            have Rh34 : zMR ms221 h h34 := RhL2.w (a1 := 176) (a2 := 176) (j1 := 0) (j2 := 20) (by decide +kernel) (by first | decide | exact ⟨by decide, by decide⟩) jbh34 eh34
            refine zwW_p [(1, 0, 2)] (q := 134) (ls' := [(2, 37), (0, nL2), (0, mL2), (0, qL2), (0, v5), (1, v18), (9, 0)]) (st' := [(2, 37)]) (by decide +kernel) rfl ?_
            refine zwW_gc Ih34 (kd := 13) (bn := 65) (n := 97) (c := 176) (nx := 137) (by decide +kernel) ?_
            refine zwW_p [(1, 3, 0)] (q := 138) (ls' := [(2, 37), (0, nL2), (0, mL2), (0, qL2), (0, v5), (1, v18), (9, 0)]) (st' := [(0, qL2), (2, 176)]) (by decide +kernel) rfl ?_
            refine zwW_al Ih34 (a1 := 176) (a2 := 176) (kd := 20) (n := 20) (t := 0) (lo := -2147483648) (hi := 2147483647) (nx := 139) (by decide +kernel) (by first | decide | exact ⟨by decide, by decide⟩) ib1 ?_
            intro v35 ev35 lv35 uv35
            have V139 : v35 = yX (ySN (zOv h) (yEp (zOv h)) (qL2).toNat) (yEp (zOv h)) (qL2).toNat := by rw [ev35, V132, U132]
            refine zwif_ne (q := 145) (nx := 142) (by decide +kernel) (fun c36 => ?_) (fun c36 => ?_)
            · refine zwW_p [(1, 0, 2)] (q := 146) (ls' := [(2, 37), (0, nL2), (0, mL2), (0, qL2), (0, v5), (1, v18), (9, 0)]) (st' := [(2, 37)]) (by decide +kernel) rfl ?_
              refine zwW_gc Ih34 (kd := 13) (bn := 66) (n := 97) (c := 177) (nx := 149) (by decide +kernel) ?_
              refine zwW_p [(1, 4, 0), (14, 0, 0)] (q := 152) (ls' := [(2, 37), (0, nL2), (0, mL2), (0, qL2), (0, v5), (1, v18), (9, 0)]) (st' := [(0, v5), (2, 177), (0, v5), (2, 177)]) (by decide +kernel) rfl ?_
              refine zwW_al Ih34 (a1 := 177) (a2 := 177) (kd := 20) (n := 8) (t := 0) (lo := -2147483648) (hi := 2147483647) (nx := 153) (by decide +kernel) (by first | decide | exact ⟨by decide, by decide⟩) ib3 ?_
              intro v37 ev37 lv37 uv37
              have C153 : v37 = (ySN (zOv h) (yEp (zOv h)) (qL2).toNat) 66 ((ySN (zOv h) (yEp (zOv h)) (qL2).toNat) 79 (qL2).toNat).toNat := by rw [ev37, ← a79]; exact C132 _
              refine zwW_p [(1, 0, 2)] (q := 154) (ls' := [(2, 37), (0, nL2), (0, mL2), (0, qL2), (0, v5), (1, v18), (9, 0)]) (st' := [(2, 37), (0, v37), (0, v5), (2, 177)]) (by decide +kernel) rfl ?_
              refine zwW_gc Ih34 (kd := 13) (bn := 65) (n := 97) (c := 176) (nx := 157) (by decide +kernel) ?_
              refine zwW_p [(1, 3, 0)] (q := 158) (ls' := [(2, 37), (0, nL2), (0, mL2), (0, qL2), (0, v5), (1, v18), (9, 0)]) (st' := [(0, qL2), (2, 176), (0, v37), (0, v5), (2, 177)]) (by decide +kernel) rfl ?_
              refine zwW_al Ih34 (a1 := 176) (a2 := 176) (kd := 20) (n := 20) (t := 0) (lo := -2147483648) (hi := 2147483647) (nx := 159) (by decide +kernel) (by first | decide | exact ⟨by decide, by decide⟩) ib1 ?_
              intro v38 ev38 lv38 uv38
              have V159 : v38 = yX (ySN (zOv h) (yEp (zOv h)) (qL2).toNat) (yEp (zOv h)) (qL2).toNat := by rw [ev38, V132, U132]
              refine zwW_p [(1, 0, 2)] (q := 160) (ls' := [(2, 37), (0, nL2), (0, mL2), (0, qL2), (0, v5), (1, v18), (9, 0)]) (st' := [(2, 37), (0, v38), (0, v37), (0, v5), (2, 177)]) (by decide +kernel) rfl ?_
              refine zwW_gc Ih34 (kd := 13) (bn := 26) (n := 97) (c := 85) (nx := 163) (by decide +kernel) ?_
              refine zwW_p [(1, 3, 0)] (q := 164) (ls' := [(2, 37), (0, nL2), (0, mL2), (0, qL2), (0, v5), (1, v18), (9, 0)]) (st' := [(0, qL2), (2, 85), (0, v38), (0, v37), (0, v5), (2, 177)]) (by decide +kernel) rfl ?_
              refine zwW_al Ih34 (a1 := 85) (a2 := 85) (kd := 20) (n := 20) (t := 0) (lo := 0) (hi := 60) (nx := 165) (by decide +kernel) (by first | decide | exact ⟨by decide, by decide⟩) ib1 ?_
              intro v39 ev39 lv39 uv39
              have A165 : v39 = (ySN (zOv h) (yEp (zOv h)) (qL2).toNat) 85 (qL2).toNat := by rw [ev39, ySN_ne (b := 85) (by decide) (Or.inl (by decide))]; exact Rh34.f (a1 := 85) (a2 := 85) (j1 := 0) (j2 := 20) (by decide +kernel) (by first | decide | exact ⟨by decide, by decide⟩) (by first | omega | exact ⟨by omega, by omega⟩)
              refine zwW_add (nx := 166) (by decide +kernel) (by first | omega | exact ⟨by omega, by omega⟩) ?_
              refine zwW_p [(0, 1, 0)] (q := 167) (ls' := [(2, 37), (0, nL2), (0, mL2), (0, qL2), (0, v5), (1, v18), (9, 0)]) (st' := [(0, 1), (0, (v38 + v39)), (0, v37), (0, v5), (2, 177)]) (by decide +kernel) rfl ?_
              refine zwW_sub (nx := 168) (by decide +kernel) (by first | omega | exact ⟨by omega, by omega⟩) ?_
              refine zwW_p [(1, 0, 2)] (q := 169) (ls' := [(2, 37), (0, nL2), (0, mL2), (0, qL2), (0, v5), (1, v18), (9, 0)]) (st' := [(2, 37), (0, ((v38 + v39) - 1)), (0, v37), (0, v5), (2, 177)]) (by decide +kernel) rfl ?_
              refine zwW_gc Ih34 (kd := 13) (bn := 26) (n := 97) (c := 85) (nx := 172) (by decide +kernel) ?_
              refine zwW_p [(1, 3, 0)] (q := 173) (ls' := [(2, 37), (0, nL2), (0, mL2), (0, qL2), (0, v5), (1, v18), (9, 0)]) (st' := [(0, qL2), (2, 85), (0, ((v38 + v39) - 1)), (0, v37), (0, v5), (2, 177)]) (by decide +kernel) rfl ?_
              refine zwW_al Ih34 (a1 := 85) (a2 := 85) (kd := 20) (n := 20) (t := 0) (lo := 0) (hi := 60) (nx := 174) (by decide +kernel) (by first | decide | exact ⟨by decide, by decide⟩) ib1 ?_
              intro v40 ev40 lv40 uv40
              have B174 := Rh34.f (a1 := 85) (a2 := 85) (j1 := 0) (j2 := 20) (by decide +kernel) (r := 85) (j := (qL2).toNat) (by first | decide | exact ⟨by decide, by decide⟩) (by first | omega | exact ⟨by omega, by omega⟩)
              have A174 : v40 = (ySN (zOv h) (yEp (zOv h)) (qL2).toNat) 85 (qL2).toNat := by rw [ev40, ySN_ne (b := 85) (by decide) (Or.inl (by decide))]; exact Rh34.f (a1 := 85) (a2 := 85) (j1 := 0) (j2 := 20) (by decide +kernel) (by first | decide | exact ⟨by decide, by decide⟩) (by first | omega | exact ⟨by omega, by omega⟩)
              refine zwW_div (nx := 175) (by decide +kernel) (by omega) (by omega) (by omega) ?_
              obtain ⟨v41, ev41⟩ : ∃ z, z = ((v38 + v39) - 1) / v40 := ⟨_, rfl⟩
              rw [← ev41]
              have Q175 : v41 = (yX (ySN (zOv h) (yEp (zOv h)) (qL2).toNat) (yEp (zOv h)) (qL2).toNat + (ySN (zOv h) (yEp (zOv h)) (qL2).toNat) 85 (qL2).toNat - 1) / (ySN (zOv h) (yEp (zOv h)) (qL2).toNat) 85 (qL2).toNat := by rw [ev41, V159, A165, A174]
              have R175 := zceil UB.1 (by omega) UB.2.2.1
              refine zwW_sub (nx := 176) (by decide +kernel) (by first | omega | exact ⟨by omega, by omega⟩) ?_
              refine zwW_as Ih34 (a1 := 177) (a2 := 177) (n := 8) (lo := -2147483648) (hi := 2147483647) (nx := 177) (by decide +kernel) (by first | decide | exact ⟨by decide, by decide⟩) ib3 (by first | omega | exact ⟨by omega, by omega⟩) ?_
              intro h42 eh42 Ih42
              have jbh42 : 0 ≤ v5.toNat ∧ v5.toNat < 8 := ⟨Nat.zero_le _, zit ib3⟩
              have N176 : fld h42 176 = fld h34 176 := funext (fun j => fld_oth eh42 (Or.inl (by decide)))
              have M176 := fwi eh42 (Ih34.s (a1 := 177) (a2 := 177) (k := 20) (n := 8) (by decide +kernel) (by decide) (by decide)) (by omega)
              have Rh42 : zMR ms221 h h42 := Rh34.w (a1 := 177) (a2 := 177) (j1 := 0) (j2 := 8) (by decide +kernel) (by first | decide | exact ⟨by decide, by decide⟩) jbh42 eh42
              refine zwW_inc (i := 2) (c := 1) (x := mL2) (nx := 180) (by decide +kernel) rfl (by first | omega | exact ⟨by omega, by omega⟩) (ls' := [(2, 37), (0, nL2), (0, (mL2 + 1)), (0, qL2), (0, v5), (1, v18), (9, 0)]) rfl ?_
              refine zwW_p [(1, 1, 0), (1, 0, 2)] (q := 182) (ls' := [(2, 37), (0, nL2), (0, (mL2 + 1)), (0, qL2), (0, v5), (1, v18), (9, 0)]) (st' := [(2, 37), (0, nL2)]) (by decide +kernel) rfl ?_
              refine zwW_gc Ih42 (kd := 13) (bn := 65) (n := 97) (c := 176) (nx := 185) (by decide +kernel) ?_
              refine zwW_p [(1, 3, 0)] (q := 186) (ls' := [(2, 37), (0, nL2), (0, (mL2 + 1)), (0, qL2), (0, v5), (1, v18), (9, 0)]) (st' := [(0, qL2), (2, 176), (0, nL2)]) (by decide +kernel) rfl ?_
              refine zwW_al Ih42 (a1 := 176) (a2 := 176) (kd := 20) (n := 20) (t := 0) (lo := -2147483648) (hi := 2147483647) (nx := 187) (by decide +kernel) (by first | decide | exact ⟨by decide, by decide⟩) ib1 ?_
              intro v43 ev43 lv43 uv43
              have V187 : v43 = yX (ySN (zOv h) (yEp (zOv h)) (qL2).toNat) (yEp (zOv h)) (qL2).toNat := by rw [ev43, congrFun N176 (qL2).toNat, V132, U132]
              refine zwW_add (nx := 188) (by decide +kernel) (by first | omega | exact ⟨by omega, by omega⟩) ?_
              refine zwW_p [(2, 1, 0)] (q := 189) (ls' := [(2, 37), (0, (nL2 + v43)), (0, (mL2 + 1)), (0, qL2), (0, v5), (1, v18), (9, 0)]) (st' := []) (by decide +kernel) rfl ?_
              have Z189 : (∀ v : Nat, fld h42 177 v = ySN (zOv h) (yEp (zOv h)) (qL2 + 1).toNat 66 v) ∧ (mL2 + 1) = ySN (zOv h) (yEp (zOv h)) (qL2 + 1).toNat 37 64 ∧ (nL2 + v43) = yTo (zOv h) (yEp (zOv h)) (qL2 + 1).toNat ∧ (∀ k : Nat, (k : Int) < qL2 + 1 → fld h42 176 k = yX (ySN (zOv h) (yEp (zOv h)) k) (yEp (zOv h)) k) := by
                rw [show (qL2 + 1).toNat = (qL2).toNat + 1 by omega, YT]
                first
                | (have z0 : yX (ySN (zOv h) (yEp (zOv h)) (qL2).toNat) (yEp (zOv h)) (qL2).toNat = 0 := (by omega); exact ⟨fun v => (by show _ = yS1 (ySN (zOv h) (yEp (zOv h)) (qL2).toNat) (yEp (zOv h)) (qL2).toNat 66 v; rw [yS1_0 z0]; exact C132 v), (by show _ = yS1 (ySN (zOv h) (yEp (zOv h)) (qL2).toNat) (yEp (zOv h)) (qL2).toNat 37 64; rw [yS1_0 z0]; exact iL2_5), (by rw [z0]; omega), K132⟩)
                | (have z1 : 0 < yX (ySN (zOv h) (yEp (zOv h)) (qL2).toNat) (yEp (zOv h)) (qL2).toNat := (by omega); exact ⟨fun v => (by show _ = yS1 (ySN (zOv h) (yEp (zOv h)) (qL2).toNat) (yEp (zOv h)) (qL2).toNat 66 v; rw [yS1_p z1]; show _ = zs (ySN (zOv h) (yEp (zOv h)) (qL2).toNat) 66 _ _ 66 v; rw [zs_if, M176 v, C132 v]; by_cases zz : v = (v5).toNat; (rw [if_pos zz, if_pos ⟨rfl, by rw [zz, a79]⟩]; omega); (rw [if_neg zz, if_neg (fun w => zz (by rw [w.2, a79]))])), (by show _ = yS1 (ySN (zOv h) (yEp (zOv h)) (qL2).toNat) (yEp (zOv h)) (qL2).toNat 37 64; rw [yS1_p z1, zs_eq]; omega), (by omega), fun k hk => (congrFun N176 k).trans (K132 k hk)⟩)
              refine zwW_inc (i := 3) (c := 1) (x := qL2) (nx := 192) (by decide +kernel) rfl (by first | omega | exact ⟨by omega, by omega⟩) (ls' := [(2, 37), (0, (nL2 + v43)), (0, (mL2 + 1)), (0, (qL2 + 1)), (0, v5), (1, v18), (9, 0)]) rfl ?_
              refine zwW_p [(24, 9, 0)] (q := 9) (ls' := [(2, 37), (0, (nL2 + v43)), (0, (mL2 + 1)), (0, (qL2 + 1)), (0, v5), (1, v18), (9, 0)]) (st' := []) (by decide +kernel) rfl ?_
              exact IHL2 ((100 - (qL2 + 1))).toNat (by omega) (nL2 + v43) (mL2 + 1) (qL2 + 1) (0, v5) (1, v18) (9, 0) h42 rfl (by omega) (by omega) (by omega) (by rw [show (qL2 + 1).toNat = (qL2).toNat + 1 by omega]; first | (rw [N176, S132, if_neg (by omega), N132]; omega) | (rw [S132, if_pos (by omega), N132]; omega)) (Z189.1) (Z189.2.1) (Z189.2.2.1) (Z189.2.2.2) (by omega) Ih42 Rh42
            · refine zwW_p [(24, 189, 0)] (q := 189) (ls' := [(2, 37), (0, nL2), (0, mL2), (0, qL2), (0, v5), (1, v18), (9, 0)]) (st' := []) (by decide +kernel) rfl ?_
              have Z189 : (∀ v : Nat, fld h34 177 v = ySN (zOv h) (yEp (zOv h)) (qL2 + 1).toNat 66 v) ∧ mL2 = ySN (zOv h) (yEp (zOv h)) (qL2 + 1).toNat 37 64 ∧ nL2 = yTo (zOv h) (yEp (zOv h)) (qL2 + 1).toNat ∧ (∀ k : Nat, (k : Int) < qL2 + 1 → fld h34 176 k = yX (ySN (zOv h) (yEp (zOv h)) k) (yEp (zOv h)) k) := by
                rw [show (qL2 + 1).toNat = (qL2).toNat + 1 by omega, YT]
                first
                | (have z0 : yX (ySN (zOv h) (yEp (zOv h)) (qL2).toNat) (yEp (zOv h)) (qL2).toNat = 0 := (by omega); exact ⟨fun v => (by show _ = yS1 (ySN (zOv h) (yEp (zOv h)) (qL2).toNat) (yEp (zOv h)) (qL2).toNat 66 v; rw [yS1_0 z0]; exact C132 v), (by show _ = yS1 (ySN (zOv h) (yEp (zOv h)) (qL2).toNat) (yEp (zOv h)) (qL2).toNat 37 64; rw [yS1_0 z0]; exact iL2_5), (by rw [z0]; omega), K132⟩)
                | (have z1 : 0 < yX (ySN (zOv h) (yEp (zOv h)) (qL2).toNat) (yEp (zOv h)) (qL2).toNat := (by omega); exact ⟨fun v => (by show _ = yS1 (ySN (zOv h) (yEp (zOv h)) (qL2).toNat) (yEp (zOv h)) (qL2).toNat 66 v; rw [yS1_p z1]; show _ = zs (ySN (zOv h) (yEp (zOv h)) (qL2).toNat) 66 _ _ 66 v; rw [zs_if, M176 v, C132 v]; by_cases zz : v = (v5).toNat; (rw [if_pos zz, if_pos ⟨rfl, by rw [zz, a79]⟩]; omega); (rw [if_neg zz, if_neg (fun w => zz (by rw [w.2, a79]))])), (by show _ = yS1 (ySN (zOv h) (yEp (zOv h)) (qL2).toNat) (yEp (zOv h)) (qL2).toNat 37 64; rw [yS1_p z1, zs_eq]; omega), (by omega), fun k hk => (congrFun N176 k).trans (K132 k hk)⟩)
              refine zwW_inc (i := 3) (c := 1) (x := qL2) (nx := 192) (by decide +kernel) rfl (by first | omega | exact ⟨by omega, by omega⟩) (ls' := [(2, 37), (0, nL2), (0, mL2), (0, (qL2 + 1)), (0, v5), (1, v18), (9, 0)]) rfl ?_
              refine zwW_p [(24, 9, 0)] (q := 9) (ls' := [(2, 37), (0, nL2), (0, mL2), (0, (qL2 + 1)), (0, v5), (1, v18), (9, 0)]) (st' := []) (by decide +kernel) rfl ?_
              exact IHL2 ((100 - (qL2 + 1))).toNat (by omega) nL2 mL2 (qL2 + 1) (0, v5) (1, v18) (9, 0) h34 rfl (by omega) (by omega) (by omega) (by rw [show (qL2 + 1).toNat = (qL2).toNat + 1 by omega]; first | (rw [N176, S132, if_neg (by omega), N132]; omega) | (rw [S132, if_pos (by omega), N132]; omega)) (Z189.1) (Z189.2.1) (Z189.2.2.1) (Z189.2.2.2) (by omega) Ih34 Rh34
        · refine zwW_p [(1, 0, 2)] (q := 96) (ls' := [(2, 37), (0, nL2), (0, mL2), (0, qL2), (0, v5), (1, v18), (9, 0)]) (st' := [(2, 37)]) (by decide +kernel) rfl ?_
          refine zwW_gc IhL2 (kd := 13) (bn := 66) (n := 97) (c := 177) (nx := 99) (by decide +kernel) ?_
          refine zwW_p [(1, 4, 0)] (q := 101) (ls' := [(2, 37), (0, nL2), (0, mL2), (0, qL2), (0, v5), (1, v18), (9, 0)]) (st' := [(0, v5), (2, 177)]) (by decide +kernel) rfl ?_
          refine zwW_al IhL2 (a1 := 177) (a2 := 177) (kd := 20) (n := 8) (t := 0) (lo := -2147483648) (hi := 2147483647) (nx := 102) (by decide +kernel) (by first | decide | exact ⟨by decide, by decide⟩) ib3 ?_
          intro v44 ev44 lv44 uv44
          have c102 : v44 = v19 := by rw [ev44, ev19]
          refine zwW_p [(7, 0, 0), (1, 0, 2)] (q := 104) (ls' := [(2, 37), (0, nL2), (0, mL2), (0, qL2), (0, v5), (1, v18), (9, 0)]) (st' := [(2, 37), (1, v44)]) (by decide +kernel) rfl ?_
          refine zwW_gc IhL2 (kd := 13) (bn := 26) (n := 97) (c := 85) (nx := 107) (by decide +kernel) ?_
          refine zwW_p [(1, 3, 0)] (q := 108) (ls' := [(2, 37), (0, nL2), (0, mL2), (0, qL2), (0, v5), (1, v18), (9, 0)]) (st' := [(0, qL2), (2, 85), (1, v44)]) (by decide +kernel) rfl ?_
          refine zwW_al IhL2 (a1 := 85) (a2 := 85) (kd := 20) (n := 20) (t := 0) (lo := 0) (hi := 60) (nx := 109) (by decide +kernel) (by first | decide | exact ⟨by decide, by decide⟩) ib1 ?_
          intro v45 ev45 lv45 uv45
          have d109 : v45 = v17 := by rw [ev45, ev17]
          refine zwW_p [(7, 0, 0)] (q := 110) (ls' := [(2, 37), (0, nL2), (0, mL2), (0, qL2), (0, v5), (1, v18), (9, 0)]) (st' := [(1, v45), (1, v44)]) (by decide +kernel) rfl ?_
          refine zwW_lmulp (A := 9999) (B := 60) (nx := 111) (by decide +kernel) (by first | omega | exact ⟨by omega, by omega⟩) (by first | omega | exact ⟨by omega, by omega⟩) (by decide) ?_
          intro v46 ev46 lv46 uv46
          have q111 : v46 = v19 * v17 := by rw [ev46, c102, d109]
          refine zwW_p [(2, 5, 1), (1, 0, 2)] (q := 114) (ls' := [(2, 37), (0, nL2), (0, mL2), (0, qL2), (0, v5), (1, v46), (9, 0)]) (st' := [(2, 37)]) (by decide +kernel) rfl ?_
          refine zwW_gc IhL2 (kd := 13) (bn := 65) (n := 97) (c := 176) (nx := 117) (by decide +kernel) ?_
          refine zwW_p [(1, 3, 0), (1, 2, 0), (0, 300, 0)] (q := 122) (ls' := [(2, 37), (0, nL2), (0, mL2), (0, qL2), (0, v5), (1, v46), (9, 0)]) (st' := [(0, 300), (0, mL2), (0, qL2), (2, 176)]) (by decide +kernel) rfl ?_
          refine zwic_ne (q := 129) (nx := 125) (by decide +kernel) (fun c47 => ?_) (fun c47 => ?_)
          · refine zwW_p [(1, 5, 1)] (q := 131) (ls' := [(2, 37), (0, nL2), (0, mL2), (0, qL2), (0, v5), (1, v46), (9, 0)]) (st' := [(1, v46), (0, qL2), (2, 176)]) (by decide +kernel) rfl ?_
            refine zwW_l2i (nx := 132) (by decide +kernel) (by first | omega | exact ⟨by omega, by omega⟩) ?_
            refine zwW_as IhL2 (a1 := 176) (a2 := 176) (n := 20) (lo := -2147483648) (hi := 2147483647) (nx := 133) (by decide +kernel) (by first | decide | exact ⟨by decide, by decide⟩) ib1 (by first | omega | exact ⟨by omega, by omega⟩) ?_
            intro h48 eh48 Ih48
            have jbh48 : 0 ≤ qL2.toNat ∧ qL2.toNat < 20 := ⟨Nat.zero_le _, zit ib1⟩
            have N132 : zNZ (fld h48 176) (qL2).toNat = zNZ (fld hL2 176) (qL2).toNat := zNZ_c _ (fun j hj => fld_oth eh48 (Or.inr (by omega)))
            have V132 : fld h48 176 (qL2).toNat = v46 := by rw [eh48]; exact fld_wr_eq (IhL2.s (a1 := 176) (a2 := 176) (k := 20) (n := 20) (by decide +kernel) (by decide) (by decide)) (by omega)
            have S132 : zNZ (fld h48 176) ((qL2).toNat + 1) = zNZ (fld h48 176) (qL2).toNat + (if fld h48 176 (qL2).toNat = 0 then 0 else 1) := rfl
            have U132 : v46 = yX (ySN (zOv h) (yEp (zOv h)) (qL2).toNat) (yEp (zOv h)) (qL2).toNat := by
              unfold yX yHk
              first
              | rw [if_pos (by omega)]
              | (rw [if_neg (by omega), ← a80, ← a39, ← a81, ← a85, ← a66, ← q71, ← q91]; omega)
            have C132 : ∀ v : Nat, fld h48 177 v = (ySN (zOv h) (yEp (zOv h)) (qL2).toNat) 66 v := fun v => by rw [eh48, fld_wr (Or.inl (by decide))]; exact iL2_4 v
            have K132 : ∀ k : Nat, (k : Int) < qL2 + 1 → fld h48 176 k = yX (ySN (zOv h) (yEp (zOv h)) k) (yEp (zOv h)) k := by
              intro k hk
              by_cases z : k = (qL2).toNat
              · rw [z, V132, U132]
              · rw [eh48, fld_wr (Or.inr z)]; exact iL2_7 k (by omega)
            have Rh48 : zMR ms221 h h48 := RhL2.w (a1 := 176) (a2 := 176) (j1 := 0) (j2 := 20) (by decide +kernel) (by first | decide | exact ⟨by decide, by decide⟩) jbh48 eh48
            refine zwW_p [(1, 0, 2)] (q := 134) (ls' := [(2, 37), (0, nL2), (0, mL2), (0, qL2), (0, v5), (1, v46), (9, 0)]) (st' := [(2, 37)]) (by decide +kernel) rfl ?_
            refine zwW_gc Ih48 (kd := 13) (bn := 65) (n := 97) (c := 176) (nx := 137) (by decide +kernel) ?_
            refine zwW_p [(1, 3, 0)] (q := 138) (ls' := [(2, 37), (0, nL2), (0, mL2), (0, qL2), (0, v5), (1, v46), (9, 0)]) (st' := [(0, qL2), (2, 176)]) (by decide +kernel) rfl ?_
            refine zwW_al Ih48 (a1 := 176) (a2 := 176) (kd := 20) (n := 20) (t := 0) (lo := -2147483648) (hi := 2147483647) (nx := 139) (by decide +kernel) (by first | decide | exact ⟨by decide, by decide⟩) ib1 ?_
            intro v49 ev49 lv49 uv49
            have V139 : v49 = yX (ySN (zOv h) (yEp (zOv h)) (qL2).toNat) (yEp (zOv h)) (qL2).toNat := by rw [ev49, V132, U132]
            refine zwif_ne (q := 145) (nx := 142) (by decide +kernel) (fun c50 => ?_) (fun c50 => ?_)
            · refine zwW_p [(1, 0, 2)] (q := 146) (ls' := [(2, 37), (0, nL2), (0, mL2), (0, qL2), (0, v5), (1, v46), (9, 0)]) (st' := [(2, 37)]) (by decide +kernel) rfl ?_
              refine zwW_gc Ih48 (kd := 13) (bn := 66) (n := 97) (c := 177) (nx := 149) (by decide +kernel) ?_
              refine zwW_p [(1, 4, 0), (14, 0, 0)] (q := 152) (ls' := [(2, 37), (0, nL2), (0, mL2), (0, qL2), (0, v5), (1, v46), (9, 0)]) (st' := [(0, v5), (2, 177), (0, v5), (2, 177)]) (by decide +kernel) rfl ?_
              refine zwW_al Ih48 (a1 := 177) (a2 := 177) (kd := 20) (n := 8) (t := 0) (lo := -2147483648) (hi := 2147483647) (nx := 153) (by decide +kernel) (by first | decide | exact ⟨by decide, by decide⟩) ib3 ?_
              intro v51 ev51 lv51 uv51
              have C153 : v51 = (ySN (zOv h) (yEp (zOv h)) (qL2).toNat) 66 ((ySN (zOv h) (yEp (zOv h)) (qL2).toNat) 79 (qL2).toNat).toNat := by rw [ev51, ← a79]; exact C132 _
              refine zwW_p [(1, 0, 2)] (q := 154) (ls' := [(2, 37), (0, nL2), (0, mL2), (0, qL2), (0, v5), (1, v46), (9, 0)]) (st' := [(2, 37), (0, v51), (0, v5), (2, 177)]) (by decide +kernel) rfl ?_
              refine zwW_gc Ih48 (kd := 13) (bn := 65) (n := 97) (c := 176) (nx := 157) (by decide +kernel) ?_
              refine zwW_p [(1, 3, 0)] (q := 158) (ls' := [(2, 37), (0, nL2), (0, mL2), (0, qL2), (0, v5), (1, v46), (9, 0)]) (st' := [(0, qL2), (2, 176), (0, v51), (0, v5), (2, 177)]) (by decide +kernel) rfl ?_
              refine zwW_al Ih48 (a1 := 176) (a2 := 176) (kd := 20) (n := 20) (t := 0) (lo := -2147483648) (hi := 2147483647) (nx := 159) (by decide +kernel) (by first | decide | exact ⟨by decide, by decide⟩) ib1 ?_
              intro v52 ev52 lv52 uv52
              have V159 : v52 = yX (ySN (zOv h) (yEp (zOv h)) (qL2).toNat) (yEp (zOv h)) (qL2).toNat := by rw [ev52, V132, U132]
              refine zwW_p [(1, 0, 2)] (q := 160) (ls' := [(2, 37), (0, nL2), (0, mL2), (0, qL2), (0, v5), (1, v46), (9, 0)]) (st' := [(2, 37), (0, v52), (0, v51), (0, v5), (2, 177)]) (by decide +kernel) rfl ?_
              refine zwW_gc Ih48 (kd := 13) (bn := 26) (n := 97) (c := 85) (nx := 163) (by decide +kernel) ?_
              refine zwW_p [(1, 3, 0)] (q := 164) (ls' := [(2, 37), (0, nL2), (0, mL2), (0, qL2), (0, v5), (1, v46), (9, 0)]) (st' := [(0, qL2), (2, 85), (0, v52), (0, v51), (0, v5), (2, 177)]) (by decide +kernel) rfl ?_
              refine zwW_al Ih48 (a1 := 85) (a2 := 85) (kd := 20) (n := 20) (t := 0) (lo := 0) (hi := 60) (nx := 165) (by decide +kernel) (by first | decide | exact ⟨by decide, by decide⟩) ib1 ?_
              intro v53 ev53 lv53 uv53
              have A165 : v53 = (ySN (zOv h) (yEp (zOv h)) (qL2).toNat) 85 (qL2).toNat := by rw [ev53, ySN_ne (b := 85) (by decide) (Or.inl (by decide))]; exact Rh48.f (a1 := 85) (a2 := 85) (j1 := 0) (j2 := 20) (by decide +kernel) (by first | decide | exact ⟨by decide, by decide⟩) (by first | omega | exact ⟨by omega, by omega⟩)
              refine zwW_add (nx := 166) (by decide +kernel) (by first | omega | exact ⟨by omega, by omega⟩) ?_
              refine zwW_p [(0, 1, 0)] (q := 167) (ls' := [(2, 37), (0, nL2), (0, mL2), (0, qL2), (0, v5), (1, v46), (9, 0)]) (st' := [(0, 1), (0, (v52 + v53)), (0, v51), (0, v5), (2, 177)]) (by decide +kernel) rfl ?_
              refine zwW_sub (nx := 168) (by decide +kernel) (by first | omega | exact ⟨by omega, by omega⟩) ?_
              refine zwW_p [(1, 0, 2)] (q := 169) (ls' := [(2, 37), (0, nL2), (0, mL2), (0, qL2), (0, v5), (1, v46), (9, 0)]) (st' := [(2, 37), (0, ((v52 + v53) - 1)), (0, v51), (0, v5), (2, 177)]) (by decide +kernel) rfl ?_
              refine zwW_gc Ih48 (kd := 13) (bn := 26) (n := 97) (c := 85) (nx := 172) (by decide +kernel) ?_
              refine zwW_p [(1, 3, 0)] (q := 173) (ls' := [(2, 37), (0, nL2), (0, mL2), (0, qL2), (0, v5), (1, v46), (9, 0)]) (st' := [(0, qL2), (2, 85), (0, ((v52 + v53) - 1)), (0, v51), (0, v5), (2, 177)]) (by decide +kernel) rfl ?_
              refine zwW_al Ih48 (a1 := 85) (a2 := 85) (kd := 20) (n := 20) (t := 0) (lo := 0) (hi := 60) (nx := 174) (by decide +kernel) (by first | decide | exact ⟨by decide, by decide⟩) ib1 ?_
              intro v54 ev54 lv54 uv54
              have B174 := Rh48.f (a1 := 85) (a2 := 85) (j1 := 0) (j2 := 20) (by decide +kernel) (r := 85) (j := (qL2).toNat) (by first | decide | exact ⟨by decide, by decide⟩) (by first | omega | exact ⟨by omega, by omega⟩)
              have A174 : v54 = (ySN (zOv h) (yEp (zOv h)) (qL2).toNat) 85 (qL2).toNat := by rw [ev54, ySN_ne (b := 85) (by decide) (Or.inl (by decide))]; exact Rh48.f (a1 := 85) (a2 := 85) (j1 := 0) (j2 := 20) (by decide +kernel) (by first | decide | exact ⟨by decide, by decide⟩) (by first | omega | exact ⟨by omega, by omega⟩)
              refine zwW_div (nx := 175) (by decide +kernel) (by omega) (by omega) (by omega) ?_
              obtain ⟨v55, ev55⟩ : ∃ z, z = ((v52 + v53) - 1) / v54 := ⟨_, rfl⟩
              rw [← ev55]
              have Q175 : v55 = (yX (ySN (zOv h) (yEp (zOv h)) (qL2).toNat) (yEp (zOv h)) (qL2).toNat + (ySN (zOv h) (yEp (zOv h)) (qL2).toNat) 85 (qL2).toNat - 1) / (ySN (zOv h) (yEp (zOv h)) (qL2).toNat) 85 (qL2).toNat := by rw [ev55, V159, A165, A174]
              have R175 := zceil UB.1 (by omega) UB.2.2.1
              refine zwW_sub (nx := 176) (by decide +kernel) (by first | omega | exact ⟨by omega, by omega⟩) ?_
              refine zwW_as Ih48 (a1 := 177) (a2 := 177) (n := 8) (lo := -2147483648) (hi := 2147483647) (nx := 177) (by decide +kernel) (by first | decide | exact ⟨by decide, by decide⟩) ib3 (by first | omega | exact ⟨by omega, by omega⟩) ?_
              intro h56 eh56 Ih56
              have jbh56 : 0 ≤ v5.toNat ∧ v5.toNat < 8 := ⟨Nat.zero_le _, zit ib3⟩
              have N176 : fld h56 176 = fld h48 176 := funext (fun j => fld_oth eh56 (Or.inl (by decide)))
              have M176 := fwi eh56 (Ih48.s (a1 := 177) (a2 := 177) (k := 20) (n := 8) (by decide +kernel) (by decide) (by decide)) (by omega)
              have Rh56 : zMR ms221 h h56 := Rh48.w (a1 := 177) (a2 := 177) (j1 := 0) (j2 := 8) (by decide +kernel) (by first | decide | exact ⟨by decide, by decide⟩) jbh56 eh56
              refine zwW_inc (i := 2) (c := 1) (x := mL2) (nx := 180) (by decide +kernel) rfl (by first | omega | exact ⟨by omega, by omega⟩) (ls' := [(2, 37), (0, nL2), (0, (mL2 + 1)), (0, qL2), (0, v5), (1, v46), (9, 0)]) rfl ?_
              refine zwW_p [(1, 1, 0), (1, 0, 2)] (q := 182) (ls' := [(2, 37), (0, nL2), (0, (mL2 + 1)), (0, qL2), (0, v5), (1, v46), (9, 0)]) (st' := [(2, 37), (0, nL2)]) (by decide +kernel) rfl ?_
              refine zwW_gc Ih56 (kd := 13) (bn := 65) (n := 97) (c := 176) (nx := 185) (by decide +kernel) ?_
              refine zwW_p [(1, 3, 0)] (q := 186) (ls' := [(2, 37), (0, nL2), (0, (mL2 + 1)), (0, qL2), (0, v5), (1, v46), (9, 0)]) (st' := [(0, qL2), (2, 176), (0, nL2)]) (by decide +kernel) rfl ?_
              refine zwW_al Ih56 (a1 := 176) (a2 := 176) (kd := 20) (n := 20) (t := 0) (lo := -2147483648) (hi := 2147483647) (nx := 187) (by decide +kernel) (by first | decide | exact ⟨by decide, by decide⟩) ib1 ?_
              intro v57 ev57 lv57 uv57
              have V187 : v57 = yX (ySN (zOv h) (yEp (zOv h)) (qL2).toNat) (yEp (zOv h)) (qL2).toNat := by rw [ev57, congrFun N176 (qL2).toNat, V132, U132]
              refine zwW_add (nx := 188) (by decide +kernel) (by first | omega | exact ⟨by omega, by omega⟩) ?_
              refine zwW_p [(2, 1, 0)] (q := 189) (ls' := [(2, 37), (0, (nL2 + v57)), (0, (mL2 + 1)), (0, qL2), (0, v5), (1, v46), (9, 0)]) (st' := []) (by decide +kernel) rfl ?_
              have Z189 : (∀ v : Nat, fld h56 177 v = ySN (zOv h) (yEp (zOv h)) (qL2 + 1).toNat 66 v) ∧ (mL2 + 1) = ySN (zOv h) (yEp (zOv h)) (qL2 + 1).toNat 37 64 ∧ (nL2 + v57) = yTo (zOv h) (yEp (zOv h)) (qL2 + 1).toNat ∧ (∀ k : Nat, (k : Int) < qL2 + 1 → fld h56 176 k = yX (ySN (zOv h) (yEp (zOv h)) k) (yEp (zOv h)) k) := by
                rw [show (qL2 + 1).toNat = (qL2).toNat + 1 by omega, YT]
                first
                | (have z0 : yX (ySN (zOv h) (yEp (zOv h)) (qL2).toNat) (yEp (zOv h)) (qL2).toNat = 0 := (by omega); exact ⟨fun v => (by show _ = yS1 (ySN (zOv h) (yEp (zOv h)) (qL2).toNat) (yEp (zOv h)) (qL2).toNat 66 v; rw [yS1_0 z0]; exact C132 v), (by show _ = yS1 (ySN (zOv h) (yEp (zOv h)) (qL2).toNat) (yEp (zOv h)) (qL2).toNat 37 64; rw [yS1_0 z0]; exact iL2_5), (by rw [z0]; omega), K132⟩)
                | (have z1 : 0 < yX (ySN (zOv h) (yEp (zOv h)) (qL2).toNat) (yEp (zOv h)) (qL2).toNat := (by omega); exact ⟨fun v => (by show _ = yS1 (ySN (zOv h) (yEp (zOv h)) (qL2).toNat) (yEp (zOv h)) (qL2).toNat 66 v; rw [yS1_p z1]; show _ = zs (ySN (zOv h) (yEp (zOv h)) (qL2).toNat) 66 _ _ 66 v; rw [zs_if, M176 v, C132 v]; by_cases zz : v = (v5).toNat; (rw [if_pos zz, if_pos ⟨rfl, by rw [zz, a79]⟩]; omega); (rw [if_neg zz, if_neg (fun w => zz (by rw [w.2, a79]))])), (by show _ = yS1 (ySN (zOv h) (yEp (zOv h)) (qL2).toNat) (yEp (zOv h)) (qL2).toNat 37 64; rw [yS1_p z1, zs_eq]; omega), (by omega), fun k hk => (congrFun N176 k).trans (K132 k hk)⟩)
              refine zwW_inc (i := 3) (c := 1) (x := qL2) (nx := 192) (by decide +kernel) rfl (by first | omega | exact ⟨by omega, by omega⟩) (ls' := [(2, 37), (0, (nL2 + v57)), (0, (mL2 + 1)), (0, (qL2 + 1)), (0, v5), (1, v46), (9, 0)]) rfl ?_
              refine zwW_p [(24, 9, 0)] (q := 9) (ls' := [(2, 37), (0, (nL2 + v57)), (0, (mL2 + 1)), (0, (qL2 + 1)), (0, v5), (1, v46), (9, 0)]) (st' := []) (by decide +kernel) rfl ?_
              exact IHL2 ((100 - (qL2 + 1))).toNat (by omega) (nL2 + v57) (mL2 + 1) (qL2 + 1) (0, v5) (1, v46) (9, 0) h56 rfl (by omega) (by omega) (by omega) (by rw [show (qL2 + 1).toNat = (qL2).toNat + 1 by omega]; first | (rw [N176, S132, if_neg (by omega), N132]; omega) | (rw [S132, if_pos (by omega), N132]; omega)) (Z189.1) (Z189.2.1) (Z189.2.2.1) (Z189.2.2.2) (by omega) Ih56 Rh56
            · refine zwW_p [(24, 189, 0)] (q := 189) (ls' := [(2, 37), (0, nL2), (0, mL2), (0, qL2), (0, v5), (1, v46), (9, 0)]) (st' := []) (by decide +kernel) rfl ?_
              have Z189 : (∀ v : Nat, fld h48 177 v = ySN (zOv h) (yEp (zOv h)) (qL2 + 1).toNat 66 v) ∧ mL2 = ySN (zOv h) (yEp (zOv h)) (qL2 + 1).toNat 37 64 ∧ nL2 = yTo (zOv h) (yEp (zOv h)) (qL2 + 1).toNat ∧ (∀ k : Nat, (k : Int) < qL2 + 1 → fld h48 176 k = yX (ySN (zOv h) (yEp (zOv h)) k) (yEp (zOv h)) k) := by
                rw [show (qL2 + 1).toNat = (qL2).toNat + 1 by omega, YT]
                first
                | (have z0 : yX (ySN (zOv h) (yEp (zOv h)) (qL2).toNat) (yEp (zOv h)) (qL2).toNat = 0 := (by omega); exact ⟨fun v => (by show _ = yS1 (ySN (zOv h) (yEp (zOv h)) (qL2).toNat) (yEp (zOv h)) (qL2).toNat 66 v; rw [yS1_0 z0]; exact C132 v), (by show _ = yS1 (ySN (zOv h) (yEp (zOv h)) (qL2).toNat) (yEp (zOv h)) (qL2).toNat 37 64; rw [yS1_0 z0]; exact iL2_5), (by rw [z0]; omega), K132⟩)
                | (have z1 : 0 < yX (ySN (zOv h) (yEp (zOv h)) (qL2).toNat) (yEp (zOv h)) (qL2).toNat := (by omega); exact ⟨fun v => (by show _ = yS1 (ySN (zOv h) (yEp (zOv h)) (qL2).toNat) (yEp (zOv h)) (qL2).toNat 66 v; rw [yS1_p z1]; show _ = zs (ySN (zOv h) (yEp (zOv h)) (qL2).toNat) 66 _ _ 66 v; rw [zs_if, M176 v, C132 v]; by_cases zz : v = (v5).toNat; (rw [if_pos zz, if_pos ⟨rfl, by rw [zz, a79]⟩]; omega); (rw [if_neg zz, if_neg (fun w => zz (by rw [w.2, a79]))])), (by show _ = yS1 (ySN (zOv h) (yEp (zOv h)) (qL2).toNat) (yEp (zOv h)) (qL2).toNat 37 64; rw [yS1_p z1, zs_eq]; omega), (by omega), fun k hk => (congrFun N176 k).trans (K132 k hk)⟩)
              refine zwW_inc (i := 3) (c := 1) (x := qL2) (nx := 192) (by decide +kernel) rfl (by first | omega | exact ⟨by omega, by omega⟩) (ls' := [(2, 37), (0, nL2), (0, mL2), (0, (qL2 + 1)), (0, v5), (1, v46), (9, 0)]) rfl ?_
              refine zwW_p [(24, 9, 0)] (q := 9) (ls' := [(2, 37), (0, nL2), (0, mL2), (0, (qL2 + 1)), (0, v5), (1, v46), (9, 0)]) (st' := []) (by decide +kernel) rfl ?_
              exact IHL2 ((100 - (qL2 + 1))).toNat (by omega) nL2 mL2 (qL2 + 1) (0, v5) (1, v46) (9, 0) h48 rfl (by omega) (by omega) (by omega) (by rw [show (qL2 + 1).toNat = (qL2).toNat + 1 by omega]; first | (rw [N176, S132, if_neg (by omega), N132]; omega) | (rw [S132, if_pos (by omega), N132]; omega)) (Z189.1) (Z189.2.1) (Z189.2.2.1) (Z189.2.2.2) (by omega) Ih48 Rh48
          · refine zwW_p [(0, 0, 0), (24, 132, 0)] (q := 132) (ls' := [(2, 37), (0, nL2), (0, mL2), (0, qL2), (0, v5), (1, v46), (9, 0)]) (st' := [(0, 0), (0, qL2), (2, 176)]) (by decide +kernel) rfl ?_
            refine zwW_as IhL2 (a1 := 176) (a2 := 176) (n := 20) (lo := -2147483648) (hi := 2147483647) (nx := 133) (by decide +kernel) (by first | decide | exact ⟨by decide, by decide⟩) ib1 (by first | decide | exact ⟨by decide, by decide⟩) ?_
            intro h58 eh58 Ih58
            have jbh58 : 0 ≤ qL2.toNat ∧ qL2.toNat < 20 := ⟨Nat.zero_le _, zit ib1⟩
            have N132 : zNZ (fld h58 176) (qL2).toNat = zNZ (fld hL2 176) (qL2).toNat := zNZ_c _ (fun j hj => fld_oth eh58 (Or.inr (by omega)))
            have V132 : fld h58 176 (qL2).toNat = 0 := by rw [eh58]; exact fld_wr_eq (IhL2.s (a1 := 176) (a2 := 176) (k := 20) (n := 20) (by decide +kernel) (by decide) (by decide)) (by omega)
            have S132 : zNZ (fld h58 176) ((qL2).toNat + 1) = zNZ (fld h58 176) (qL2).toNat + (if fld h58 176 (qL2).toNat = 0 then 0 else 1) := rfl
            have U132 : 0 = yX (ySN (zOv h) (yEp (zOv h)) (qL2).toNat) (yEp (zOv h)) (qL2).toNat := by
              unfold yX yHk
              first
              | rw [if_pos (by omega)]
              | (rw [if_neg (by omega), ← a80, ← a39, ← a81, ← a85, ← a66, ← q71, ← q91]; omega)
            have C132 : ∀ v : Nat, fld h58 177 v = (ySN (zOv h) (yEp (zOv h)) (qL2).toNat) 66 v := fun v => by rw [eh58, fld_wr (Or.inl (by decide))]; exact iL2_4 v
            have K132 : ∀ k : Nat, (k : Int) < qL2 + 1 → fld h58 176 k = yX (ySN (zOv h) (yEp (zOv h)) k) (yEp (zOv h)) k := by
              intro k hk
              by_cases z : k = (qL2).toNat
              · rw [z, V132, U132]
              · rw [eh58, fld_wr (Or.inr z)]; exact iL2_7 k (by omega)
            have Rh58 : zMR ms221 h h58 := RhL2.w (a1 := 176) (a2 := 176) (j1 := 0) (j2 := 20) (by decide +kernel) (by first | decide | exact ⟨by decide, by decide⟩) jbh58 eh58
            refine zwW_p [(1, 0, 2)] (q := 134) (ls' := [(2, 37), (0, nL2), (0, mL2), (0, qL2), (0, v5), (1, v46), (9, 0)]) (st' := [(2, 37)]) (by decide +kernel) rfl ?_
            refine zwW_gc Ih58 (kd := 13) (bn := 65) (n := 97) (c := 176) (nx := 137) (by decide +kernel) ?_
            refine zwW_p [(1, 3, 0)] (q := 138) (ls' := [(2, 37), (0, nL2), (0, mL2), (0, qL2), (0, v5), (1, v46), (9, 0)]) (st' := [(0, qL2), (2, 176)]) (by decide +kernel) rfl ?_
            refine zwW_al Ih58 (a1 := 176) (a2 := 176) (kd := 20) (n := 20) (t := 0) (lo := -2147483648) (hi := 2147483647) (nx := 139) (by decide +kernel) (by first | decide | exact ⟨by decide, by decide⟩) ib1 ?_
            intro v59 ev59 lv59 uv59
            have V139 : v59 = yX (ySN (zOv h) (yEp (zOv h)) (qL2).toNat) (yEp (zOv h)) (qL2).toNat := by rw [ev59, V132, U132]
            refine zwif_ne (q := 145) (nx := 142) (by decide +kernel) (fun c60 => ?_) (fun c60 => ?_)
            · refine zwW_p [(1, 0, 2)] (q := 146) (ls' := [(2, 37), (0, nL2), (0, mL2), (0, qL2), (0, v5), (1, v46), (9, 0)]) (st' := [(2, 37)]) (by decide +kernel) rfl ?_
              refine zwW_gc Ih58 (kd := 13) (bn := 66) (n := 97) (c := 177) (nx := 149) (by decide +kernel) ?_
              refine zwW_p [(1, 4, 0), (14, 0, 0)] (q := 152) (ls' := [(2, 37), (0, nL2), (0, mL2), (0, qL2), (0, v5), (1, v46), (9, 0)]) (st' := [(0, v5), (2, 177), (0, v5), (2, 177)]) (by decide +kernel) rfl ?_
              refine zwW_al Ih58 (a1 := 177) (a2 := 177) (kd := 20) (n := 8) (t := 0) (lo := -2147483648) (hi := 2147483647) (nx := 153) (by decide +kernel) (by first | decide | exact ⟨by decide, by decide⟩) ib3 ?_
              intro v61 ev61 lv61 uv61
              have C153 : v61 = (ySN (zOv h) (yEp (zOv h)) (qL2).toNat) 66 ((ySN (zOv h) (yEp (zOv h)) (qL2).toNat) 79 (qL2).toNat).toNat := by rw [ev61, ← a79]; exact C132 _
              refine zwW_p [(1, 0, 2)] (q := 154) (ls' := [(2, 37), (0, nL2), (0, mL2), (0, qL2), (0, v5), (1, v46), (9, 0)]) (st' := [(2, 37), (0, v61), (0, v5), (2, 177)]) (by decide +kernel) rfl ?_
              refine zwW_gc Ih58 (kd := 13) (bn := 65) (n := 97) (c := 176) (nx := 157) (by decide +kernel) ?_
              refine zwW_p [(1, 3, 0)] (q := 158) (ls' := [(2, 37), (0, nL2), (0, mL2), (0, qL2), (0, v5), (1, v46), (9, 0)]) (st' := [(0, qL2), (2, 176), (0, v61), (0, v5), (2, 177)]) (by decide +kernel) rfl ?_
              refine zwW_al Ih58 (a1 := 176) (a2 := 176) (kd := 20) (n := 20) (t := 0) (lo := -2147483648) (hi := 2147483647) (nx := 159) (by decide +kernel) (by first | decide | exact ⟨by decide, by decide⟩) ib1 ?_
              intro v62 ev62 lv62 uv62
              have V159 : v62 = yX (ySN (zOv h) (yEp (zOv h)) (qL2).toNat) (yEp (zOv h)) (qL2).toNat := by rw [ev62, V132, U132]
              refine zwW_p [(1, 0, 2)] (q := 160) (ls' := [(2, 37), (0, nL2), (0, mL2), (0, qL2), (0, v5), (1, v46), (9, 0)]) (st' := [(2, 37), (0, v62), (0, v61), (0, v5), (2, 177)]) (by decide +kernel) rfl ?_
              refine zwW_gc Ih58 (kd := 13) (bn := 26) (n := 97) (c := 85) (nx := 163) (by decide +kernel) ?_
              refine zwW_p [(1, 3, 0)] (q := 164) (ls' := [(2, 37), (0, nL2), (0, mL2), (0, qL2), (0, v5), (1, v46), (9, 0)]) (st' := [(0, qL2), (2, 85), (0, v62), (0, v61), (0, v5), (2, 177)]) (by decide +kernel) rfl ?_
              refine zwW_al Ih58 (a1 := 85) (a2 := 85) (kd := 20) (n := 20) (t := 0) (lo := 0) (hi := 60) (nx := 165) (by decide +kernel) (by first | decide | exact ⟨by decide, by decide⟩) ib1 ?_
              intro v63 ev63 lv63 uv63
              have A165 : v63 = (ySN (zOv h) (yEp (zOv h)) (qL2).toNat) 85 (qL2).toNat := by rw [ev63, ySN_ne (b := 85) (by decide) (Or.inl (by decide))]; exact Rh58.f (a1 := 85) (a2 := 85) (j1 := 0) (j2 := 20) (by decide +kernel) (by first | decide | exact ⟨by decide, by decide⟩) (by first | omega | exact ⟨by omega, by omega⟩)
              refine zwW_add (nx := 166) (by decide +kernel) (by first | omega | exact ⟨by omega, by omega⟩) ?_
              refine zwW_p [(0, 1, 0)] (q := 167) (ls' := [(2, 37), (0, nL2), (0, mL2), (0, qL2), (0, v5), (1, v46), (9, 0)]) (st' := [(0, 1), (0, (v62 + v63)), (0, v61), (0, v5), (2, 177)]) (by decide +kernel) rfl ?_
              refine zwW_sub (nx := 168) (by decide +kernel) (by first | omega | exact ⟨by omega, by omega⟩) ?_
              refine zwW_p [(1, 0, 2)] (q := 169) (ls' := [(2, 37), (0, nL2), (0, mL2), (0, qL2), (0, v5), (1, v46), (9, 0)]) (st' := [(2, 37), (0, ((v62 + v63) - 1)), (0, v61), (0, v5), (2, 177)]) (by decide +kernel) rfl ?_
              refine zwW_gc Ih58 (kd := 13) (bn := 26) (n := 97) (c := 85) (nx := 172) (by decide +kernel) ?_
              refine zwW_p [(1, 3, 0)] (q := 173) (ls' := [(2, 37), (0, nL2), (0, mL2), (0, qL2), (0, v5), (1, v46), (9, 0)]) (st' := [(0, qL2), (2, 85), (0, ((v62 + v63) - 1)), (0, v61), (0, v5), (2, 177)]) (by decide +kernel) rfl ?_
              refine zwW_al Ih58 (a1 := 85) (a2 := 85) (kd := 20) (n := 20) (t := 0) (lo := 0) (hi := 60) (nx := 174) (by decide +kernel) (by first | decide | exact ⟨by decide, by decide⟩) ib1 ?_
              intro v64 ev64 lv64 uv64
              have B174 := Rh58.f (a1 := 85) (a2 := 85) (j1 := 0) (j2 := 20) (by decide +kernel) (r := 85) (j := (qL2).toNat) (by first | decide | exact ⟨by decide, by decide⟩) (by first | omega | exact ⟨by omega, by omega⟩)
              have A174 : v64 = (ySN (zOv h) (yEp (zOv h)) (qL2).toNat) 85 (qL2).toNat := by rw [ev64, ySN_ne (b := 85) (by decide) (Or.inl (by decide))]; exact Rh58.f (a1 := 85) (a2 := 85) (j1 := 0) (j2 := 20) (by decide +kernel) (by first | decide | exact ⟨by decide, by decide⟩) (by first | omega | exact ⟨by omega, by omega⟩)
              refine zwW_div (nx := 175) (by decide +kernel) (by omega) (by omega) (by omega) ?_
              obtain ⟨v65, ev65⟩ : ∃ z, z = ((v62 + v63) - 1) / v64 := ⟨_, rfl⟩
              rw [← ev65]
              have Q175 : v65 = (yX (ySN (zOv h) (yEp (zOv h)) (qL2).toNat) (yEp (zOv h)) (qL2).toNat + (ySN (zOv h) (yEp (zOv h)) (qL2).toNat) 85 (qL2).toNat - 1) / (ySN (zOv h) (yEp (zOv h)) (qL2).toNat) 85 (qL2).toNat := by rw [ev65, V159, A165, A174]
              have R175 := zceil UB.1 (by omega) UB.2.2.1
              refine zwW_sub (nx := 176) (by decide +kernel) (by first | omega | exact ⟨by omega, by omega⟩) ?_
              refine zwW_as Ih58 (a1 := 177) (a2 := 177) (n := 8) (lo := -2147483648) (hi := 2147483647) (nx := 177) (by decide +kernel) (by first | decide | exact ⟨by decide, by decide⟩) ib3 (by first | omega | exact ⟨by omega, by omega⟩) ?_
              intro h66 eh66 Ih66
              have jbh66 : 0 ≤ v5.toNat ∧ v5.toNat < 8 := ⟨Nat.zero_le _, zit ib3⟩
              have N176 : fld h66 176 = fld h58 176 := funext (fun j => fld_oth eh66 (Or.inl (by decide)))
              have M176 := fwi eh66 (Ih58.s (a1 := 177) (a2 := 177) (k := 20) (n := 8) (by decide +kernel) (by decide) (by decide)) (by omega)
              have Rh66 : zMR ms221 h h66 := Rh58.w (a1 := 177) (a2 := 177) (j1 := 0) (j2 := 8) (by decide +kernel) (by first | decide | exact ⟨by decide, by decide⟩) jbh66 eh66
              refine zwW_inc (i := 2) (c := 1) (x := mL2) (nx := 180) (by decide +kernel) rfl (by first | omega | exact ⟨by omega, by omega⟩) (ls' := [(2, 37), (0, nL2), (0, (mL2 + 1)), (0, qL2), (0, v5), (1, v46), (9, 0)]) rfl ?_
              refine zwW_p [(1, 1, 0), (1, 0, 2)] (q := 182) (ls' := [(2, 37), (0, nL2), (0, (mL2 + 1)), (0, qL2), (0, v5), (1, v46), (9, 0)]) (st' := [(2, 37), (0, nL2)]) (by decide +kernel) rfl ?_
              refine zwW_gc Ih66 (kd := 13) (bn := 65) (n := 97) (c := 176) (nx := 185) (by decide +kernel) ?_
              refine zwW_p [(1, 3, 0)] (q := 186) (ls' := [(2, 37), (0, nL2), (0, (mL2 + 1)), (0, qL2), (0, v5), (1, v46), (9, 0)]) (st' := [(0, qL2), (2, 176), (0, nL2)]) (by decide +kernel) rfl ?_
              refine zwW_al Ih66 (a1 := 176) (a2 := 176) (kd := 20) (n := 20) (t := 0) (lo := -2147483648) (hi := 2147483647) (nx := 187) (by decide +kernel) (by first | decide | exact ⟨by decide, by decide⟩) ib1 ?_
              intro v67 ev67 lv67 uv67
              have V187 : v67 = yX (ySN (zOv h) (yEp (zOv h)) (qL2).toNat) (yEp (zOv h)) (qL2).toNat := by rw [ev67, congrFun N176 (qL2).toNat, V132, U132]
              refine zwW_add (nx := 188) (by decide +kernel) (by first | omega | exact ⟨by omega, by omega⟩) ?_
              refine zwW_p [(2, 1, 0)] (q := 189) (ls' := [(2, 37), (0, (nL2 + v67)), (0, (mL2 + 1)), (0, qL2), (0, v5), (1, v46), (9, 0)]) (st' := []) (by decide +kernel) rfl ?_
              have Z189 : (∀ v : Nat, fld h66 177 v = ySN (zOv h) (yEp (zOv h)) (qL2 + 1).toNat 66 v) ∧ (mL2 + 1) = ySN (zOv h) (yEp (zOv h)) (qL2 + 1).toNat 37 64 ∧ (nL2 + v67) = yTo (zOv h) (yEp (zOv h)) (qL2 + 1).toNat ∧ (∀ k : Nat, (k : Int) < qL2 + 1 → fld h66 176 k = yX (ySN (zOv h) (yEp (zOv h)) k) (yEp (zOv h)) k) := by
                rw [show (qL2 + 1).toNat = (qL2).toNat + 1 by omega, YT]
                first
                | (have z0 : yX (ySN (zOv h) (yEp (zOv h)) (qL2).toNat) (yEp (zOv h)) (qL2).toNat = 0 := (by omega); exact ⟨fun v => (by show _ = yS1 (ySN (zOv h) (yEp (zOv h)) (qL2).toNat) (yEp (zOv h)) (qL2).toNat 66 v; rw [yS1_0 z0]; exact C132 v), (by show _ = yS1 (ySN (zOv h) (yEp (zOv h)) (qL2).toNat) (yEp (zOv h)) (qL2).toNat 37 64; rw [yS1_0 z0]; exact iL2_5), (by rw [z0]; omega), K132⟩)
                | (have z1 : 0 < yX (ySN (zOv h) (yEp (zOv h)) (qL2).toNat) (yEp (zOv h)) (qL2).toNat := (by omega); exact ⟨fun v => (by show _ = yS1 (ySN (zOv h) (yEp (zOv h)) (qL2).toNat) (yEp (zOv h)) (qL2).toNat 66 v; rw [yS1_p z1]; show _ = zs (ySN (zOv h) (yEp (zOv h)) (qL2).toNat) 66 _ _ 66 v; rw [zs_if, M176 v, C132 v]; by_cases zz : v = (v5).toNat; (rw [if_pos zz, if_pos ⟨rfl, by rw [zz, a79]⟩]; omega); (rw [if_neg zz, if_neg (fun w => zz (by rw [w.2, a79]))])), (by show _ = yS1 (ySN (zOv h) (yEp (zOv h)) (qL2).toNat) (yEp (zOv h)) (qL2).toNat 37 64; rw [yS1_p z1, zs_eq]; omega), (by omega), fun k hk => (congrFun N176 k).trans (K132 k hk)⟩)
              refine zwW_inc (i := 3) (c := 1) (x := qL2) (nx := 192) (by decide +kernel) rfl (by first | omega | exact ⟨by omega, by omega⟩) (ls' := [(2, 37), (0, (nL2 + v67)), (0, (mL2 + 1)), (0, (qL2 + 1)), (0, v5), (1, v46), (9, 0)]) rfl ?_
              refine zwW_p [(24, 9, 0)] (q := 9) (ls' := [(2, 37), (0, (nL2 + v67)), (0, (mL2 + 1)), (0, (qL2 + 1)), (0, v5), (1, v46), (9, 0)]) (st' := []) (by decide +kernel) rfl ?_
              exact IHL2 ((100 - (qL2 + 1))).toNat (by omega) (nL2 + v67) (mL2 + 1) (qL2 + 1) (0, v5) (1, v46) (9, 0) h66 rfl (by omega) (by omega) (by omega) (by rw [show (qL2 + 1).toNat = (qL2).toNat + 1 by omega]; first | (rw [N176, S132, if_neg (by omega), N132]; omega) | (rw [S132, if_pos (by omega), N132]; omega)) (Z189.1) (Z189.2.1) (Z189.2.2.1) (Z189.2.2.2) (by omega) Ih66 Rh66
            · refine zwW_p [(24, 189, 0)] (q := 189) (ls' := [(2, 37), (0, nL2), (0, mL2), (0, qL2), (0, v5), (1, v46), (9, 0)]) (st' := []) (by decide +kernel) rfl ?_
              have Z189 : (∀ v : Nat, fld h58 177 v = ySN (zOv h) (yEp (zOv h)) (qL2 + 1).toNat 66 v) ∧ mL2 = ySN (zOv h) (yEp (zOv h)) (qL2 + 1).toNat 37 64 ∧ nL2 = yTo (zOv h) (yEp (zOv h)) (qL2 + 1).toNat ∧ (∀ k : Nat, (k : Int) < qL2 + 1 → fld h58 176 k = yX (ySN (zOv h) (yEp (zOv h)) k) (yEp (zOv h)) k) := by
                rw [show (qL2 + 1).toNat = (qL2).toNat + 1 by omega, YT]
                first
                | (have z0 : yX (ySN (zOv h) (yEp (zOv h)) (qL2).toNat) (yEp (zOv h)) (qL2).toNat = 0 := (by omega); exact ⟨fun v => (by show _ = yS1 (ySN (zOv h) (yEp (zOv h)) (qL2).toNat) (yEp (zOv h)) (qL2).toNat 66 v; rw [yS1_0 z0]; exact C132 v), (by show _ = yS1 (ySN (zOv h) (yEp (zOv h)) (qL2).toNat) (yEp (zOv h)) (qL2).toNat 37 64; rw [yS1_0 z0]; exact iL2_5), (by rw [z0]; omega), K132⟩)
                | (have z1 : 0 < yX (ySN (zOv h) (yEp (zOv h)) (qL2).toNat) (yEp (zOv h)) (qL2).toNat := (by omega); exact ⟨fun v => (by show _ = yS1 (ySN (zOv h) (yEp (zOv h)) (qL2).toNat) (yEp (zOv h)) (qL2).toNat 66 v; rw [yS1_p z1]; show _ = zs (ySN (zOv h) (yEp (zOv h)) (qL2).toNat) 66 _ _ 66 v; rw [zs_if, M176 v, C132 v]; by_cases zz : v = (v5).toNat; (rw [if_pos zz, if_pos ⟨rfl, by rw [zz, a79]⟩]; omega); (rw [if_neg zz, if_neg (fun w => zz (by rw [w.2, a79]))])), (by show _ = yS1 (ySN (zOv h) (yEp (zOv h)) (qL2).toNat) (yEp (zOv h)) (qL2).toNat 37 64; rw [yS1_p z1, zs_eq]; omega), (by omega), fun k hk => (congrFun N176 k).trans (K132 k hk)⟩)
              refine zwW_inc (i := 3) (c := 1) (x := qL2) (nx := 192) (by decide +kernel) rfl (by first | omega | exact ⟨by omega, by omega⟩) (ls' := [(2, 37), (0, nL2), (0, mL2), (0, (qL2 + 1)), (0, v5), (1, v46), (9, 0)]) rfl ?_
              refine zwW_p [(24, 9, 0)] (q := 9) (ls' := [(2, 37), (0, nL2), (0, mL2), (0, (qL2 + 1)), (0, v5), (1, v46), (9, 0)]) (st' := []) (by decide +kernel) rfl ?_
              exact IHL2 ((100 - (qL2 + 1))).toNat (by omega) nL2 mL2 (qL2 + 1) (0, v5) (1, v46) (9, 0) h58 rfl (by omega) (by omega) (by omega) (by rw [show (qL2 + 1).toNat = (qL2).toNat + 1 by omega]; first | (rw [N176, S132, if_neg (by omega), N132]; omega) | (rw [S132, if_pos (by omega), N132]; omega)) (Z189.1) (Z189.2.1) (Z189.2.2.1) (Z189.2.2.2) (by omega) Ih58 Rh58
  exact L2 _ 0 v1 0 (9, 0) (9, 0) (9, 0) h rfl (by omega) (by omega) (by omega) (by show _ = _ + 0; omega) (fun v => rfl) (by show v1 = fld h 37 64; omega) (rfl) (fun k hk => by omega) (by omega) I R
-- WheelLandModel.asIs()V
theorem m220_s {sc : List Int} (h : Hp) (I : zI h) : zwC sc 1 220 [(2, 37)] h (zwRv (fun g => zI g ∧ zMR ms220 h g ∧ ((∀ v : Nat, (v : Int) < fld h 37 1 → fld g 177 v = fld h 66 v) ∧ (∀ k : Nat, (k : Int) < fld h 37 2 → fld g 178 k = fld h 80 k ∧ fld g 179 k = fld h 81 k)))) := by
  refine zwC_of (D := 0) 2 (by decide +kernel) rfl (ls := [(2, 37), (9, 0)]) rfl ?_
  have R : zMR ms220 h h := zMR.rf _ _
  have N1 := I.b (a1 := 37) (a2 := 37) (j1 := 1) (j2 := 2) (lo := 0) (hi := 8) (by decide +kernel) (r := 37) (j := 1) (by decide) (by decide) (by decide) (by decide)
  have N2 := I.b (a1 := 37) (a2 := 37) (j1 := 2) (j2 := 3) (lo := 0) (hi := 20) (by decide +kernel) (r := 37) (j := 2) (by decide) (by decide) (by decide) (by decide)
  refine zwW_p [(0, 0, 0), (2, 1, 0)] (q := 2) (ls' := [(2, 37), (0, 0)]) (st' := []) (by decide +kernel) rfl ?_
  have L1 : ∀ (n0 : Nat) (vL1 : Int) (hL1 : Hp), n0 = ((100 - vL1)).toNat → (0 ≤ vL1 ∧ vL1 ≤ 8) → (∀ u : Nat, (u : Int) < vL1 → fld hL1 177 u = fld h 66 u) → zI hL1 → zMR ms220 h hL1 → zwW sc (0) 220 2 [(2, 37), (0, vL1)] [] hL1 (zwRv (fun g => zI g ∧ zMR ms220 h g ∧ ((∀ v : Nat, (v : Int) < fld h 37 1 → fld g 177 v = fld h 66 v) ∧ (∀ k : Nat, (k : Int) < fld h 37 2 → fld g 178 k = fld h 80 k ∧ fld g 179 k = fld h 81 k)))) := by
    intro n0
    induction n0 using Nat.strongRecOn with
    | ind n0 IHL1 =>
      intro vL1 hL1 hnL1 iL1_0 iL1_1 IhL1 RhL1
      refine zwW_p [(1, 1, 0), (1, 0, 2)] (q := 4) (ls' := [(2, 37), (0, vL1)]) (st' := [(2, 37), (0, vL1)]) (by decide +kernel) rfl ?_
      refine zwW_gs IhL1 (kd := 13) (bn := 1) (n := 97) (t := 0) (lo := 0) (hi := 8) (nx := 7) (by decide +kernel) ?_
      intro v2 ev2 lv2 uv2
      refine zwic_ge (q := 28) (nx := 10) (by decide +kernel) (fun c3 => ?_) (fun c3 => ?_)
      · have r28 : fld hL1 37 1 = fld h 37 1 := RhL1.f (a1 := 37) (a2 := 37) (j1 := 1) (j2 := 2) (by decide +kernel) (by first | decide | exact ⟨by decide, by decide⟩) (by first | omega | exact ⟨by omega, by omega⟩)
        refine zwW_p [(0, 0, 0), (2, 1, 0)] (q := 30) (ls' := [(2, 37), (0, 0)]) (st' := []) (by decide +kernel) rfl ?_
        have L4 : ∀ (n0 : Nat) (qL4 : Int) (hL4 : Hp), n0 = ((100 - qL4)).toNat → (0 ≤ qL4 ∧ qL4 ≤ 20) → (∀ u : Nat, (u : Int) < fld h 37 1 → fld hL4 177 u = fld h 66 u) → (∀ k : Nat, (k : Int) < qL4 → fld hL4 178 k = fld h 80 k ∧ fld hL4 179 k = fld h 81 k) → zI hL4 → zMR ms220 h hL4 → zwW sc (0) 220 30 [(2, 37), (0, qL4)] [] hL4 (zwRv (fun g => zI g ∧ zMR ms220 h g ∧ ((∀ v : Nat, (v : Int) < fld h 37 1 → fld g 177 v = fld h 66 v) ∧ (∀ k : Nat, (k : Int) < fld h 37 2 → fld g 178 k = fld h 80 k ∧ fld g 179 k = fld h 81 k)))) := by
          intro n0
          induction n0 using Nat.strongRecOn with
          | ind n0 IHL4 =>
            intro qL4 hL4 hnL4 iL4_0 iL4_1 iL4_2 IhL4 RhL4
            refine zwW_p [(1, 1, 0), (1, 0, 2)] (q := 32) (ls' := [(2, 37), (0, qL4)]) (st' := [(2, 37), (0, qL4)]) (by decide +kernel) rfl ?_
            refine zwW_gs IhL4 (kd := 13) (bn := 2) (n := 97) (t := 0) (lo := 0) (hi := 20) (nx := 35) (by decide +kernel) ?_
            intro v5 ev5 lv5 uv5
            refine zwic_ge (q := 68) (nx := 38) (by decide +kernel) (fun c6 => ?_) (fun c6 => ?_)
            · have r68 : fld hL4 37 2 = fld h 37 2 := RhL4.f (a1 := 37) (a2 := 37) (j1 := 2) (j2 := 3) (by decide +kernel) (by first | decide | exact ⟨by decide, by decide⟩) (by first | omega | exact ⟨by omega, by omega⟩)
              refine zwW_retv (nx := 69) (a := 0) (b := 0) (by decide +kernel) ?_
              exact ⟨IhL4, RhL4, by exact ⟨iL4_1, fun k hk => iL4_2 k (by omega)⟩⟩
            · have r38 : fld hL4 37 2 = fld h 37 2 := RhL4.f (a1 := 37) (a2 := 37) (j1 := 2) (j2 := 3) (by decide +kernel) (by first | decide | exact ⟨by decide, by decide⟩) (by first | omega | exact ⟨by omega, by omega⟩)
              have m80 : fld hL4 80 (qL4).toNat = fld h 80 (qL4).toNat := RhL4.f (a1 := 80) (a2 := 80) (j1 := 0) (j2 := 20) (by decide +kernel) (by first | decide | exact ⟨by decide, by decide⟩) (by first | omega | exact ⟨by omega, by omega⟩)
              have m81 : fld hL4 81 (qL4).toNat = fld h 81 (qL4).toNat := RhL4.f (a1 := 81) (a2 := 81) (j1 := 0) (j2 := 20) (by decide +kernel) (by first | decide | exact ⟨by decide, by decide⟩) (by first | omega | exact ⟨by omega, by omega⟩)
              refine zwW_p [(1, 0, 2)] (q := 39) (ls' := [(2, 37), (0, qL4)]) (st' := [(2, 37)]) (by decide +kernel) rfl ?_
              refine zwW_gc IhL4 (kd := 13) (bn := 67) (n := 97) (c := 178) (nx := 42) (by decide +kernel) ?_
              refine zwW_p [(1, 1, 0), (1, 0, 2)] (q := 44) (ls' := [(2, 37), (0, qL4)]) (st' := [(2, 37), (0, qL4), (2, 178)]) (by decide +kernel) rfl ?_
              refine zwW_gc IhL4 (kd := 13) (bn := 21) (n := 97) (c := 80) (nx := 47) (by decide +kernel) ?_
              refine zwW_p [(1, 1, 0)] (q := 48) (ls' := [(2, 37), (0, qL4)]) (st' := [(0, qL4), (2, 80), (0, qL4), (2, 178)]) (by decide +kernel) rfl ?_
              have ib1 : 0 ≤ qL4 ∧ qL4 < ((20 : Nat) : Int) := (by first | omega | exact ⟨by omega, by omega⟩)
              refine zwW_al IhL4 (a1 := 80) (a2 := 80) (kd := 20) (n := 20) (t := 0) (lo := 0) (hi := 5) (nx := 49) (by decide +kernel) (by first | decide | exact ⟨by decide, by decide⟩) ib1 ?_
              intro v7 ev7 lv7 uv7
              refine zwW_as IhL4 (a1 := 178) (a2 := 178) (n := 20) (lo := 0) (hi := 5) (nx := 50) (by decide +kernel) (by first | decide | exact ⟨by decide, by decide⟩) ib1 (by first | omega | exact ⟨by omega, by omega⟩) ?_
              intro h8 eh8 Ih8
              have jbh8 : 0 ≤ qL4.toNat ∧ qL4.toNat < 20 := ⟨Nat.zero_le _, zit ib1⟩
              have W49 : fld h8 177 = fld hL4 177 := funext (fun j => fld_oth eh8 (Or.inl (by decide)))
              have E49 := fwi eh8 (IhL4.s (a1 := 178) (a2 := 178) (k := 20) (n := 20) (by decide +kernel) (by decide) (by decide)) (by omega)
              have O49 : fld h8 179 = fld hL4 179 := funext (fun j => fld_oth eh8 (Or.inl (by decide)))
              have V49 : v7 = fld h 80 (qL4).toNat := by omega
              have m81b : fld h8 81 = fld hL4 81 := funext (fun j => fld_oth eh8 (Or.inl (by decide)))
              have Rh8 : zMR ms220 h h8 := RhL4.w (a1 := 178) (a2 := 178) (j1 := 0) (j2 := 20) (by decide +kernel) (by first | decide | exact ⟨by decide, by decide⟩) jbh8 eh8
              refine zwW_p [(1, 0, 2)] (q := 51) (ls' := [(2, 37), (0, qL4)]) (st' := [(2, 37)]) (by decide +kernel) rfl ?_
              refine zwW_gc Ih8 (kd := 13) (bn := 68) (n := 97) (c := 179) (nx := 54) (by decide +kernel) ?_
              refine zwW_p [(1, 1, 0), (1, 0, 2)] (q := 56) (ls' := [(2, 37), (0, qL4)]) (st' := [(2, 37), (0, qL4), (2, 179)]) (by decide +kernel) rfl ?_
              refine zwW_gc Ih8 (kd := 13) (bn := 22) (n := 97) (c := 81) (nx := 59) (by decide +kernel) ?_
              refine zwW_p [(1, 1, 0)] (q := 60) (ls' := [(2, 37), (0, qL4)]) (st' := [(0, qL4), (2, 81), (0, qL4), (2, 179)]) (by decide +kernel) rfl ?_
              refine zwW_al Ih8 (a1 := 81) (a2 := 81) (kd := 20) (n := 20) (t := 0) (lo := 0) (hi := 9) (nx := 61) (by decide +kernel) (by first | decide | exact ⟨by decide, by decide⟩) ib1 ?_
              intro v9 ev9 lv9 uv9
              refine zwW_as Ih8 (a1 := 179) (a2 := 179) (n := 20) (lo := 0) (hi := 9) (nx := 62) (by decide +kernel) (by first | decide | exact ⟨by decide, by decide⟩) ib1 (by first | omega | exact ⟨by omega, by omega⟩) ?_
              intro h10 eh10 Ih10
              have jbh10 : 0 ≤ qL4.toNat ∧ qL4.toNat < 20 := ⟨Nat.zero_le _, zit ib1⟩
              have W61 : ∀ u : Nat, (u : Int) < fld h 37 1 → fld h10 177 u = fld h 66 u := fun u hu => by rw [show fld h10 177 u = fld h8 177 u from fld_oth eh10 (Or.inl (by decide)), congrFun W49 u]; exact iL4_1 u hu
              have K61 : ∀ k : Nat, (k : Int) < qL4 + 1 → fld h10 178 k = fld h 80 k ∧ fld h10 179 k = fld h 81 k := by
                intro k hk
                rw [fwi eh10 (Ih8.s (a1 := 179) (a2 := 179) (k := 20) (n := 20) (by decide +kernel) (by decide) (by decide)) (by omega) k, show fld h10 178 k = fld h8 178 k from fld_oth eh10 (Or.inl (by decide)), E49 k, congrFun O49 k]
                by_cases z : k = (qL4).toNat
                · rw [if_pos z, if_pos z, z]; exact ⟨by omega, by have := congrFun m81b (qL4).toNat; omega⟩
                · rw [if_neg z, if_neg z]; exact iL4_2 k (by omega)
              have Rh10 : zMR ms220 h h10 := Rh8.w (a1 := 179) (a2 := 179) (j1 := 0) (j2 := 20) (by decide +kernel) (by first | decide | exact ⟨by decide, by decide⟩) jbh10 eh10
              refine zwW_inc (i := 1) (c := 1) (x := qL4) (nx := 65) (by decide +kernel) rfl (by first | omega | exact ⟨by omega, by omega⟩) (ls' := [(2, 37), (0, (qL4 + 1))]) rfl ?_
              refine zwW_p [(24, 30, 0)] (q := 30) (ls' := [(2, 37), (0, (qL4 + 1))]) (st' := []) (by decide +kernel) rfl ?_
              exact IHL4 ((100 - (qL4 + 1))).toNat (by omega) (qL4 + 1) h10 rfl (by omega) (W61) (K61) Ih10 Rh10
        exact L4 _ 0 hL1 rfl (by omega) (fun u hu => iL1_1 u (by omega)) (fun k hk => by omega) IhL1 RhL1
      · have r10 : fld hL1 37 1 = fld h 37 1 := RhL1.f (a1 := 37) (a2 := 37) (j1 := 1) (j2 := 2) (by decide +kernel) (by first | decide | exact ⟨by decide, by decide⟩) (by first | omega | exact ⟨by omega, by omega⟩)
        have m10 : fld hL1 66 (vL1).toNat = fld h 66 (vL1).toNat := RhL1.f (a1 := 66) (a2 := 66) (j1 := 0) (j2 := 8) (by decide +kernel) (by first | decide | exact ⟨by decide, by decide⟩) (by first | omega | exact ⟨by omega, by omega⟩)
        refine zwW_p [(1, 0, 2)] (q := 11) (ls' := [(2, 37), (0, vL1)]) (st' := [(2, 37)]) (by decide +kernel) rfl ?_
        refine zwW_gc IhL1 (kd := 13) (bn := 66) (n := 97) (c := 177) (nx := 14) (by decide +kernel) ?_
        refine zwW_p [(1, 1, 0), (1, 0, 2)] (q := 16) (ls' := [(2, 37), (0, vL1)]) (st' := [(2, 37), (0, vL1), (2, 177)]) (by decide +kernel) rfl ?_
        refine zwW_gc IhL1 (kd := 13) (bn := 7) (n := 97) (c := 66) (nx := 19) (by decide +kernel) ?_
        refine zwW_p [(1, 1, 0)] (q := 20) (ls' := [(2, 37), (0, vL1)]) (st' := [(0, vL1), (2, 66), (0, vL1), (2, 177)]) (by decide +kernel) rfl ?_
        have ib2 : 0 ≤ vL1 ∧ vL1 < ((8 : Nat) : Int) := (by first | omega | exact ⟨by omega, by omega⟩)
        refine zwW_al IhL1 (a1 := 66) (a2 := 66) (kd := 20) (n := 8) (t := 0) (lo := -2147483648) (hi := 2147483647) (nx := 21) (by decide +kernel) (by first | decide | exact ⟨by decide, by decide⟩) ib2 ?_
        intro v11 ev11 lv11 uv11
        refine zwW_as IhL1 (a1 := 177) (a2 := 177) (n := 8) (lo := -2147483648) (hi := 2147483647) (nx := 22) (by decide +kernel) (by first | decide | exact ⟨by decide, by decide⟩) ib2 (by first | omega | exact ⟨by omega, by omega⟩) ?_
        intro h12 eh12 Ih12
        have jbh12 : 0 ≤ vL1.toNat ∧ vL1.toNat < 8 := ⟨Nat.zero_le _, zit ib2⟩
        have W21 : ∀ u : Nat, (u : Int) < vL1 + 1 → fld h12 177 u = fld h 66 u := by
          intro u hu
          rw [fwi eh12 (IhL1.s (a1 := 177) (a2 := 177) (k := 20) (n := 8) (by decide +kernel) (by decide) (by decide)) (by omega) u]
          by_cases z : u = (vL1).toNat
          · rw [if_pos z, z, ← m10]; omega
          · rw [if_neg z]; exact iL1_1 u (by omega)
        have Rh12 : zMR ms220 h h12 := RhL1.w (a1 := 177) (a2 := 177) (j1 := 0) (j2 := 8) (by decide +kernel) (by first | decide | exact ⟨by decide, by decide⟩) jbh12 eh12
        refine zwW_inc (i := 1) (c := 1) (x := vL1) (nx := 25) (by decide +kernel) rfl (by first | omega | exact ⟨by omega, by omega⟩) (ls' := [(2, 37), (0, (vL1 + 1))]) rfl ?_
        refine zwW_p [(24, 2, 0)] (q := 2) (ls' := [(2, 37), (0, (vL1 + 1))]) (st' := []) (by decide +kernel) rfl ?_
        exact IHL1 ((100 - (vL1 + 1))).toNat (by omega) (vL1 + 1) h12 rfl (by omega) (W21) Ih12 Rh12
  exact L1 _ 0 h rfl (by omega) (fun u hu => by omega) I R
-- WheelLandModel.lays()V
theorem m194_s {sc : List Int} (h : Hp) (I : zI h) (p1 : fld h 37 0 ≤ 155) (hA : zAM h) (BO : zBs (zSt h)) : zwC sc 3 194 [(2, 37)] h (zwRv (fun g => zI g ∧ zMR ms194 h g ∧ (zAg (zSt g) (ySN (zSt h) (yEp (zSt h)) (fld h 37 2).toNat)))) := by
  refine zwC_of (D := 2) 3 (by decide +kernel) rfl (ls := [(2, 37), (9, 0), (9, 0)]) rfl ?_
  have R : zMR ms194 h h := zMR.rf _ _
  have B0 := I.b (a1 := 37) (a2 := 37) (j1 := 2) (j2 := 3) (lo := 0) (hi := 20) (by decide +kernel) (r := 37) (j := 2) (by decide) (by decide) (by decide) (by decide)
  have N1 := I.b (a1 := 37) (a2 := 37) (j1 := 1) (j2 := 2) (lo := 0) (hi := 8) (by decide +kernel) (r := 37) (j := 1) (by decide) (by decide) (by decide) (by decide)
  refine zwW_p [(1, 0, 2)] (q := 1) (ls' := [(2, 37), (9, 0), (9, 0)]) (st' := [(2, 37)]) (by decide +kernel) rfl ?_
  refine zwW_cmv I (op := 60) (k' := 220) (n := 0) (kd := 13) (m := 97) (nx := 4) (r := 37) (tl := []) (st' := []) (by decide +kernel) rfl (by decide +kernel) rfl (m220_s h I) ?_
  rintro h2 ⟨Ih2, Qh2, f1⟩
  have Rh2 : zMR ms194 h h2 := R.tr Qh2 (by decide +kernel)
  have th2_37_0 : fld h2 37 0 = fld h 37 0 := Qh2.f (a1 := 37) (a2 := 37) (j1 := 0) (j2 := 1) (by decide +kernel) (by first | decide | exact ⟨by decide, by decide⟩) (by first | decide | exact ⟨by decide, by decide⟩)
  have th2_37_64 : fld h2 37 64 = fld h 37 64 := Qh2.f (a1 := 37) (a2 := 37) (j1 := 64) (j2 := 65) (by decide +kernel) (by first | decide | exact ⟨by decide, by decide⟩) (by first | decide | exact ⟨by decide, by decide⟩)
  have H4 := Rh2.f (a1 := 37) (a2 := 37) (j1 := 2) (j2 := 3) (by decide +kernel) (r := 37) (j := 2) (by first | decide | exact ⟨by decide, by decide⟩) (by first | decide | exact ⟨by decide, by decide⟩)
  have Z4 := zAg.as Qh2 (by decide +kernel) N1.2 B0.2 f1
  have B4 := zBs.cg Z4 BO
  have e4 : yEp (zOv h2) = yEp (zSt h) := by unfold yEp; rw [Z4.1.1]
  have A4 := fun n hn => Z4.sn BO (yEp_4 (S := zSt h)) n hn
  refine zwW_p [(1, 0, 2)] (q := 5) (ls' := [(2, 37), (9, 0), (9, 0)]) (st' := [(2, 37)]) (by decide +kernel) rfl ?_
  refine zwW_cm Ih2 (op := 60) (k' := 221) (n := 0) (kd := 13) (m := 97) (nx := 8) (r := 37) (tl := []) (st' := []) (by decide +kernel) rfl (by decide +kernel) rfl (m221_s h2 Ih2 (hA.mr Rh2 (by decide +kernel) (by omega)) B4) ?_
  rintro v3 h7 ⟨Ih7, Qh7, f4, f5, f6⟩
  have Rh7 : zMR ms194 h h7 := Rh2.tr Qh7 (by decide +kernel)
  have th7_37_0 : fld h7 37 0 = fld h2 37 0 := Qh7.f (a1 := 37) (a2 := 37) (j1 := 0) (j2 := 1) (by decide +kernel) (by first | decide | exact ⟨by decide, by decide⟩) (by first | decide | exact ⟨by decide, by decide⟩)
  have th7_37_64 : fld h7 37 64 = fld h2 37 64 := Qh7.f (a1 := 37) (a2 := 37) (j1 := 64) (j2 := 65) (by decide +kernel) (by first | decide | exact ⟨by decide, by decide⟩) (by first | decide | exact ⟨by decide, by decide⟩)
  have Z8 : zNZ (fld h7 176) (fld h 37 2).toNat ≤ 300 - fld h 37 64 := by have := f5; rw [H4] at this; omega
  have S8 := f6
  rw [e4, H4] at S8
  have n8 : (((fld h 37 2).toNat : Nat) : Int) ≤ zSt h 37 2 := by show _ ≤ fld h 37 2; omega
  have C8 : ∀ v : Nat, (v : Int) < fld h 37 1 → fld h7 177 v = ySN (zSt h) (yEp (zSt h)) (fld h 37 2).toNat 66 v := fun v hv => (S8.2.1 v).trans ((A4 _ n8).2.2 v (by rw [ySN_ne (b := 37) (by decide) (Or.inr (by decide))]; exact hv)).1.symm
  have X8 : ∀ k : Nat, (k : Int) < fld h 37 2 → fld h7 176 k = yX (ySN (zSt h) (yEp (zSt h)) k) (yEp (zSt h)) k := fun k hk => (S8.2.2 k hk).trans ((A4 k (show ((k : Nat) : Int) ≤ fld h 37 2 by omega)).xk (BO.sn (yEp_4 (S := zSt h)) k (show ((k : Nat) : Int) ≤ fld h 37 2 by omega)) (yEp_4 (S := zSt h)) (by rw [ySN_ne (b := 37) (by decide) (Or.inr (by decide))]; exact hk)).symm
  have Y8 : ySN (zSt h) (yEp (zSt h)) (fld h 37 2).toNat 37 64 = fld h 37 64 + zNZ (fld h7 176) (fld h 37 2).toNat := by
    rw [ySN_64 BO (yEp_4 (S := zSt h)) _ n8]
    show fld h 37 64 + _ = _
    rw [zNZ_c (f := fun k => yX (ySN (zSt h) (yEp (zSt h)) k) (yEp (zSt h)) k) (g := fld h7 176) _ (fun j hj => (X8 j (by omega)).symm)]
  refine zwW_p [(2, 1, 0), (1, 0, 2)] (q := 10) (ls' := [(2, 37), (0, v3), (9, 0)]) (st' := [(2, 37)]) (by decide +kernel) rfl ?_
  refine zwW_gc Ih7 (kd := 13) (bn := 91) (n := 97) (c := 205) (nx := 13) (by decide +kernel) ?_
  refine zwW_p [(1, 0, 2)] (q := 14) (ls' := [(2, 37), (0, v3), (9, 0)]) (st' := [(2, 37), (2, 205)]) (by decide +kernel) rfl ?_
  refine zwW_gs Ih7 (kd := 13) (bn := 0) (n := 97) (t := 0) (lo := 0) (hi := 156) (nx := 17) (by decide +kernel) ?_
  intro v8 ev8 lv8 uv8
  refine zwW_ro Ih7 (a := 205) (n := 156) (kd := 26) (base := 206) (step := 1) (nx := 18) (by decide +kernel) rfl (by first | omega | exact ⟨by omega, by omega⟩) ?_
  rw [show ((206 : Nat) : Int) + ((1 : Nat) : Int) * v8 = (206 + v8) by omega]
  refine zwW_p [(0, 1, 0), (1, 1, 0)] (q := 20) (ls' := [(2, 37), (0, v3), (9, 0)]) (st' := [(0, v3), (0, 1), (2, (206 + v8))]) (by decide +kernel) rfl ?_
  refine zwW_as Ih7 (a1 := 206) (a2 := 361) (n := 6) (lo := -2147483648) (hi := 2147483647) (nx := 21) (by decide +kernel) (by first | omega | exact ⟨by omega, by omega⟩) (by first | decide | exact ⟨by decide, by decide⟩) (by first | omega | exact ⟨by omega, by omega⟩) ?_
  intro h9 eh9 Ih9
  have rbh9 : ((206 : Nat) : Int) ≤ (206 + v8) ∧ (206 + v8) ≤ ((361 : Nat) : Int) := (by first | omega | exact ⟨by omega, by omega⟩)
  have th9_37_0 : fld h9 37 0 = fld h7 37 0 := by rw [eh9]; exact fld_wr (Or.inl (zne_l (by decide) rbh9.1))
  have th9_37_64 : fld h9 37 64 = fld h7 37 64 := by rw [eh9]; exact fld_wr (Or.inl (zne_l (by decide) rbh9.1))
  have Kh9_176 : fld h9 176 = fld h7 176 := (funext fun j => fld_oth eh9 (Or.inl (zne_l (by decide) rbh9.1))).trans rfl
  have Kh9_177 : fld h9 177 = fld h7 177 := (funext fun j => fld_oth eh9 (Or.inl (zne_l (by decide) rbh9.1))).trans rfl
  have Rh9 : zMR ms194 h h9 := Rh7.w (a1 := 206) (a2 := 361) (j1 := 0) (j2 := 6) (by decide +kernel) rbh9 (by first | decide | exact ⟨by decide, by decide⟩) eh9
  refine zwW_p [(1, 0, 2), (12, 0, 0)] (q := 23) (ls' := [(2, 37), (0, v3), (9, 0)]) (st' := [(2, 37), (2, 37)]) (by decide +kernel) rfl ?_
  refine zwW_gs Ih9 (kd := 13) (bn := 71) (n := 97) (t := 0) (lo := -2147483648) (hi := 2147483647) (nx := 26) (by decide +kernel) ?_
  intro v10 ev10 lv10 uv10
  refine zwW_p [(1, 1, 0)] (q := 27) (ls' := [(2, 37), (0, v3), (9, 0)]) (st' := [(0, v3), (0, v10), (2, 37)]) (by decide +kernel) rfl ?_
  refine zwW_adw (nx := 28) (by decide +kernel) ?_
  intro v11 ev11 lv11 uv11
  refine zwW_ps Ih9 (kd := 13) (bn := 71) (n := 97) (lo := -2147483648) (hi := 2147483647) (nx := 31) (by decide +kernel) (by first | omega | exact ⟨by omega, by omega⟩) ?_
  intro h12 eh12 Ih12
  have th12_37_0 : fld h12 37 0 = fld h9 37 0 := by rw [eh12]; exact fld_wr (by decide)
  have th12_37_64 : fld h12 37 64 = fld h9 37 64 := by rw [eh12]; exact fld_wr (by decide)
  have Kh12_176 : fld h12 176 = fld h7 176 := (funext fun j => fld_oth eh12 (Or.inl (by decide))).trans Kh9_176
  have Kh12_177 : fld h12 177 = fld h7 177 := (funext fun j => fld_oth eh12 (Or.inl (by decide))).trans Kh9_177
  have Rh12 : zMR ms194 h h12 := Rh9.w (a1 := 37) (a2 := 37) (j1 := 71) (j2 := 72) (by decide +kernel) (by first | decide | exact ⟨by decide, by decide⟩) (by first | decide | exact ⟨by decide, by decide⟩) eh12
  refine zwW_p [(0, 0, 0), (2, 2, 0)] (q := 33) (ls' := [(2, 37), (0, v3), (0, 0)]) (st' := []) (by decide +kernel) rfl ?_
  have L13 : ∀ (n0 : Nat) (vL13 : Int) (hL13 : Hp), n0 = ((100 - vL13)).toNat → (0 ≤ vL13 ∧ vL13 ≤ 8) → (fld hL13 37 0 = fld h 37 0) → (fld hL13 37 64 = fld h 37 64) → (fld hL13 176 = fld h7 176) → (fld hL13 177 = fld h7 177) → (∀ u : Nat, (u : Int) < vL13 → fld hL13 66 u = fld h7 177 u) → zI hL13 → zMR ms194 h hL13 → zwW sc (2) 194 33 [(2, 37), (0, v3), (0, vL13)] [] hL13 (zwRv (fun g => zI g ∧ zMR ms194 h g ∧ (zAg (zSt g) (ySN (zSt h) (yEp (zSt h)) (fld h 37 2).toNat)))) := by
    intro n0
    induction n0 using Nat.strongRecOn with
    | ind n0 IHL13 =>
      intro vL13 hL13 hnL13 iL13_0 iL13_1 iL13_2 iL13_3 iL13_4 iL13_5 IhL13 RhL13
      refine zwW_p [(1, 2, 0), (1, 0, 2)] (q := 35) (ls' := [(2, 37), (0, v3), (0, vL13)]) (st' := [(2, 37), (0, vL13)]) (by decide +kernel) rfl ?_
      refine zwW_gs IhL13 (kd := 13) (bn := 1) (n := 97) (t := 0) (lo := 0) (hi := 8) (nx := 38) (by decide +kernel) ?_
      intro v14 ev14 lv14 uv14
      refine zwic_ge (q := 59) (nx := 41) (by decide +kernel) (fun c15 => ?_) (fun c15 => ?_)
      · have r59 : fld hL13 37 1 = fld h 37 1 := RhL13.f (a1 := 37) (a2 := 37) (j1 := 1) (j2 := 2) (by decide +kernel) (by first | decide | exact ⟨by decide, by decide⟩) (by first | decide | exact ⟨by decide, by decide⟩)
        have D59 : ∀ u : Nat, (u : Int) < fld h 37 1 → fld hL13 66 u = ySN (zSt h) (yEp (zSt h)) (fld h 37 2).toNat 66 u := fun u hu => (iL13_5 u (by omega)).trans (C8 u hu)
        refine zwW_p [(0, 0, 0), (2, 2, 0)] (q := 61) (ls' := [(2, 37), (0, v3), (0, 0)]) (st' := []) (by decide +kernel) rfl ?_
        have L16 : ∀ (n0 : Nat) (qL16 : Int) (hL16 : Hp), n0 = ((100 - qL16)).toNat → (0 ≤ qL16 ∧ qL16 ≤ fld h 37 2) → (fld hL16 37 0 = fld h 37 0) → (fld hL16 37 64 = fld h 37 64 + zNZ (fld h7 176) (qL16).toNat) → (fld hL16 176 = fld h7 176) → (fld hL16 66 = fld hL13 66) → zI hL16 → zMR ms194 h hL16 → zwW sc (2) 194 61 [(2, 37), (0, v3), (0, qL16)] [] hL16 (zwRv (fun g => zI g ∧ zMR ms194 h g ∧ (zAg (zSt g) (ySN (zSt h) (yEp (zSt h)) (fld h 37 2).toNat)))) := by
          intro n0
          induction n0 using Nat.strongRecOn with
          | ind n0 IHL16 =>
            intro qL16 hL16 hnL16 iL16_0 iL16_1 iL16_2 iL16_3 iL16_4 IhL16 RhL16
            refine zwW_p [(1, 2, 0), (1, 0, 2)] (q := 63) (ls' := [(2, 37), (0, v3), (0, qL16)]) (st' := [(2, 37), (0, qL16)]) (by decide +kernel) rfl ?_
            refine zwW_gs IhL16 (kd := 13) (bn := 2) (n := 97) (t := 0) (lo := 0) (hi := 20) (nx := 66) (by decide +kernel) ?_
            intro v17 ev17 lv17 uv17
            refine zwic_ge (q := 233) (nx := 69) (by decide +kernel) (fun c18 => ?_) (fun c18 => ?_)
            · have r233 : fld hL16 37 2 = fld h 37 2 := RhL16.f (a1 := 37) (a2 := 37) (j1 := 2) (j2 := 3) (by decide +kernel) (by first | decide | exact ⟨by decide, by decide⟩) (by first | decide | exact ⟨by decide, by decide⟩)
              refine zwW_retv (nx := 234) (a := 0) (b := 0) (by decide +kernel) ?_
              exact ⟨IhL16, RhL16, by exact zAg.lay RhL16 (by decide +kernel) N1.2 B0.2 (by rw [Y8]; have q := iL16_2; rw [show (qL16).toNat = (fld h 37 2).toNat by omega] at q; exact q) (fun v hv => (congrFun iL16_4 v).trans (D59 v hv))⟩
            · have H69 := RhL16.f (a1 := 37) (a2 := 37) (j1 := 2) (j2 := 3) (by decide +kernel) (r := 37) (j := 2) (by first | decide | exact ⟨by decide, by decide⟩) (by first | decide | exact ⟨by decide, by decide⟩)
              refine zwW_p [(1, 0, 2)] (q := 70) (ls' := [(2, 37), (0, v3), (0, qL16)]) (st' := [(2, 37)]) (by decide +kernel) rfl ?_
              refine zwW_gc IhL16 (kd := 13) (bn := 36) (n := 97) (c := 95) (nx := 73) (by decide +kernel) ?_
              refine zwW_p [(1, 2, 0), (14, 0, 0)] (q := 75) (ls' := [(2, 37), (0, v3), (0, qL16)]) (st' := [(0, qL16), (2, 95), (0, qL16), (2, 95)]) (by decide +kernel) rfl ?_
              have ib1 : 0 ≤ qL16 ∧ qL16 < ((20 : Nat) : Int) := (by first | omega | exact ⟨by omega, by omega⟩)
              refine zwW_al IhL16 (a1 := 95) (a2 := 95) (kd := 20) (n := 20) (t := 0) (lo := -2147483648) (hi := 2147483647) (nx := 76) (by decide +kernel) (by first | decide | exact ⟨by decide, by decide⟩) ib1 ?_
              intro v19 ev19 lv19 uv19
              refine zwW_p [(1, 0, 2)] (q := 77) (ls' := [(2, 37), (0, v3), (0, qL16)]) (st' := [(2, 37), (0, v19), (0, qL16), (2, 95)]) (by decide +kernel) rfl ?_
              refine zwW_gc IhL16 (kd := 13) (bn := 21) (n := 97) (c := 80) (nx := 80) (by decide +kernel) ?_
              refine zwW_p [(1, 2, 0)] (q := 81) (ls' := [(2, 37), (0, v3), (0, qL16)]) (st' := [(0, qL16), (2, 80), (0, v19), (0, qL16), (2, 95)]) (by decide +kernel) rfl ?_
              refine zwW_al IhL16 (a1 := 80) (a2 := 80) (kd := 20) (n := 20) (t := 0) (lo := 0) (hi := 5) (nx := 82) (by decide +kernel) (by first | decide | exact ⟨by decide, by decide⟩) ib1 ?_
              intro v20 ev20 lv20 uv20
              refine zwW_p [(1, 0, 2)] (q := 83) (ls' := [(2, 37), (0, v3), (0, qL16)]) (st' := [(2, 37), (0, v20), (0, v19), (0, qL16), (2, 95)]) (by decide +kernel) rfl ?_
              refine zwW_gc IhL16 (kd := 13) (bn := 3) (n := 97) (c := 38) (nx := 86) (by decide +kernel) ?_
              refine zwW_p [(1, 0, 2)] (q := 87) (ls' := [(2, 37), (0, v3), (0, qL16)]) (st' := [(2, 37), (2, 38), (0, v20), (0, v19), (0, qL16), (2, 95)]) (by decide +kernel) rfl ?_
              refine zwW_gc IhL16 (kd := 13) (bn := 20) (n := 97) (c := 79) (nx := 90) (by decide +kernel) ?_
              refine zwW_p [(1, 2, 0)] (q := 91) (ls' := [(2, 37), (0, v3), (0, qL16)]) (st' := [(0, qL16), (2, 79), (2, 38), (0, v20), (0, v19), (0, qL16), (2, 95)]) (by decide +kernel) rfl ?_
              refine zwW_al IhL16 (a1 := 79) (a2 := 79) (kd := 20) (n := 20) (t := 0) (lo := 0) (hi := 7) (nx := 92) (by decide +kernel) (by first | decide | exact ⟨by decide, by decide⟩) ib1 ?_
              intro v21 ev21 lv21 uv21
              refine zwW_ro IhL16 (a := 38) (n := 8) (kd := 26) (base := 39) (step := 1) (nx := 93) (by decide +kernel) rfl (by first | omega | exact ⟨by omega, by omega⟩) ?_
              rw [show ((39 : Nat) : Int) + ((1 : Nat) : Int) * v21 = (39 + v21) by omega]
              refine zwW_p [(1, 0, 2)] (q := 94) (ls' := [(2, 37), (0, v3), (0, qL16)]) (st' := [(2, 37), (2, (39 + v21)), (0, v20), (0, v19), (0, qL16), (2, 95)]) (by decide +kernel) rfl ?_
              refine zwW_gs IhL16 (kd := 13) (bn := 0) (n := 97) (t := 0) (lo := 0) (hi := 156) (nx := 97) (by decide +kernel) ?_
              intro v22 ev22 lv22 uv22
              refine zwW_cs (k' := 174) (n := 1) (nx := 100) (as := [(0, v22)]) (st' := [(2, (39 + v21)), (0, v20), (0, v19), (0, qL16), (2, 95)]) (by decide +kernel) rfl (m174 hL16 v22 (by omega) (by omega)) rfl ?_
              rintro v23 _ ⟨rfl, f24, f25, f26, f27⟩
              have ib2 : 0 ≤ v23 ∧ v23 < ((4 : Nat) : Int) := (by first | omega | exact ⟨by omega, by omega⟩)
              refine zwW_al IhL16 (a1 := 39) (a2 := 46) (kd := 20) (n := 4) (t := 0) (lo := 0) (hi := 40) (nx := 101) (by decide +kernel) (by first | omega | exact ⟨by omega, by omega⟩) ib2 ?_
              intro v28 ev28 lv28 uv28
              refine zwW_mulp (A := 5) (B := 40) (nx := 102) (by decide +kernel) (by first | omega | exact ⟨by omega, by omega⟩) (by first | omega | exact ⟨by omega, by omega⟩) (by decide) ?_
              intro v29 ev29 lv29 uv29
              refine zwW_p [(0, 10, 0), (1, 0, 2)] (q := 105) (ls' := [(2, 37), (0, v3), (0, qL16)]) (st' := [(2, 37), (0, 10), (0, v29), (0, v19), (0, qL16), (2, 95)]) (by decide +kernel) rfl ?_
              refine zwW_gc IhL16 (kd := 13) (bn := 22) (n := 97) (c := 81) (nx := 108) (by decide +kernel) ?_
              refine zwW_p [(1, 2, 0)] (q := 109) (ls' := [(2, 37), (0, v3), (0, qL16)]) (st' := [(0, qL16), (2, 81), (0, 10), (0, v29), (0, v19), (0, qL16), (2, 95)]) (by decide +kernel) rfl ?_
              refine zwW_al IhL16 (a1 := 81) (a2 := 81) (kd := 20) (n := 20) (t := 0) (lo := 0) (hi := 9) (nx := 110) (by decide +kernel) (by first | decide | exact ⟨by decide, by decide⟩) ib1 ?_
              intro v30 ev30 lv30 uv30
              refine zwW_add (nx := 111) (by decide +kernel) (by first | omega | exact ⟨by omega, by omega⟩) ?_
              refine zwW_mulp (A := 200) (B := 19) (nx := 112) (by decide +kernel) (by first | omega | exact ⟨by omega, by omega⟩) (by first | omega | exact ⟨by omega, by omega⟩) (by decide) ?_
              intro v31 ev31 lv31 uv31
              refine zwW_p [(0, 24, 0)] (q := 114) (ls' := [(2, 37), (0, v3), (0, qL16)]) (st' := [(0, 24), (0, v31), (0, v19), (0, qL16), (2, 95)]) (by decide +kernel) rfl ?_
              refine zwW_div (nx := 115) (by decide +kernel) (by omega) (by omega) (by omega) ?_
              refine zwW_adw (nx := 116) (by decide +kernel) ?_
              intro v32 ev32 lv32 uv32
              refine zwW_as IhL16 (a1 := 95) (a2 := 95) (n := 20) (lo := -2147483648) (hi := 2147483647) (nx := 117) (by decide +kernel) (by first | decide | exact ⟨by decide, by decide⟩) ib1 (by first | omega | exact ⟨by omega, by omega⟩) ?_
              intro h33 eh33 Ih33
              have jbh33 : 0 ≤ qL16.toNat ∧ qL16.toNat < 20 := ⟨Nat.zero_le _, zit ib1⟩
              have th33_37_0 : fld h33 37 0 = fld hL16 37 0 := by rw [eh33]; exact fld_wr (Or.inl (by decide))
              have th33_37_64 : fld h33 37 64 = fld hL16 37 64 := by rw [eh33]; exact fld_wr (Or.inl (by decide))
              have Kh33_176 : fld h33 176 = fld h7 176 := (funext fun j => fld_oth eh33 (Or.inl (by decide))).trans iL16_3
              have Kh33_66 : fld h33 66 = fld hL13 66 := (funext fun j => fld_oth eh33 (Or.inl (by decide))).trans iL16_4
              have Rh33 : zMR ms194 h h33 := RhL16.w (a1 := 95) (a2 := 95) (j1 := 0) (j2 := 20) (by decide +kernel) (by first | decide | exact ⟨by decide, by decide⟩) jbh33 eh33
              refine zwW_p [(1, 0, 2)] (q := 118) (ls' := [(2, 37), (0, v3), (0, qL16)]) (st' := [(2, 37)]) (by decide +kernel) rfl ?_
              refine zwW_gc Ih33 (kd := 13) (bn := 65) (n := 97) (c := 176) (nx := 121) (by decide +kernel) ?_
              refine zwW_p [(1, 2, 0)] (q := 122) (ls' := [(2, 37), (0, v3), (0, qL16)]) (st' := [(0, qL16), (2, 176)]) (by decide +kernel) rfl ?_
              refine zwW_al Ih33 (a1 := 176) (a2 := 176) (kd := 20) (n := 20) (t := 0) (lo := -2147483648) (hi := 2147483647) (nx := 123) (by decide +kernel) (by first | decide | exact ⟨by decide, by decide⟩) ib1 ?_
              intro v34 ev34 lv34 uv34
              refine zwif_ne (q := 129) (nx := 126) (by decide +kernel) (fun c35 => ?_) (fun c35 => ?_)
              · have K129 := congrFun Kh33_176 (qL16).toNat
                have S129 : zNZ (fld h7 176) ((qL16).toNat + 1) = zNZ (fld h7 176) (qL16).toNat + (if fld h7 176 (qL16).toNat = 0 then 0 else 1) := rfl
                rw [if_neg (by omega)] at S129
                have M129 := zNZ_le (fld h7 176) ((qL16).toNat + 1) ((fld h 37 2).toNat - ((qL16).toNat + 1))
                rw [show (qL16).toNat + 1 + ((fld h 37 2).toNat - ((qL16).toNat + 1)) = (fld h 37 2).toNat by omega] at M129
                refine zwW_p [(1, 0, 2)] (q := 130) (ls' := [(2, 37), (0, v3), (0, qL16)]) (st' := [(2, 37)]) (by decide +kernel) rfl ?_
                refine zwW_gc Ih33 (kd := 13) (bn := 58) (n := 97) (c := 170) (nx := 133) (by decide +kernel) ?_
                refine zwW_p [(1, 0, 2)] (q := 134) (ls' := [(2, 37), (0, v3), (0, qL16)]) (st' := [(2, 37), (2, 170)]) (by decide +kernel) rfl ?_
                refine zwW_gs Ih33 (kd := 13) (bn := 64) (n := 97) (t := 0) (lo := 0) (hi := 300) (nx := 137) (by decide +kernel) ?_
                intro v36 ev36 lv36 uv36
                refine zwW_p [(1, 2, 0)] (q := 138) (ls' := [(2, 37), (0, v3), (0, qL16)]) (st' := [(0, qL16), (0, v36), (2, 170)]) (by decide +kernel) rfl ?_
                have ib3 : 0 ≤ v36 ∧ v36 < ((300 : Nat) : Int) := (by first | omega | exact ⟨by omega, by omega⟩)
                refine zwW_as Ih33 (a1 := 170) (a2 := 170) (n := 300) (lo := 0) (hi := 19) (nx := 139) (by decide +kernel) (by first | decide | exact ⟨by decide, by decide⟩) ib3 (by first | omega | exact ⟨by omega, by omega⟩) ?_
                intro h37 eh37 Ih37
                have jbh37 : 0 ≤ v36.toNat ∧ v36.toNat < 300 := ⟨Nat.zero_le _, zit ib3⟩
                have th37_37_0 : fld h37 37 0 = fld h33 37 0 := by rw [eh37]; exact fld_wr (Or.inl (by decide))
                have th37_37_64 : fld h37 37 64 = fld h33 37 64 := by rw [eh37]; exact fld_wr (Or.inl (by decide))
                have Kh37_176 : fld h37 176 = fld h7 176 := (funext fun j => fld_oth eh37 (Or.inl (by decide))).trans Kh33_176
                have Kh37_66 : fld h37 66 = fld hL13 66 := (funext fun j => fld_oth eh37 (Or.inl (by decide))).trans Kh33_66
                have Rh37 : zMR ms194 h h37 := Rh33.w (a1 := 170) (a2 := 170) (j1 := 0) (j2 := 300) (by decide +kernel) (by first | decide | exact ⟨by decide, by decide⟩) jbh37 eh37
                refine zwW_p [(1, 0, 2)] (q := 140) (ls' := [(2, 37), (0, v3), (0, qL16)]) (st' := [(2, 37)]) (by decide +kernel) rfl ?_
                refine zwW_gc Ih37 (kd := 13) (bn := 59) (n := 97) (c := 171) (nx := 143) (by decide +kernel) ?_
                refine zwW_p [(1, 0, 2)] (q := 144) (ls' := [(2, 37), (0, v3), (0, qL16)]) (st' := [(2, 37), (2, 171)]) (by decide +kernel) rfl ?_
                refine zwW_gs Ih37 (kd := 13) (bn := 64) (n := 97) (t := 0) (lo := 0) (hi := 300) (nx := 147) (by decide +kernel) ?_
                intro v38 ev38 lv38 uv38
                refine zwW_p [(1, 0, 2)] (q := 148) (ls' := [(2, 37), (0, v3), (0, qL16)]) (st' := [(2, 37), (0, v38), (2, 171)]) (by decide +kernel) rfl ?_
                refine zwW_gs Ih37 (kd := 13) (bn := 0) (n := 97) (t := 0) (lo := 0) (hi := 156) (nx := 151) (by decide +kernel) ?_
                intro v39 ev39 lv39 uv39
                have ib4 : 0 ≤ v38 ∧ v38 < ((300 : Nat) : Int) := (by first | omega | exact ⟨by omega, by omega⟩)
                refine zwW_as Ih37 (a1 := 171) (a2 := 171) (n := 300) (lo := -2147483648) (hi := 2147483647) (nx := 152) (by decide +kernel) (by first | decide | exact ⟨by decide, by decide⟩) ib4 (by first | omega | exact ⟨by omega, by omega⟩) ?_
                intro h40 eh40 Ih40
                have jbh40 : 0 ≤ v38.toNat ∧ v38.toNat < 300 := ⟨Nat.zero_le _, zit ib4⟩
                have th40_37_0 : fld h40 37 0 = fld h37 37 0 := by rw [eh40]; exact fld_wr (Or.inl (by decide))
                have th40_37_64 : fld h40 37 64 = fld h37 37 64 := by rw [eh40]; exact fld_wr (Or.inl (by decide))
                have Kh40_176 : fld h40 176 = fld h7 176 := (funext fun j => fld_oth eh40 (Or.inl (by decide))).trans Kh37_176
                have Kh40_66 : fld h40 66 = fld hL13 66 := (funext fun j => fld_oth eh40 (Or.inl (by decide))).trans Kh37_66
                have Rh40 : zMR ms194 h h40 := Rh37.w (a1 := 171) (a2 := 171) (j1 := 0) (j2 := 300) (by decide +kernel) (by first | decide | exact ⟨by decide, by decide⟩) jbh40 eh40
                refine zwW_p [(1, 0, 2)] (q := 153) (ls' := [(2, 37), (0, v3), (0, qL16)]) (st' := [(2, 37)]) (by decide +kernel) rfl ?_
                refine zwW_gc Ih40 (kd := 13) (bn := 60) (n := 97) (c := 172) (nx := 156) (by decide +kernel) ?_
                refine zwW_p [(1, 0, 2)] (q := 157) (ls' := [(2, 37), (0, v3), (0, qL16)]) (st' := [(2, 37), (2, 172)]) (by decide +kernel) rfl ?_
                refine zwW_gs Ih40 (kd := 13) (bn := 64) (n := 97) (t := 0) (lo := 0) (hi := 300) (nx := 160) (by decide +kernel) ?_
                intro v41 ev41 lv41 uv41
                refine zwW_p [(1, 0, 2)] (q := 161) (ls' := [(2, 37), (0, v3), (0, qL16)]) (st' := [(2, 37), (0, v41), (2, 172)]) (by decide +kernel) rfl ?_
                refine zwW_gc Ih40 (kd := 13) (bn := 26) (n := 97) (c := 85) (nx := 164) (by decide +kernel) ?_
                refine zwW_p [(1, 2, 0)] (q := 165) (ls' := [(2, 37), (0, v3), (0, qL16)]) (st' := [(0, qL16), (2, 85), (0, v41), (2, 172)]) (by decide +kernel) rfl ?_
                refine zwW_al Ih40 (a1 := 85) (a2 := 85) (kd := 20) (n := 20) (t := 0) (lo := 0) (hi := 60) (nx := 166) (by decide +kernel) (by first | decide | exact ⟨by decide, by decide⟩) ib1 ?_
                intro v42 ev42 lv42 uv42
                have ib5 : 0 ≤ v41 ∧ v41 < ((300 : Nat) : Int) := (by first | omega | exact ⟨by omega, by omega⟩)
                refine zwW_as Ih40 (a1 := 172) (a2 := 172) (n := 300) (lo := -2147483648) (hi := 2147483647) (nx := 167) (by decide +kernel) (by first | decide | exact ⟨by decide, by decide⟩) ib5 (by first | omega | exact ⟨by omega, by omega⟩) ?_
                intro h43 eh43 Ih43
                have jbh43 : 0 ≤ v41.toNat ∧ v41.toNat < 300 := ⟨Nat.zero_le _, zit ib5⟩
                have th43_37_0 : fld h43 37 0 = fld h40 37 0 := by rw [eh43]; exact fld_wr (Or.inl (by decide))
                have th43_37_64 : fld h43 37 64 = fld h40 37 64 := by rw [eh43]; exact fld_wr (Or.inl (by decide))
                have Kh43_176 : fld h43 176 = fld h7 176 := (funext fun j => fld_oth eh43 (Or.inl (by decide))).trans Kh40_176
                have Kh43_66 : fld h43 66 = fld hL13 66 := (funext fun j => fld_oth eh43 (Or.inl (by decide))).trans Kh40_66
                have Rh43 : zMR ms194 h h43 := Rh40.w (a1 := 172) (a2 := 172) (j1 := 0) (j2 := 300) (by decide +kernel) (by first | decide | exact ⟨by decide, by decide⟩) jbh43 eh43
                refine zwW_p [(1, 0, 2)] (q := 168) (ls' := [(2, 37), (0, v3), (0, qL16)]) (st' := [(2, 37)]) (by decide +kernel) rfl ?_
                refine zwW_gc Ih43 (kd := 13) (bn := 61) (n := 97) (c := 173) (nx := 171) (by decide +kernel) ?_
                refine zwW_p [(1, 0, 2)] (q := 172) (ls' := [(2, 37), (0, v3), (0, qL16)]) (st' := [(2, 37), (2, 173)]) (by decide +kernel) rfl ?_
                refine zwW_gs Ih43 (kd := 13) (bn := 64) (n := 97) (t := 0) (lo := 0) (hi := 300) (nx := 175) (by decide +kernel) ?_
                intro v44 ev44 lv44 uv44
                refine zwW_p [(1, 0, 2), (1, 2, 0), (1, 0, 2)] (q := 178) (ls' := [(2, 37), (0, v3), (0, qL16)]) (st' := [(2, 37), (0, qL16), (2, 37), (0, v44), (2, 173)]) (by decide +kernel) rfl ?_
                refine zwW_gc Ih43 (kd := 13) (bn := 22) (n := 97) (c := 81) (nx := 181) (by decide +kernel) ?_
                refine zwW_p [(1, 2, 0)] (q := 182) (ls' := [(2, 37), (0, v3), (0, qL16)]) (st' := [(0, qL16), (2, 81), (0, qL16), (2, 37), (0, v44), (2, 173)]) (by decide +kernel) rfl ?_
                refine zwW_al Ih43 (a1 := 81) (a2 := 81) (kd := 20) (n := 20) (t := 0) (lo := 0) (hi := 9) (nx := 183) (by decide +kernel) (by first | decide | exact ⟨by decide, by decide⟩) ib1 ?_
                intro v45 ev45 lv45 uv45
                refine zwW_cm Ih43 (op := 60) (k' := 175) (n := 2) (kd := 13) (m := 97) (nx := 186) (r := 37) (tl := [(0, qL16), (0, v45)]) (st' := [(0, v44), (2, 173)]) (by decide +kernel) rfl (by decide +kernel) rfl (m175 h43 Ih43 qL16 v45 (by omega) (by omega)) ?_
                rintro v46 _ ⟨rfl, f47, f48⟩
                have ib6 : 0 ≤ v44 ∧ v44 < ((300 : Nat) : Int) := (by first | omega | exact ⟨by omega, by omega⟩)
                refine zwW_as Ih43 (a1 := 173) (a2 := 173) (n := 300) (lo := -2147483648) (hi := 2147483647) (nx := 187) (by decide +kernel) (by first | decide | exact ⟨by decide, by decide⟩) ib6 (by first | omega | exact ⟨by omega, by omega⟩) ?_
                intro h49 eh49 Ih49
                have jbh49 : 0 ≤ v44.toNat ∧ v44.toNat < 300 := ⟨Nat.zero_le _, zit ib6⟩
                have th49_37_0 : fld h49 37 0 = fld h43 37 0 := by rw [eh49]; exact fld_wr (Or.inl (by decide))
                have th49_37_64 : fld h49 37 64 = fld h43 37 64 := by rw [eh49]; exact fld_wr (Or.inl (by decide))
                have Kh49_176 : fld h49 176 = fld h7 176 := (funext fun j => fld_oth eh49 (Or.inl (by decide))).trans Kh43_176
                have Kh49_66 : fld h49 66 = fld hL13 66 := (funext fun j => fld_oth eh49 (Or.inl (by decide))).trans Kh43_66
                have Rh49 : zMR ms194 h h49 := Rh43.w (a1 := 173) (a2 := 173) (j1 := 0) (j2 := 300) (by decide +kernel) (by first | decide | exact ⟨by decide, by decide⟩) jbh49 eh49
                refine zwW_p [(1, 0, 2)] (q := 188) (ls' := [(2, 37), (0, v3), (0, qL16)]) (st' := [(2, 37)]) (by decide +kernel) rfl ?_
                refine zwW_gc Ih49 (kd := 13) (bn := 62) (n := 97) (c := 174) (nx := 191) (by decide +kernel) ?_
                refine zwW_p [(1, 0, 2)] (q := 192) (ls' := [(2, 37), (0, v3), (0, qL16)]) (st' := [(2, 37), (2, 174)]) (by decide +kernel) rfl ?_
                refine zwW_gs Ih49 (kd := 13) (bn := 64) (n := 97) (t := 0) (lo := 0) (hi := 300) (nx := 195) (by decide +kernel) ?_
                intro v50 ev50 lv50 uv50
                refine zwW_p [(1, 0, 2)] (q := 196) (ls' := [(2, 37), (0, v3), (0, qL16)]) (st' := [(2, 37), (0, v50), (2, 174)]) (by decide +kernel) rfl ?_
                refine zwW_gc Ih49 (kd := 13) (bn := 65) (n := 97) (c := 176) (nx := 199) (by decide +kernel) ?_
                refine zwW_p [(1, 2, 0)] (q := 200) (ls' := [(2, 37), (0, v3), (0, qL16)]) (st' := [(0, qL16), (2, 176), (0, v50), (2, 174)]) (by decide +kernel) rfl ?_
                refine zwW_al Ih49 (a1 := 176) (a2 := 176) (kd := 20) (n := 20) (t := 0) (lo := -2147483648) (hi := 2147483647) (nx := 201) (by decide +kernel) (by first | decide | exact ⟨by decide, by decide⟩) ib1 ?_
                intro v51 ev51 lv51 uv51
                have ib7 : 0 ≤ v50 ∧ v50 < ((300 : Nat) : Int) := (by first | omega | exact ⟨by omega, by omega⟩)
                refine zwW_as Ih49 (a1 := 174) (a2 := 174) (n := 300) (lo := -2147483648) (hi := 2147483647) (nx := 202) (by decide +kernel) (by first | decide | exact ⟨by decide, by decide⟩) ib7 (by first | omega | exact ⟨by omega, by omega⟩) ?_
                intro h52 eh52 Ih52
                have jbh52 : 0 ≤ v50.toNat ∧ v50.toNat < 300 := ⟨Nat.zero_le _, zit ib7⟩
                have th52_37_0 : fld h52 37 0 = fld h49 37 0 := by rw [eh52]; exact fld_wr (Or.inl (by decide))
                have th52_37_64 : fld h52 37 64 = fld h49 37 64 := by rw [eh52]; exact fld_wr (Or.inl (by decide))
                have Kh52_176 : fld h52 176 = fld h7 176 := (funext fun j => fld_oth eh52 (Or.inl (by decide))).trans Kh49_176
                have Kh52_66 : fld h52 66 = fld hL13 66 := (funext fun j => fld_oth eh52 (Or.inl (by decide))).trans Kh49_66
                have Rh52 : zMR ms194 h h52 := Rh49.w (a1 := 174) (a2 := 174) (j1 := 0) (j2 := 300) (by decide +kernel) (by first | decide | exact ⟨by decide, by decide⟩) jbh52 eh52
                refine zwW_p [(1, 0, 2)] (q := 203) (ls' := [(2, 37), (0, v3), (0, qL16)]) (st' := [(2, 37)]) (by decide +kernel) rfl ?_
                refine zwW_gc Ih52 (kd := 13) (bn := 63) (n := 97) (c := 175) (nx := 206) (by decide +kernel) ?_
                refine zwW_p [(1, 0, 2)] (q := 207) (ls' := [(2, 37), (0, v3), (0, qL16)]) (st' := [(2, 37), (2, 175)]) (by decide +kernel) rfl ?_
                refine zwW_gs Ih52 (kd := 13) (bn := 64) (n := 97) (t := 0) (lo := 0) (hi := 300) (nx := 210) (by decide +kernel) ?_
                intro v53 ev53 lv53 uv53
                refine zwW_p [(1, 0, 2)] (q := 211) (ls' := [(2, 37), (0, v3), (0, qL16)]) (st' := [(2, 37), (0, v53), (2, 175)]) (by decide +kernel) rfl ?_
                refine zwW_gc Ih52 (kd := 13) (bn := 65) (n := 97) (c := 176) (nx := 214) (by decide +kernel) ?_
                refine zwW_p [(1, 2, 0)] (q := 215) (ls' := [(2, 37), (0, v3), (0, qL16)]) (st' := [(0, qL16), (2, 176), (0, v53), (2, 175)]) (by decide +kernel) rfl ?_
                refine zwW_al Ih52 (a1 := 176) (a2 := 176) (kd := 20) (n := 20) (t := 0) (lo := -2147483648) (hi := 2147483647) (nx := 216) (by decide +kernel) (by first | decide | exact ⟨by decide, by decide⟩) ib1 ?_
                intro v54 ev54 lv54 uv54
                have ib8 : 0 ≤ v53 ∧ v53 < ((300 : Nat) : Int) := (by first | omega | exact ⟨by omega, by omega⟩)
                refine zwW_as Ih52 (a1 := 175) (a2 := 175) (n := 300) (lo := -2147483648) (hi := 2147483647) (nx := 217) (by decide +kernel) (by first | decide | exact ⟨by decide, by decide⟩) ib8 (by first | omega | exact ⟨by omega, by omega⟩) ?_
                intro h55 eh55 Ih55
                have jbh55 : 0 ≤ v53.toNat ∧ v53.toNat < 300 := ⟨Nat.zero_le _, zit ib8⟩
                have th55_37_0 : fld h55 37 0 = fld h52 37 0 := by rw [eh55]; exact fld_wr (Or.inl (by decide))
                have th55_37_64 : fld h55 37 64 = fld h52 37 64 := by rw [eh55]; exact fld_wr (Or.inl (by decide))
                have Kh55_176 : fld h55 176 = fld h7 176 := (funext fun j => fld_oth eh55 (Or.inl (by decide))).trans Kh52_176
                have Kh55_66 : fld h55 66 = fld hL13 66 := (funext fun j => fld_oth eh55 (Or.inl (by decide))).trans Kh52_66
                have Rh55 : zMR ms194 h h55 := Rh52.w (a1 := 175) (a2 := 175) (j1 := 0) (j2 := 300) (by decide +kernel) (by first | decide | exact ⟨by decide, by decide⟩) jbh55 eh55
                refine zwW_p [(1, 0, 2), (12, 0, 0)] (q := 219) (ls' := [(2, 37), (0, v3), (0, qL16)]) (st' := [(2, 37), (2, 37)]) (by decide +kernel) rfl ?_
                refine zwW_gs Ih55 (kd := 13) (bn := 64) (n := 97) (t := 0) (lo := 0) (hi := 300) (nx := 222) (by decide +kernel) ?_
                intro v56 ev56 lv56 uv56
                refine zwW_p [(0, 1, 0)] (q := 223) (ls' := [(2, 37), (0, v3), (0, qL16)]) (st' := [(0, 1), (0, v56), (2, 37)]) (by decide +kernel) rfl ?_
                refine zwW_add (nx := 224) (by decide +kernel) (by first | omega | exact ⟨by omega, by omega⟩) ?_
                refine zwW_ps Ih55 (kd := 13) (bn := 64) (n := 97) (lo := 0) (hi := 300) (nx := 227) (by decide +kernel) (by first | omega | exact ⟨by omega, by omega⟩) ?_
                intro h57 eh57 Ih57
                have th57_37_0 : fld h57 37 0 = fld h55 37 0 := by rw [eh57]; exact fld_wr (by decide)
                have th57_37_64 : fld h57 37 64 = (v56 + 1) := by rw [eh57]; exact fld_wr_eq (Ih55.s (a1 := 37) (a2 := 37) (k := 13) (n := 97) (by decide +kernel) (by decide) (by decide)) (by decide)
                have Kh57_176 : fld h57 176 = fld h7 176 := (funext fun j => fld_oth eh57 (Or.inl (by decide))).trans Kh55_176
                have Kh57_66 : fld h57 66 = fld hL13 66 := (funext fun j => fld_oth eh57 (Or.inl (by decide))).trans Kh55_66
                have Rh57 : zMR ms194 h h57 := Rh55.w (a1 := 37) (a2 := 37) (j1 := 64) (j2 := 65) (by decide +kernel) (by first | decide | exact ⟨by decide, by decide⟩) (by first | decide | exact ⟨by decide, by decide⟩) eh57
                have S227 : zNZ (fld h7 176) ((qL16).toNat + 1) = zNZ (fld h7 176) (qL16).toNat + (if fld h7 176 (qL16).toNat = 0 then 0 else 1) := rfl
                have K227 := congrFun Kh57_176 (qL16).toNat
                refine zwW_inc (i := 2) (c := 1) (x := qL16) (nx := 230) (by decide +kernel) rfl (by first | omega | exact ⟨by omega, by omega⟩) (ls' := [(2, 37), (0, v3), (0, (qL16 + 1))]) rfl ?_
                refine zwW_p [(24, 61, 0)] (q := 61) (ls' := [(2, 37), (0, v3), (0, (qL16 + 1))]) (st' := []) (by decide +kernel) rfl ?_
                exact IHL16 ((100 - (qL16 + 1))).toNat (by omega) (qL16 + 1) h57 rfl (by omega) (by omega) (by rw [show (qL16 + 1).toNat = (qL16).toNat + 1 by omega, S227]; first | (rw [if_neg (by omega)]; omega) | (rw [if_pos (by omega)]; omega)) (Kh57_176) (Kh57_66) Ih57 Rh57
              · refine zwW_p [(24, 227, 0)] (q := 227) (ls' := [(2, 37), (0, v3), (0, qL16)]) (st' := []) (by decide +kernel) rfl ?_
                have S227 : zNZ (fld h7 176) ((qL16).toNat + 1) = zNZ (fld h7 176) (qL16).toNat + (if fld h7 176 (qL16).toNat = 0 then 0 else 1) := rfl
                have K227 := congrFun Kh33_176 (qL16).toNat
                refine zwW_inc (i := 2) (c := 1) (x := qL16) (nx := 230) (by decide +kernel) rfl (by first | omega | exact ⟨by omega, by omega⟩) (ls' := [(2, 37), (0, v3), (0, (qL16 + 1))]) rfl ?_
                refine zwW_p [(24, 61, 0)] (q := 61) (ls' := [(2, 37), (0, v3), (0, (qL16 + 1))]) (st' := []) (by decide +kernel) rfl ?_
                exact IHL16 ((100 - (qL16 + 1))).toNat (by omega) (qL16 + 1) h33 rfl (by omega) (by omega) (by rw [show (qL16 + 1).toNat = (qL16).toNat + 1 by omega, S227]; first | (rw [if_neg (by omega)]; omega) | (rw [if_pos (by omega)]; omega)) (Kh33_176) (Kh33_66) Ih33 Rh33
        exact L16 _ 0 hL13 rfl (by omega) (by omega) (by show _ = _ + 0; omega) (iL13_3) ((rfl : fld hL13 66 = _)) IhL13 RhL13
      · refine zwW_p [(1, 0, 2)] (q := 42) (ls' := [(2, 37), (0, v3), (0, vL13)]) (st' := [(2, 37)]) (by decide +kernel) rfl ?_
        refine zwW_gc IhL13 (kd := 13) (bn := 7) (n := 97) (c := 66) (nx := 45) (by decide +kernel) ?_
        refine zwW_p [(1, 2, 0), (1, 0, 2)] (q := 47) (ls' := [(2, 37), (0, v3), (0, vL13)]) (st' := [(2, 37), (0, vL13), (2, 66)]) (by decide +kernel) rfl ?_
        refine zwW_gc IhL13 (kd := 13) (bn := 66) (n := 97) (c := 177) (nx := 50) (by decide +kernel) ?_
        refine zwW_p [(1, 2, 0)] (q := 51) (ls' := [(2, 37), (0, v3), (0, vL13)]) (st' := [(0, vL13), (2, 177), (0, vL13), (2, 66)]) (by decide +kernel) rfl ?_
        have ib9 : 0 ≤ vL13 ∧ vL13 < ((8 : Nat) : Int) := (by first | omega | exact ⟨by omega, by omega⟩)
        refine zwW_al IhL13 (a1 := 177) (a2 := 177) (kd := 20) (n := 8) (t := 0) (lo := -2147483648) (hi := 2147483647) (nx := 52) (by decide +kernel) (by first | decide | exact ⟨by decide, by decide⟩) ib9 ?_
        intro v58 ev58 lv58 uv58
        refine zwW_as IhL13 (a1 := 66) (a2 := 66) (n := 8) (lo := -2147483648) (hi := 2147483647) (nx := 53) (by decide +kernel) (by first | decide | exact ⟨by decide, by decide⟩) ib9 (by first | omega | exact ⟨by omega, by omega⟩) ?_
        intro h59 eh59 Ih59
        have jbh59 : 0 ≤ vL13.toNat ∧ vL13.toNat < 8 := ⟨Nat.zero_le _, zit ib9⟩
        have th59_37_0 : fld h59 37 0 = fld hL13 37 0 := by rw [eh59]; exact fld_wr (Or.inl (by decide))
        have th59_37_64 : fld h59 37 64 = fld hL13 37 64 := by rw [eh59]; exact fld_wr (Or.inl (by decide))
        have Kh59_176 : fld h59 176 = fld h7 176 := (funext fun j => fld_oth eh59 (Or.inl (by decide))).trans iL13_3
        have Kh59_177 : fld h59 177 = fld h7 177 := (funext fun j => fld_oth eh59 (Or.inl (by decide))).trans iL13_4
        have W52 : ∀ u : Nat, (u : Int) < vL13 + 1 → fld h59 66 u = fld h7 177 u := by
          intro u hu
          rw [fwi eh59 (IhL13.s (a1 := 66) (a2 := 66) (k := 20) (n := 8) (by decide +kernel) (by decide) (by decide)) (by omega) u]
          by_cases z : u = (vL13).toNat
          · rw [if_pos z, z, ev58]; exact congrFun iL13_4 _
          · rw [if_neg z]; exact iL13_5 u (by omega)
        have Rh59 : zMR ms194 h h59 := RhL13.w (a1 := 66) (a2 := 66) (j1 := 0) (j2 := 8) (by decide +kernel) (by first | decide | exact ⟨by decide, by decide⟩) jbh59 eh59
        refine zwW_inc (i := 2) (c := 1) (x := vL13) (nx := 56) (by decide +kernel) rfl (by first | omega | exact ⟨by omega, by omega⟩) (ls' := [(2, 37), (0, v3), (0, (vL13 + 1))]) rfl ?_
        refine zwW_p [(24, 33, 0)] (q := 33) (ls' := [(2, 37), (0, v3), (0, (vL13 + 1))]) (st' := []) (by decide +kernel) rfl ?_
        exact IHL13 ((100 - (vL13 + 1))).toNat (by omega) (vL13 + 1) h59 rfl (by omega) (by omega) (by omega) (Kh59_176) (Kh59_177) (W52) Ih59 Rh59
  exact L13 _ 0 h12 rfl (by omega) (by omega) (by omega) (Kh12_176) (Kh12_177) (fun u hu => by omega) Ih12 Rh12
-- WheelLandModel.week()V
theorem m114_s {sc : List Int} (h : Hp) (I : zI h) (p1 : fld h 37 0 ≤ 155) (hA : zAM h) (hW : zCW h) (BO : zBs (zSt h)) : zwC sc 8 114 [(2, 37)] h (zwRv (fun g => zI g ∧ zMR ms114 h g ∧ (fld g 37 0 = fld h 37 0 + 1) ∧ (zAg (zSt g) (yWk (zSt h))))) := by
  refine zwC_of (D := 7) 2 (by decide +kernel) rfl (ls := [(2, 37), (9, 0)]) rfl ?_
  have R : zMR ms114 h h := zMR.rf _ _
  have B0 := I.b (a1 := 37) (a2 := 37) (j1 := 2) (j2 := 3) (lo := 0) (hi := 20) (by decide +kernel) (r := 37) (j := 2) (by decide) (by decide) (by decide) (by decide)
  have B1 := I.b (a1 := 37) (a2 := 37) (j1 := 0) (j2 := 1) (lo := 0) (hi := 156) (by decide +kernel) (r := 37) (j := 0) (by decide) (by decide) (by decide) (by decide)
  have N1 := I.b (a1 := 37) (a2 := 37) (j1 := 1) (j2 := 2) (lo := 0) (hi := 8) (by decide +kernel) (r := 37) (j := 1) (by decide) (by decide) (by decide) (by decide)
  have BN := BO.sn (yEp_4 (S := zSt h)) (fld h 37 2).toNat (show (((fld h 37 2).toNat : Nat) : Int) ≤ fld h 37 2 by omega)
  refine zwW_p [(1, 0, 2)] (q := 1) (ls' := [(2, 37), (9, 0)]) (st' := [(2, 37)]) (by decide +kernel) rfl ?_
  refine zwW_cmv I (op := 60) (k' := 194) (n := 0) (kd := 13) (m := 97) (nx := 4) (r := 37) (tl := []) (st' := []) (by decide +kernel) rfl (by decide +kernel) rfl (m194_s h I (by omega) (hA.mr R (by decide +kernel) (by omega)) BO) ?_
  rintro h2 ⟨Ih2, Qh2, f1⟩
  have Rh2 : zMR ms114 h h2 := R.tr Qh2 (by decide +kernel)
  have th2_37_0 : fld h2 37 0 = fld h 37 0 := Qh2.f (a1 := 37) (a2 := 37) (j1 := 0) (j2 := 1) (by decide +kernel) (by first | decide | exact ⟨by decide, by decide⟩) (by first | decide | exact ⟨by decide, by decide⟩)
  have X4 := f1
  refine zwW_p [(0, 0, 0), (2, 1, 0)] (q := 6) (ls' := [(2, 37), (0, 0)]) (st' := []) (by decide +kernel) rfl ?_
  have L3 : ∀ (n0 : Nat) (qL3 : Int) (hL3 : Hp), n0 = ((1000 - qL3)).toNat → (0 ≤ qL3 ∧ qL3 ≤ 20) → (fld hL3 37 0 = fld h 37 0) → (zAg (zSt hL3) (ySN (zSt h) (yEp (zSt h)) (fld h 37 2).toNat)) → zI hL3 → zMR ms114 h hL3 → zwW sc (7) 114 6 [(2, 37), (0, qL3)] [] hL3 (zwRv (fun g => zI g ∧ zMR ms114 h g ∧ (fld g 37 0 = fld h 37 0 + 1) ∧ (zAg (zSt g) (yWk (zSt h))))) := by
    intro n0
    induction n0 using Nat.strongRecOn with
    | ind n0 IHL3 =>
      intro qL3 hL3 hnL3 iL3_0 iL3_1 iL3_2 IhL3 RhL3
      refine zwW_p [(1, 1, 0), (1, 0, 2)] (q := 8) (ls' := [(2, 37), (0, qL3)]) (st' := [(2, 37), (0, qL3)]) (by decide +kernel) rfl ?_
      refine zwW_gs IhL3 (kd := 13) (bn := 2) (n := 97) (t := 0) (lo := 0) (hi := 20) (nx := 11) (by decide +kernel) ?_
      intro v4 ev4 lv4 uv4
      refine zwic_ge (q := 41) (nx := 14) (by decide +kernel) (fun c5 => ?_) (fun c5 => ?_)
      · refine zwW_p [(1, 0, 2)] (q := 42) (ls' := [(2, 37), (0, qL3)]) (st' := [(2, 37)]) (by decide +kernel) rfl ?_
        refine zwW_gs IhL3 (kd := 13) (bn := 0) (n := 97) (t := 0) (lo := 0) (hi := 156) (nx := 45) (by decide +kernel) ?_
        intro v6 ev6 lv6 uv6
        refine zwW_p [(0, 13, 0)] (q := 47) (ls' := [(2, 37), (0, qL3)]) (st' := [(0, 13), (0, v6)]) (by decide +kernel) rfl ?_
        refine zwW_rem (nx := 48) (by decide +kernel) (by omega) (by omega) ?_
        refine zwW_p [(0, 12, 0)] (q := 50) (ls' := [(2, 37), (0, qL3)]) (st' := [(0, 12), (0, (v6 % 13))]) (by decide +kernel) rfl ?_
        refine zwic_ne (q := 57) (nx := 53) (by decide +kernel) (fun c7 => ?_) (fun c7 => ?_)
        · refine zwW_p [(1, 0, 2)] (q := 58) (ls' := [(2, 37), (0, qL3)]) (st' := [(2, 37)]) (by decide +kernel) rfl ?_
          refine zwW_cmv IhL3 (op := 60) (k' := 197) (n := 0) (kd := 13) (m := 97) (nx := 61) (r := 37) (tl := []) (st' := []) (by decide +kernel) rfl (by decide +kernel) rfl (m197 hL3 IhL3) ?_
          rintro h8 ⟨Ih8, Qh8⟩
          have XAh8 : zAg (zSt h8) (ySN (zSt h) (yEp (zSt h)) (fld h 37 2).toNat) := iL3_2.mr (h1 := hL3) Qh8 (by decide +kernel) (by have q := IhL3.b (a1 := 37) (a2 := 37) (j1 := 1) (j2 := 2) (lo := 0) (hi := 8) (by decide +kernel) (r := 37) (j := 1) (by decide) (by decide) (by decide) (by decide); omega) (by have q := IhL3.b (a1 := 37) (a2 := 37) (j1 := 2) (j2 := 3) (lo := 0) (hi := 20) (by decide +kernel) (r := 37) (j := 2) (by decide) (by decide) (by decide) (by decide); omega)
          have Rh8 : zMR ms114 h h8 := RhL3.tr Qh8 (by decide +kernel)
          have th8_37_0 : fld h8 37 0 = fld hL3 37 0 := Qh8.f (a1 := 37) (a2 := 37) (j1 := 0) (j2 := 1) (by decide +kernel) (by first | decide | exact ⟨by decide, by decide⟩) (by first | decide | exact ⟨by decide, by decide⟩)
          refine zwW_p [(0, 0, 0), (2, 1, 0)] (q := 63) (ls' := [(2, 37), (0, 0)]) (st' := []) (by decide +kernel) rfl ?_
          have L9 : ∀ (n0 : Nat) (vL9 : Int) (hL9 : Hp), n0 = ((1000 - vL9)).toNat → (0 ≤ vL9 ∧ vL9 ≤ 8) → (fld hL9 37 0 = fld h 37 0) → (zAg (zSt hL9) (ySN (zSt h) (yEp (zSt h)) (fld h 37 2).toNat)) → zI hL9 → zMR ms114 h hL9 → zwW sc (7) 114 63 [(2, 37), (0, vL9)] [] hL9 (zwRv (fun g => zI g ∧ zMR ms114 h g ∧ (fld g 37 0 = fld h 37 0 + 1) ∧ (zAg (zSt g) (yWk (zSt h))))) := by
            intro n0
            induction n0 using Nat.strongRecOn with
            | ind n0 IHL9 =>
              intro vL9 hL9 hnL9 iL9_0 iL9_1 iL9_2 IhL9 RhL9
              refine zwW_p [(1, 1, 0), (1, 0, 2)] (q := 65) (ls' := [(2, 37), (0, vL9)]) (st' := [(2, 37), (0, vL9)]) (by decide +kernel) rfl ?_
              refine zwW_gs IhL9 (kd := 13) (bn := 1) (n := 97) (t := 0) (lo := 0) (hi := 8) (nx := 68) (by decide +kernel) ?_
              intro v10 ev10 lv10 uv10
              refine zwic_ge (q := 97) (nx := 71) (by decide +kernel) (fun c11 => ?_) (fun c11 => ?_)
              · refine zwW_p [(0, 0, 0), (2, 1, 0)] (q := 99) (ls' := [(2, 37), (0, 0)]) (st' := []) (by decide +kernel) rfl ?_
                have L12 : ∀ (n0 : Nat) (lL12 : Int) (hL12 : Hp), n0 = ((1000 - lL12)).toNat → (0 ≤ lL12 ∧ lL12 ≤ 300) → (fld hL12 37 0 = fld h 37 0) → (zAg (zSt hL12) (ySN (zSt h) (yEp (zSt h)) (fld h 37 2).toNat)) → zI hL12 → zMR ms114 h hL12 → zwW sc (7) 114 99 [(2, 37), (0, lL12)] [] hL12 (zwRv (fun g => zI g ∧ zMR ms114 h g ∧ (fld g 37 0 = fld h 37 0 + 1) ∧ (zAg (zSt g) (yWk (zSt h))))) := by
                  intro n0
                  induction n0 using Nat.strongRecOn with
                  | ind n0 IHL12 =>
                    intro lL12 hL12 hnL12 iL12_0 iL12_1 iL12_2 IhL12 RhL12
                    refine zwW_p [(1, 1, 0), (1, 0, 2)] (q := 101) (ls' := [(2, 37), (0, lL12)]) (st' := [(2, 37), (0, lL12)]) (by decide +kernel) rfl ?_
                    refine zwW_gs IhL12 (kd := 13) (bn := 64) (n := 97) (t := 0) (lo := 0) (hi := 300) (nx := 104) (by decide +kernel) ?_
                    intro v13 ev13 lv13 uv13
                    refine zwic_ge (q := 133) (nx := 107) (by decide +kernel) (fun c14 => ?_) (fun c14 => ?_)
                    · refine zwW_p [(1, 0, 2)] (q := 134) (ls' := [(2, 37), (0, lL12)]) (st' := [(2, 37)]) (by decide +kernel) rfl ?_
                      refine zwW_gc IhL12 (kd := 13) (bn := 91) (n := 97) (c := 205) (nx := 137) (by decide +kernel) ?_
                      refine zwW_p [(1, 0, 2)] (q := 138) (ls' := [(2, 37), (0, lL12)]) (st' := [(2, 37), (2, 205)]) (by decide +kernel) rfl ?_
                      refine zwW_gs IhL12 (kd := 13) (bn := 0) (n := 97) (t := 0) (lo := 0) (hi := 156) (nx := 141) (by decide +kernel) ?_
                      intro v15 ev15 lv15 uv15
                      refine zwW_ro IhL12 (a := 205) (n := 156) (kd := 26) (base := 206) (step := 1) (nx := 142) (by decide +kernel) rfl (by first | omega | exact ⟨by omega, by omega⟩) ?_
                      rw [show ((206 : Nat) : Int) + ((1 : Nat) : Int) * v15 = (206 + v15) by omega]
                      refine zwW_p [(0, 3, 0), (1, 0, 2)] (q := 144) (ls' := [(2, 37), (0, lL12)]) (st' := [(2, 37), (0, 3), (2, (206 + v15))]) (by decide +kernel) rfl ?_
                      refine zwW_gs IhL12 (kd := 13) (bn := 69) (n := 97) (t := 0) (lo := -2147483648) (hi := 2147483647) (nx := 147) (by decide +kernel) ?_
                      intro v16 ev16 lv16 uv16
                      refine zwW_as IhL12 (a1 := 206) (a2 := 361) (n := 6) (lo := -2147483648) (hi := 2147483647) (nx := 148) (by decide +kernel) (by first | omega | exact ⟨by omega, by omega⟩) (by first | decide | exact ⟨by decide, by decide⟩) (by first | omega | exact ⟨by omega, by omega⟩) ?_
                      intro h17 eh17 Ih17
                      have rbh17 : ((206 : Nat) : Int) ≤ (206 + v15) ∧ (206 + v15) ≤ ((361 : Nat) : Int) := (by first | omega | exact ⟨by omega, by omega⟩)
                      have th17_37_0 : fld h17 37 0 = fld hL12 37 0 := by rw [eh17]; exact fld_wr (Or.inl (zne_l (by decide) rbh17.1))
                      have Qh17 : zMR [(206, 361, 0, 6)] hL12 h17 := zMR.one rbh17 (by first | decide | exact ⟨by decide, by decide⟩) eh17
                      have XAh17 : zAg (zSt h17) (ySN (zSt h) (yEp (zSt h)) (fld h 37 2).toNat) := iL12_2.mr (h1 := hL12) Qh17 (by decide +kernel) (by have q := IhL12.b (a1 := 37) (a2 := 37) (j1 := 1) (j2 := 2) (lo := 0) (hi := 8) (by decide +kernel) (r := 37) (j := 1) (by decide) (by decide) (by decide) (by decide); omega) (by have q := IhL12.b (a1 := 37) (a2 := 37) (j1 := 2) (j2 := 3) (lo := 0) (hi := 20) (by decide +kernel) (r := 37) (j := 2) (by decide) (by decide) (by decide) (by decide); omega)
                      have Rh17 : zMR ms114 h h17 := RhL12.w (a1 := 206) (a2 := 361) (j1 := 0) (j2 := 6) (by decide +kernel) rbh17 (by first | decide | exact ⟨by decide, by decide⟩) eh17
                      refine zwW_p [(1, 0, 2)] (q := 149) (ls' := [(2, 37), (0, lL12)]) (st' := [(2, 37)]) (by decide +kernel) rfl ?_
                      refine zwW_gc Ih17 (kd := 13) (bn := 91) (n := 97) (c := 205) (nx := 152) (by decide +kernel) ?_
                      refine zwW_p [(1, 0, 2)] (q := 153) (ls' := [(2, 37), (0, lL12)]) (st' := [(2, 37), (2, 205)]) (by decide +kernel) rfl ?_
                      refine zwW_gs Ih17 (kd := 13) (bn := 0) (n := 97) (t := 0) (lo := 0) (hi := 156) (nx := 156) (by decide +kernel) ?_
                      intro v18 ev18 lv18 uv18
                      refine zwW_ro Ih17 (a := 205) (n := 156) (kd := 26) (base := 206) (step := 1) (nx := 157) (by decide +kernel) rfl (by first | omega | exact ⟨by omega, by omega⟩) ?_
                      rw [show ((206 : Nat) : Int) + ((1 : Nat) : Int) * v18 = (206 + v18) by omega]
                      refine zwW_p [(0, 4, 0), (1, 0, 2)] (q := 159) (ls' := [(2, 37), (0, lL12)]) (st' := [(2, 37), (0, 4), (2, (206 + v18))]) (by decide +kernel) rfl ?_
                      refine zwW_gs Ih17 (kd := 13) (bn := 70) (n := 97) (t := 0) (lo := -2147483648) (hi := 2147483647) (nx := 162) (by decide +kernel) ?_
                      intro v19 ev19 lv19 uv19
                      refine zwW_as Ih17 (a1 := 206) (a2 := 361) (n := 6) (lo := -2147483648) (hi := 2147483647) (nx := 163) (by decide +kernel) (by first | omega | exact ⟨by omega, by omega⟩) (by first | decide | exact ⟨by decide, by decide⟩) (by first | omega | exact ⟨by omega, by omega⟩) ?_
                      intro h20 eh20 Ih20
                      have rbh20 : ((206 : Nat) : Int) ≤ (206 + v18) ∧ (206 + v18) ≤ ((361 : Nat) : Int) := (by first | omega | exact ⟨by omega, by omega⟩)
                      have th20_37_0 : fld h20 37 0 = fld h17 37 0 := by rw [eh20]; exact fld_wr (Or.inl (zne_l (by decide) rbh20.1))
                      have Qh20 : zMR [(206, 361, 0, 6)] h17 h20 := zMR.one rbh20 (by first | decide | exact ⟨by decide, by decide⟩) eh20
                      have XAh20 : zAg (zSt h20) (ySN (zSt h) (yEp (zSt h)) (fld h 37 2).toNat) := XAh17.mr (h1 := h17) Qh20 (by decide +kernel) (by have q := Ih17.b (a1 := 37) (a2 := 37) (j1 := 1) (j2 := 2) (lo := 0) (hi := 8) (by decide +kernel) (r := 37) (j := 1) (by decide) (by decide) (by decide) (by decide); omega) (by have q := Ih17.b (a1 := 37) (a2 := 37) (j1 := 2) (j2 := 3) (lo := 0) (hi := 20) (by decide +kernel) (r := 37) (j := 2) (by decide) (by decide) (by decide) (by decide); omega)
                      have Rh20 : zMR ms114 h h20 := Rh17.w (a1 := 206) (a2 := 361) (j1 := 0) (j2 := 6) (by decide +kernel) rbh20 (by first | decide | exact ⟨by decide, by decide⟩) eh20
                      refine zwW_p [(1, 0, 2)] (q := 164) (ls' := [(2, 37), (0, lL12)]) (st' := [(2, 37)]) (by decide +kernel) rfl ?_
                      refine zwW_gc Ih20 (kd := 13) (bn := 91) (n := 97) (c := 205) (nx := 167) (by decide +kernel) ?_
                      refine zwW_p [(1, 0, 2)] (q := 168) (ls' := [(2, 37), (0, lL12)]) (st' := [(2, 37), (2, 205)]) (by decide +kernel) rfl ?_
                      refine zwW_gs Ih20 (kd := 13) (bn := 0) (n := 97) (t := 0) (lo := 0) (hi := 156) (nx := 171) (by decide +kernel) ?_
                      intro v21 ev21 lv21 uv21
                      refine zwW_ro Ih20 (a := 205) (n := 156) (kd := 26) (base := 206) (step := 1) (nx := 172) (by decide +kernel) rfl (by first | omega | exact ⟨by omega, by omega⟩) ?_
                      rw [show ((206 : Nat) : Int) + ((1 : Nat) : Int) * v21 = (206 + v21) by omega]
                      refine zwW_p [(0, 5, 0), (1, 0, 2)] (q := 174) (ls' := [(2, 37), (0, lL12)]) (st' := [(2, 37), (0, 5), (2, (206 + v21))]) (by decide +kernel) rfl ?_
                      refine zwW_gs Ih20 (kd := 13) (bn := 71) (n := 97) (t := 0) (lo := -2147483648) (hi := 2147483647) (nx := 177) (by decide +kernel) ?_
                      intro v22 ev22 lv22 uv22
                      refine zwW_as Ih20 (a1 := 206) (a2 := 361) (n := 6) (lo := -2147483648) (hi := 2147483647) (nx := 178) (by decide +kernel) (by first | omega | exact ⟨by omega, by omega⟩) (by first | decide | exact ⟨by decide, by decide⟩) (by first | omega | exact ⟨by omega, by omega⟩) ?_
                      intro h23 eh23 Ih23
                      have rbh23 : ((206 : Nat) : Int) ≤ (206 + v21) ∧ (206 + v21) ≤ ((361 : Nat) : Int) := (by first | omega | exact ⟨by omega, by omega⟩)
                      have th23_37_0 : fld h23 37 0 = fld h20 37 0 := by rw [eh23]; exact fld_wr (Or.inl (zne_l (by decide) rbh23.1))
                      have Qh23 : zMR [(206, 361, 0, 6)] h20 h23 := zMR.one rbh23 (by first | decide | exact ⟨by decide, by decide⟩) eh23
                      have XAh23 : zAg (zSt h23) (ySN (zSt h) (yEp (zSt h)) (fld h 37 2).toNat) := XAh20.mr (h1 := h20) Qh23 (by decide +kernel) (by have q := Ih20.b (a1 := 37) (a2 := 37) (j1 := 1) (j2 := 2) (lo := 0) (hi := 8) (by decide +kernel) (r := 37) (j := 1) (by decide) (by decide) (by decide) (by decide); omega) (by have q := Ih20.b (a1 := 37) (a2 := 37) (j1 := 2) (j2 := 3) (lo := 0) (hi := 20) (by decide +kernel) (r := 37) (j := 2) (by decide) (by decide) (by decide) (by decide); omega)
                      have Rh23 : zMR ms114 h h23 := Rh20.w (a1 := 206) (a2 := 361) (j1 := 0) (j2 := 6) (by decide +kernel) rbh23 (by first | decide | exact ⟨by decide, by decide⟩) eh23
                      refine zwW_p [(1, 0, 2), (12, 0, 0)] (q := 180) (ls' := [(2, 37), (0, lL12)]) (st' := [(2, 37), (2, 37)]) (by decide +kernel) rfl ?_
                      refine zwW_gs Ih23 (kd := 13) (bn := 0) (n := 97) (t := 0) (lo := 0) (hi := 156) (nx := 183) (by decide +kernel) ?_
                      intro v24 ev24 lv24 uv24
                      refine zwW_p [(0, 1, 0)] (q := 184) (ls' := [(2, 37), (0, lL12)]) (st' := [(0, 1), (0, v24), (2, 37)]) (by decide +kernel) rfl ?_
                      refine zwW_add (nx := 185) (by decide +kernel) (by first | omega | exact ⟨by omega, by omega⟩) ?_
                      have X185 := XAh23
                      refine zwW_ps Ih23 (kd := 13) (bn := 0) (n := 97) (lo := 0) (hi := 156) (nx := 188) (by decide +kernel) (by first | omega | exact ⟨by omega, by omega⟩) ?_
                      intro h25 eh25 Ih25
                      have th25_37_0 : fld h25 37 0 = (v24 + 1) := by rw [eh25]; exact fld_wr_eq (Ih23.s (a1 := 37) (a2 := 37) (k := 13) (n := 97) (by decide +kernel) (by decide) (by decide)) (by decide)
                      have Qh25 : zMR [(37, 37, 0, 1)] h23 h25 := zMR.one (by first | decide | exact ⟨by decide, by decide⟩) (by first | decide | exact ⟨by decide, by decide⟩) eh25
                      have Rh25 : zMR ms114 h h25 := Rh23.w (a1 := 37) (a2 := 37) (j1 := 0) (j2 := 1) (by decide +kernel) (by first | decide | exact ⟨by decide, by decide⟩) (by first | decide | exact ⟨by decide, by decide⟩) eh25
                      have X188 : zAg (zSt h25) (yWk (zSt h)) := X185.nw Qh25 (by decide +kernel) (by omega) (by have q := X185.1.2.1; have r : ySN (zSt h) (yEp (zSt h)) (fld h 37 2).toNat 37 1 = fld h 37 1 := ySN_ne (by decide) (Or.inr (by decide)) _; show fld h23 37 1 ≤ 8; have : fld h23 37 1 = zSt h23 37 1 := rfl; omega) (by have q := X185.1.2.2.1; have r : ySN (zSt h) (yEp (zSt h)) (fld h 37 2).toNat 37 2 = fld h 37 2 := ySN_ne (by decide) (Or.inr (by decide)) _; have : fld h23 37 2 = zSt h23 37 2 := rfl; omega)
                      refine zwW_p [(0, 0, 0), (2, 1, 0)] (q := 190) (ls' := [(2, 37), (0, 0)]) (st' := []) (by decide +kernel) rfl ?_
                      have L26 : ∀ (n0 : Nat) (vL26 : Int) (hL26 : Hp), n0 = ((1000 - vL26)).toNat → (0 ≤ vL26 ∧ vL26 ≤ 8) → (fld hL26 37 0 = fld h 37 0 + 1) → (zAg (zSt hL26) (yWk (zSt h))) → zI hL26 → zMR ms114 h hL26 → zwW sc (7) 114 190 [(2, 37), (0, vL26)] [] hL26 (zwRv (fun g => zI g ∧ zMR ms114 h g ∧ (fld g 37 0 = fld h 37 0 + 1) ∧ (zAg (zSt g) (yWk (zSt h))))) := by
                        intro n0
                        induction n0 using Nat.strongRecOn with
                        | ind n0 IHL26 =>
                          intro vL26 hL26 hnL26 iL26_0 iL26_1 iL26_2 IhL26 RhL26
                          refine zwW_p [(1, 1, 0), (1, 0, 2)] (q := 192) (ls' := [(2, 37), (0, vL26)]) (st' := [(2, 37), (0, vL26)]) (by decide +kernel) rfl ?_
                          refine zwW_gs IhL26 (kd := 13) (bn := 1) (n := 97) (t := 0) (lo := 0) (hi := 8) (nx := 195) (by decide +kernel) ?_
                          intro v27 ev27 lv27 uv27
                          refine zwic_ge (q := 221) (nx := 198) (by decide +kernel) (fun c28 => ?_) (fun c28 => ?_)
                          · refine zwW_p [(0, 0, 0), (2, 1, 0)] (q := 223) (ls' := [(2, 37), (0, 0)]) (st' := []) (by decide +kernel) rfl ?_
                            have L29 : ∀ (n0 : Nat) (qL29 : Int) (hL29 : Hp), n0 = ((1000 - qL29)).toNat → (0 ≤ qL29 ∧ qL29 ≤ 20) → (fld hL29 37 0 = fld h 37 0 + 1) → (zAg (zSt hL29) (yWk (zSt h))) → zI hL29 → zMR ms114 h hL29 → zwW sc (7) 114 223 [(2, 37), (0, qL29)] [] hL29 (zwRv (fun g => zI g ∧ zMR ms114 h g ∧ (fld g 37 0 = fld h 37 0 + 1) ∧ (zAg (zSt g) (yWk (zSt h))))) := by
                              intro n0
                              induction n0 using Nat.strongRecOn with
                              | ind n0 IHL29 =>
                                intro qL29 hL29 hnL29 iL29_0 iL29_1 iL29_2 IhL29 RhL29
                                refine zwW_p [(1, 1, 0), (1, 0, 2)] (q := 225) (ls' := [(2, 37), (0, qL29)]) (st' := [(2, 37), (0, qL29)]) (by decide +kernel) rfl ?_
                                refine zwW_gs IhL29 (kd := 13) (bn := 2) (n := 97) (t := 0) (lo := 0) (hi := 20) (nx := 228) (by decide +kernel) ?_
                                intro v30 ev30 lv30 uv30
                                refine zwic_ge (q := 244) (nx := 231) (by decide +kernel) (fun c31 => ?_) (fun c31 => ?_)
                                · refine zwW_retv (nx := 245) (a := 0) (b := 0) (by decide +kernel) ?_
                                  exact ⟨IhL29, RhL29, by omega, by exact iL29_2⟩
                                · refine zwW_p [(1, 0, 2)] (q := 232) (ls' := [(2, 37), (0, qL29)]) (st' := [(2, 37)]) (by decide +kernel) rfl ?_
                                  refine zwW_gc IhL29 (kd := 13) (bn := 33) (n := 97) (c := 92) (nx := 235) (by decide +kernel) ?_
                                  refine zwW_p [(1, 1, 0), (0, 0, 0)] (q := 237) (ls' := [(2, 37), (0, qL29)]) (st' := [(0, 0), (0, qL29), (2, 92)]) (by decide +kernel) rfl ?_
                                  have ib1 : 0 ≤ qL29 ∧ qL29 < ((20 : Nat) : Int) := (by first | omega | exact ⟨by omega, by omega⟩)
                                  refine zwW_as IhL29 (a1 := 92) (a2 := 92) (n := 20) (lo := -2147483648) (hi := 2147483647) (nx := 238) (by decide +kernel) (by first | decide | exact ⟨by decide, by decide⟩) ib1 (by first | decide | exact ⟨by decide, by decide⟩) ?_
                                  intro h32 eh32 Ih32
                                  have jbh32 : 0 ≤ qL29.toNat ∧ qL29.toNat < 20 := ⟨Nat.zero_le _, zit ib1⟩
                                  have th32_37_0 : fld h32 37 0 = fld hL29 37 0 := by rw [eh32]; exact fld_wr (Or.inl (by decide))
                                  have Qh32 : zMR [(92, 92, 0, 20)] hL29 h32 := zMR.one (by first | decide | exact ⟨by decide, by decide⟩) jbh32 eh32
                                  have XAh32 : zAg (zSt h32) (yWk (zSt h)) := iL29_2.mr (h1 := hL29) Qh32 (by decide +kernel) (by have q := IhL29.b (a1 := 37) (a2 := 37) (j1 := 1) (j2 := 2) (lo := 0) (hi := 8) (by decide +kernel) (r := 37) (j := 1) (by decide) (by decide) (by decide) (by decide); omega) (by have q := IhL29.b (a1 := 37) (a2 := 37) (j1 := 2) (j2 := 3) (lo := 0) (hi := 20) (by decide +kernel) (r := 37) (j := 2) (by decide) (by decide) (by decide) (by decide); omega)
                                  have Rh32 : zMR ms114 h h32 := RhL29.w (a1 := 92) (a2 := 92) (j1 := 0) (j2 := 20) (by decide +kernel) (by first | decide | exact ⟨by decide, by decide⟩) jbh32 eh32
                                  refine zwW_inc (i := 1) (c := 1) (x := qL29) (nx := 241) (by decide +kernel) rfl (by first | omega | exact ⟨by omega, by omega⟩) (ls' := [(2, 37), (0, (qL29 + 1))]) rfl ?_
                                  refine zwW_p [(24, 223, 0)] (q := 223) (ls' := [(2, 37), (0, (qL29 + 1))]) (st' := []) (by decide +kernel) rfl ?_
                                  exact IHL29 ((1000 - (qL29 + 1))).toNat (by omega) (qL29 + 1) h32 rfl (by omega) (by omega) (XAh32) Ih32 Rh32
                            exact L29 _ 0 hL26 rfl (by omega) (by omega) (iL26_2) IhL26 RhL26
                          · refine zwW_p [(1, 0, 2)] (q := 199) (ls' := [(2, 37), (0, vL26)]) (st' := [(2, 37)]) (by decide +kernel) rfl ?_
                            refine zwW_gc IhL26 (kd := 13) (bn := 5) (n := 97) (c := 56) (nx := 202) (by decide +kernel) ?_
                            refine zwW_p [(1, 1, 0)] (q := 203) (ls' := [(2, 37), (0, vL26)]) (st' := [(0, vL26), (2, 56)]) (by decide +kernel) rfl ?_
                            refine zwW_ro IhL26 (a := 56) (n := 8) (kd := 26) (base := 57) (step := 1) (nx := 204) (by decide +kernel) rfl (by first | omega | exact ⟨by omega, by omega⟩) ?_
                            rw [show ((57 : Nat) : Int) + ((1 : Nat) : Int) * vL26 = (57 + vL26) by omega]
                            refine zwW_p [(1, 0, 2)] (q := 205) (ls' := [(2, 37), (0, vL26)]) (st' := [(2, 37), (2, (57 + vL26))]) (by decide +kernel) rfl ?_
                            refine zwW_gs IhL26 (kd := 13) (bn := 0) (n := 97) (t := 0) (lo := 0) (hi := 156) (nx := 208) (by decide +kernel) ?_
                            intro v33 ev33 lv33 uv33
                            refine zwW_p [(1, 0, 2)] (q := 209) (ls' := [(2, 37), (0, vL26)]) (st' := [(2, 37), (0, v33), (2, (57 + vL26))]) (by decide +kernel) rfl ?_
                            refine zwW_gc IhL26 (kd := 13) (bn := 12) (n := 97) (c := 71) (nx := 212) (by decide +kernel) ?_
                            refine zwW_p [(1, 1, 0)] (q := 213) (ls' := [(2, 37), (0, vL26)]) (st' := [(0, vL26), (2, 71), (0, v33), (2, (57 + vL26))]) (by decide +kernel) rfl ?_
                            have ib2 : 0 ≤ vL26 ∧ vL26 < ((8 : Nat) : Int) := (by first | omega | exact ⟨by omega, by omega⟩)
                            refine zwW_al IhL26 (a1 := 71) (a2 := 71) (kd := 20) (n := 8) (t := 0) (lo := -2147483648) (hi := 2147483647) (nx := 214) (by decide +kernel) (by first | decide | exact ⟨by decide, by decide⟩) ib2 ?_
                            intro v34 ev34 lv34 uv34
                            have ib3 : 0 ≤ v33 ∧ v33 < ((157 : Nat) : Int) := (by first | omega | exact ⟨by omega, by omega⟩)
                            refine zwW_as IhL26 (a1 := 57) (a2 := 64) (n := 157) (lo := -2147483648) (hi := 2147483647) (nx := 215) (by decide +kernel) (by first | omega | exact ⟨by omega, by omega⟩) ib3 (by first | omega | exact ⟨by omega, by omega⟩) ?_
                            intro h35 eh35 Ih35
                            have rbh35 : ((57 : Nat) : Int) ≤ (57 + vL26) ∧ (57 + vL26) ≤ ((64 : Nat) : Int) := (by first | omega | exact ⟨by omega, by omega⟩)
                            have jbh35 : 0 ≤ v33.toNat ∧ v33.toNat < 157 := ⟨Nat.zero_le _, zit ib3⟩
                            have th35_37_0 : fld h35 37 0 = fld hL26 37 0 := by rw [eh35]; exact fld_wr (Or.inl (zne_l (by decide) rbh35.1))
                            have Qh35 : zMR [(57, 64, 0, 157)] hL26 h35 := zMR.one rbh35 jbh35 eh35
                            have XAh35 : zAg (zSt h35) (yWk (zSt h)) := iL26_2.mr (h1 := hL26) Qh35 (by decide +kernel) (by have q := IhL26.b (a1 := 37) (a2 := 37) (j1 := 1) (j2 := 2) (lo := 0) (hi := 8) (by decide +kernel) (r := 37) (j := 1) (by decide) (by decide) (by decide) (by decide); omega) (by have q := IhL26.b (a1 := 37) (a2 := 37) (j1 := 2) (j2 := 3) (lo := 0) (hi := 20) (by decide +kernel) (r := 37) (j := 2) (by decide) (by decide) (by decide) (by decide); omega)
                            have Rh35 : zMR ms114 h h35 := RhL26.w (a1 := 57) (a2 := 64) (j1 := 0) (j2 := 157) (by decide +kernel) rbh35 jbh35 eh35
                            refine zwW_inc (i := 1) (c := 1) (x := vL26) (nx := 218) (by decide +kernel) rfl (by first | omega | exact ⟨by omega, by omega⟩) (ls' := [(2, 37), (0, (vL26 + 1))]) rfl ?_
                            refine zwW_p [(24, 190, 0)] (q := 190) (ls' := [(2, 37), (0, (vL26 + 1))]) (st' := []) (by decide +kernel) rfl ?_
                            exact IHL26 ((1000 - (vL26 + 1))).toNat (by omega) (vL26 + 1) h35 rfl (by omega) (by omega) (XAh35) Ih35 Rh35
                      exact L26 _ 0 h25 rfl (by omega) (by omega) (X188) Ih25 Rh25
                    · refine zwW_p [(1, 0, 2)] (q := 108) (ls' := [(2, 37), (0, lL12)]) (st' := [(2, 37)]) (by decide +kernel) rfl ?_
                      refine zwW_gc IhL12 (kd := 13) (bn := 91) (n := 97) (c := 205) (nx := 111) (by decide +kernel) ?_
                      refine zwW_p [(1, 0, 2)] (q := 112) (ls' := [(2, 37), (0, lL12)]) (st' := [(2, 37), (2, 205)]) (by decide +kernel) rfl ?_
                      refine zwW_gs IhL12 (kd := 13) (bn := 0) (n := 97) (t := 0) (lo := 0) (hi := 156) (nx := 115) (by decide +kernel) ?_
                      intro v36 ev36 lv36 uv36
                      refine zwW_ro IhL12 (a := 205) (n := 156) (kd := 26) (base := 206) (step := 1) (nx := 116) (by decide +kernel) rfl (by first | omega | exact ⟨by omega, by omega⟩) ?_
                      rw [show ((206 : Nat) : Int) + ((1 : Nat) : Int) * v36 = (206 + v36) by omega]
                      refine zwW_p [(0, 2, 0), (14, 0, 0)] (q := 118) (ls' := [(2, 37), (0, lL12)]) (st' := [(0, 2), (2, (206 + v36)), (0, 2), (2, (206 + v36))]) (by decide +kernel) rfl ?_
                      refine zwW_al IhL12 (a1 := 206) (a2 := 361) (kd := 20) (n := 6) (t := 0) (lo := -2147483648) (hi := 2147483647) (nx := 119) (by decide +kernel) (by first | omega | exact ⟨by omega, by omega⟩) (by first | decide | exact ⟨by decide, by decide⟩) ?_
                      intro v37 ev37 lv37 uv37
                      refine zwW_p [(1, 0, 2)] (q := 120) (ls' := [(2, 37), (0, lL12)]) (st' := [(2, 37), (0, v37), (0, 2), (2, (206 + v36))]) (by decide +kernel) rfl ?_
                      refine zwW_gc IhL12 (kd := 13) (bn := 63) (n := 97) (c := 175) (nx := 123) (by decide +kernel) ?_
                      refine zwW_p [(1, 1, 0)] (q := 124) (ls' := [(2, 37), (0, lL12)]) (st' := [(0, lL12), (2, 175), (0, v37), (0, 2), (2, (206 + v36))]) (by decide +kernel) rfl ?_
                      have ib4 : 0 ≤ lL12 ∧ lL12 < ((300 : Nat) : Int) := (by first | omega | exact ⟨by omega, by omega⟩)
                      refine zwW_al IhL12 (a1 := 175) (a2 := 175) (kd := 20) (n := 300) (t := 0) (lo := -2147483648) (hi := 2147483647) (nx := 125) (by decide +kernel) (by first | decide | exact ⟨by decide, by decide⟩) ib4 ?_
                      intro v38 ev38 lv38 uv38
                      refine zwW_adw (nx := 126) (by decide +kernel) ?_
                      intro v39 ev39 lv39 uv39
                      refine zwW_as IhL12 (a1 := 206) (a2 := 361) (n := 6) (lo := -2147483648) (hi := 2147483647) (nx := 127) (by decide +kernel) (by first | omega | exact ⟨by omega, by omega⟩) (by first | decide | exact ⟨by decide, by decide⟩) (by first | omega | exact ⟨by omega, by omega⟩) ?_
                      intro h40 eh40 Ih40
                      have rbh40 : ((206 : Nat) : Int) ≤ (206 + v36) ∧ (206 + v36) ≤ ((361 : Nat) : Int) := (by first | omega | exact ⟨by omega, by omega⟩)
                      have th40_37_0 : fld h40 37 0 = fld hL12 37 0 := by rw [eh40]; exact fld_wr (Or.inl (zne_l (by decide) rbh40.1))
                      have Qh40 : zMR [(206, 361, 0, 6)] hL12 h40 := zMR.one rbh40 (by first | decide | exact ⟨by decide, by decide⟩) eh40
                      have XAh40 : zAg (zSt h40) (ySN (zSt h) (yEp (zSt h)) (fld h 37 2).toNat) := iL12_2.mr (h1 := hL12) Qh40 (by decide +kernel) (by have q := IhL12.b (a1 := 37) (a2 := 37) (j1 := 1) (j2 := 2) (lo := 0) (hi := 8) (by decide +kernel) (r := 37) (j := 1) (by decide) (by decide) (by decide) (by decide); omega) (by have q := IhL12.b (a1 := 37) (a2 := 37) (j1 := 2) (j2 := 3) (lo := 0) (hi := 20) (by decide +kernel) (r := 37) (j := 2) (by decide) (by decide) (by decide) (by decide); omega)
                      have Rh40 : zMR ms114 h h40 := RhL12.w (a1 := 206) (a2 := 361) (j1 := 0) (j2 := 6) (by decide +kernel) rbh40 (by first | decide | exact ⟨by decide, by decide⟩) eh40
                      refine zwW_inc (i := 1) (c := 1) (x := lL12) (nx := 130) (by decide +kernel) rfl (by first | omega | exact ⟨by omega, by omega⟩) (ls' := [(2, 37), (0, (lL12 + 1))]) rfl ?_
                      refine zwW_p [(24, 99, 0)] (q := 99) (ls' := [(2, 37), (0, (lL12 + 1))]) (st' := []) (by decide +kernel) rfl ?_
                      exact IHL12 ((1000 - (lL12 + 1))).toNat (by omega) (lL12 + 1) h40 rfl (by omega) (by omega) (XAh40) Ih40 Rh40
                exact L12 _ 0 hL9 rfl (by omega) (by omega) (iL9_2) IhL9 RhL9
              · refine zwW_p [(1, 0, 2)] (q := 72) (ls' := [(2, 37), (0, vL9)]) (st' := [(2, 37)]) (by decide +kernel) rfl ?_
                refine zwW_gc IhL9 (kd := 13) (bn := 91) (n := 97) (c := 205) (nx := 75) (by decide +kernel) ?_
                refine zwW_p [(1, 0, 2)] (q := 76) (ls' := [(2, 37), (0, vL9)]) (st' := [(2, 37), (2, 205)]) (by decide +kernel) rfl ?_
                refine zwW_gs IhL9 (kd := 13) (bn := 0) (n := 97) (t := 0) (lo := 0) (hi := 156) (nx := 79) (by decide +kernel) ?_
                intro v41 ev41 lv41 uv41
                refine zwW_ro IhL9 (a := 205) (n := 156) (kd := 26) (base := 206) (step := 1) (nx := 80) (by decide +kernel) rfl (by first | omega | exact ⟨by omega, by omega⟩) ?_
                rw [show ((206 : Nat) : Int) + ((1 : Nat) : Int) * v41 = (206 + v41) by omega]
                refine zwW_p [(0, 0, 0), (14, 0, 0)] (q := 82) (ls' := [(2, 37), (0, vL9)]) (st' := [(0, 0), (2, (206 + v41)), (0, 0), (2, (206 + v41))]) (by decide +kernel) rfl ?_
                refine zwW_al IhL9 (a1 := 206) (a2 := 361) (kd := 20) (n := 6) (t := 0) (lo := -2147483648) (hi := 2147483647) (nx := 83) (by decide +kernel) (by first | omega | exact ⟨by omega, by omega⟩) (by first | decide | exact ⟨by decide, by decide⟩) ?_
                intro v42 ev42 lv42 uv42
                refine zwW_p [(1, 0, 2)] (q := 84) (ls' := [(2, 37), (0, vL9)]) (st' := [(2, 37), (0, v42), (0, 0), (2, (206 + v41))]) (by decide +kernel) rfl ?_
                refine zwW_gc IhL9 (kd := 13) (bn := 7) (n := 97) (c := 66) (nx := 87) (by decide +kernel) ?_
                refine zwW_p [(1, 1, 0)] (q := 88) (ls' := [(2, 37), (0, vL9)]) (st' := [(0, vL9), (2, 66), (0, v42), (0, 0), (2, (206 + v41))]) (by decide +kernel) rfl ?_
                have ib5 : 0 ≤ vL9 ∧ vL9 < ((8 : Nat) : Int) := (by first | omega | exact ⟨by omega, by omega⟩)
                refine zwW_al IhL9 (a1 := 66) (a2 := 66) (kd := 20) (n := 8) (t := 0) (lo := -2147483648) (hi := 2147483647) (nx := 89) (by decide +kernel) (by first | decide | exact ⟨by decide, by decide⟩) ib5 ?_
                intro v43 ev43 lv43 uv43
                refine zwW_adw (nx := 90) (by decide +kernel) ?_
                intro v44 ev44 lv44 uv44
                refine zwW_as IhL9 (a1 := 206) (a2 := 361) (n := 6) (lo := -2147483648) (hi := 2147483647) (nx := 91) (by decide +kernel) (by first | omega | exact ⟨by omega, by omega⟩) (by first | decide | exact ⟨by decide, by decide⟩) (by first | omega | exact ⟨by omega, by omega⟩) ?_
                intro h45 eh45 Ih45
                have rbh45 : ((206 : Nat) : Int) ≤ (206 + v41) ∧ (206 + v41) ≤ ((361 : Nat) : Int) := (by first | omega | exact ⟨by omega, by omega⟩)
                have th45_37_0 : fld h45 37 0 = fld hL9 37 0 := by rw [eh45]; exact fld_wr (Or.inl (zne_l (by decide) rbh45.1))
                have Qh45 : zMR [(206, 361, 0, 6)] hL9 h45 := zMR.one rbh45 (by first | decide | exact ⟨by decide, by decide⟩) eh45
                have XAh45 : zAg (zSt h45) (ySN (zSt h) (yEp (zSt h)) (fld h 37 2).toNat) := iL9_2.mr (h1 := hL9) Qh45 (by decide +kernel) (by have q := IhL9.b (a1 := 37) (a2 := 37) (j1 := 1) (j2 := 2) (lo := 0) (hi := 8) (by decide +kernel) (r := 37) (j := 1) (by decide) (by decide) (by decide) (by decide); omega) (by have q := IhL9.b (a1 := 37) (a2 := 37) (j1 := 2) (j2 := 3) (lo := 0) (hi := 20) (by decide +kernel) (r := 37) (j := 2) (by decide) (by decide) (by decide) (by decide); omega)
                have Rh45 : zMR ms114 h h45 := RhL9.w (a1 := 206) (a2 := 361) (j1 := 0) (j2 := 6) (by decide +kernel) rbh45 (by first | decide | exact ⟨by decide, by decide⟩) eh45
                refine zwW_inc (i := 1) (c := 1) (x := vL9) (nx := 94) (by decide +kernel) rfl (by first | omega | exact ⟨by omega, by omega⟩) (ls' := [(2, 37), (0, (vL9 + 1))]) rfl ?_
                refine zwW_p [(24, 63, 0)] (q := 63) (ls' := [(2, 37), (0, (vL9 + 1))]) (st' := []) (by decide +kernel) rfl ?_
                exact IHL9 ((1000 - (vL9 + 1))).toNat (by omega) (vL9 + 1) h45 rfl (by omega) (by omega) (XAh45) Ih45 Rh45
          exact L9 _ 0 h8 rfl (by omega) (by omega) (XAh8) Ih8 Rh8
        · refine zwW_p [(1, 0, 2)] (q := 54) (ls' := [(2, 37), (0, qL3)]) (st' := [(2, 37)]) (by decide +kernel) rfl ?_
          refine zwW_cmv IhL3 (op := 60) (k' := 196) (n := 0) (kd := 13) (m := 97) (nx := 57) (r := 37) (tl := []) (st' := []) (by decide +kernel) rfl (by decide +kernel) rfl (m196 hL3 IhL3 (hW.mr I RhL3 (by decide +kernel))) ?_
          rintro h46 ⟨Ih46, Qh46⟩
          have XAh46 : zAg (zSt h46) (ySN (zSt h) (yEp (zSt h)) (fld h 37 2).toNat) := iL3_2.mr (h1 := hL3) Qh46 (by decide +kernel) (by have q := IhL3.b (a1 := 37) (a2 := 37) (j1 := 1) (j2 := 2) (lo := 0) (hi := 8) (by decide +kernel) (r := 37) (j := 1) (by decide) (by decide) (by decide) (by decide); omega) (by have q := IhL3.b (a1 := 37) (a2 := 37) (j1 := 2) (j2 := 3) (lo := 0) (hi := 20) (by decide +kernel) (r := 37) (j := 2) (by decide) (by decide) (by decide) (by decide); omega)
          have Rh46 : zMR ms114 h h46 := RhL3.tr Qh46 (by decide +kernel)
          have th46_37_0 : fld h46 37 0 = fld hL3 37 0 := Qh46.f (a1 := 37) (a2 := 37) (j1 := 0) (j2 := 1) (by decide +kernel) (by first | decide | exact ⟨by decide, by decide⟩) (by first | decide | exact ⟨by decide, by decide⟩)
          refine zwW_p [(1, 0, 2)] (q := 58) (ls' := [(2, 37), (0, qL3)]) (st' := [(2, 37)]) (by decide +kernel) rfl ?_
          refine zwW_cmv Ih46 (op := 60) (k' := 197) (n := 0) (kd := 13) (m := 97) (nx := 61) (r := 37) (tl := []) (st' := []) (by decide +kernel) rfl (by decide +kernel) rfl (m197 h46 Ih46) ?_
          rintro h47 ⟨Ih47, Qh47⟩
          have XAh47 : zAg (zSt h47) (ySN (zSt h) (yEp (zSt h)) (fld h 37 2).toNat) := XAh46.mr (h1 := h46) Qh47 (by decide +kernel) (by have q := Ih46.b (a1 := 37) (a2 := 37) (j1 := 1) (j2 := 2) (lo := 0) (hi := 8) (by decide +kernel) (r := 37) (j := 1) (by decide) (by decide) (by decide) (by decide); omega) (by have q := Ih46.b (a1 := 37) (a2 := 37) (j1 := 2) (j2 := 3) (lo := 0) (hi := 20) (by decide +kernel) (r := 37) (j := 2) (by decide) (by decide) (by decide) (by decide); omega)
          have Rh47 : zMR ms114 h h47 := Rh46.tr Qh47 (by decide +kernel)
          have th47_37_0 : fld h47 37 0 = fld h46 37 0 := Qh47.f (a1 := 37) (a2 := 37) (j1 := 0) (j2 := 1) (by decide +kernel) (by first | decide | exact ⟨by decide, by decide⟩) (by first | decide | exact ⟨by decide, by decide⟩)
          refine zwW_p [(0, 0, 0), (2, 1, 0)] (q := 63) (ls' := [(2, 37), (0, 0)]) (st' := []) (by decide +kernel) rfl ?_
          have L48 : ∀ (n0 : Nat) (vL48 : Int) (hL48 : Hp), n0 = ((1000 - vL48)).toNat → (0 ≤ vL48 ∧ vL48 ≤ 8) → (fld hL48 37 0 = fld h 37 0) → (zAg (zSt hL48) (ySN (zSt h) (yEp (zSt h)) (fld h 37 2).toNat)) → zI hL48 → zMR ms114 h hL48 → zwW sc (7) 114 63 [(2, 37), (0, vL48)] [] hL48 (zwRv (fun g => zI g ∧ zMR ms114 h g ∧ (fld g 37 0 = fld h 37 0 + 1) ∧ (zAg (zSt g) (yWk (zSt h))))) := by
            intro n0
            induction n0 using Nat.strongRecOn with
            | ind n0 IHL48 =>
              intro vL48 hL48 hnL48 iL48_0 iL48_1 iL48_2 IhL48 RhL48
              refine zwW_p [(1, 1, 0), (1, 0, 2)] (q := 65) (ls' := [(2, 37), (0, vL48)]) (st' := [(2, 37), (0, vL48)]) (by decide +kernel) rfl ?_
              refine zwW_gs IhL48 (kd := 13) (bn := 1) (n := 97) (t := 0) (lo := 0) (hi := 8) (nx := 68) (by decide +kernel) ?_
              intro v49 ev49 lv49 uv49
              refine zwic_ge (q := 97) (nx := 71) (by decide +kernel) (fun c50 => ?_) (fun c50 => ?_)
              · refine zwW_p [(0, 0, 0), (2, 1, 0)] (q := 99) (ls' := [(2, 37), (0, 0)]) (st' := []) (by decide +kernel) rfl ?_
                have L51 : ∀ (n0 : Nat) (lL51 : Int) (hL51 : Hp), n0 = ((1000 - lL51)).toNat → (0 ≤ lL51 ∧ lL51 ≤ 300) → (fld hL51 37 0 = fld h 37 0) → (zAg (zSt hL51) (ySN (zSt h) (yEp (zSt h)) (fld h 37 2).toNat)) → zI hL51 → zMR ms114 h hL51 → zwW sc (7) 114 99 [(2, 37), (0, lL51)] [] hL51 (zwRv (fun g => zI g ∧ zMR ms114 h g ∧ (fld g 37 0 = fld h 37 0 + 1) ∧ (zAg (zSt g) (yWk (zSt h))))) := by
                  intro n0
                  induction n0 using Nat.strongRecOn with
                  | ind n0 IHL51 =>
                    intro lL51 hL51 hnL51 iL51_0 iL51_1 iL51_2 IhL51 RhL51
                    refine zwW_p [(1, 1, 0), (1, 0, 2)] (q := 101) (ls' := [(2, 37), (0, lL51)]) (st' := [(2, 37), (0, lL51)]) (by decide +kernel) rfl ?_
                    refine zwW_gs IhL51 (kd := 13) (bn := 64) (n := 97) (t := 0) (lo := 0) (hi := 300) (nx := 104) (by decide +kernel) ?_
                    intro v52 ev52 lv52 uv52
                    refine zwic_ge (q := 133) (nx := 107) (by decide +kernel) (fun c53 => ?_) (fun c53 => ?_)
                    · refine zwW_p [(1, 0, 2)] (q := 134) (ls' := [(2, 37), (0, lL51)]) (st' := [(2, 37)]) (by decide +kernel) rfl ?_
                      refine zwW_gc IhL51 (kd := 13) (bn := 91) (n := 97) (c := 205) (nx := 137) (by decide +kernel) ?_
                      refine zwW_p [(1, 0, 2)] (q := 138) (ls' := [(2, 37), (0, lL51)]) (st' := [(2, 37), (2, 205)]) (by decide +kernel) rfl ?_
                      refine zwW_gs IhL51 (kd := 13) (bn := 0) (n := 97) (t := 0) (lo := 0) (hi := 156) (nx := 141) (by decide +kernel) ?_
                      intro v54 ev54 lv54 uv54
                      refine zwW_ro IhL51 (a := 205) (n := 156) (kd := 26) (base := 206) (step := 1) (nx := 142) (by decide +kernel) rfl (by first | omega | exact ⟨by omega, by omega⟩) ?_
                      rw [show ((206 : Nat) : Int) + ((1 : Nat) : Int) * v54 = (206 + v54) by omega]
                      refine zwW_p [(0, 3, 0), (1, 0, 2)] (q := 144) (ls' := [(2, 37), (0, lL51)]) (st' := [(2, 37), (0, 3), (2, (206 + v54))]) (by decide +kernel) rfl ?_
                      refine zwW_gs IhL51 (kd := 13) (bn := 69) (n := 97) (t := 0) (lo := -2147483648) (hi := 2147483647) (nx := 147) (by decide +kernel) ?_
                      intro v55 ev55 lv55 uv55
                      refine zwW_as IhL51 (a1 := 206) (a2 := 361) (n := 6) (lo := -2147483648) (hi := 2147483647) (nx := 148) (by decide +kernel) (by first | omega | exact ⟨by omega, by omega⟩) (by first | decide | exact ⟨by decide, by decide⟩) (by first | omega | exact ⟨by omega, by omega⟩) ?_
                      intro h56 eh56 Ih56
                      have rbh56 : ((206 : Nat) : Int) ≤ (206 + v54) ∧ (206 + v54) ≤ ((361 : Nat) : Int) := (by first | omega | exact ⟨by omega, by omega⟩)
                      have th56_37_0 : fld h56 37 0 = fld hL51 37 0 := by rw [eh56]; exact fld_wr (Or.inl (zne_l (by decide) rbh56.1))
                      have Qh56 : zMR [(206, 361, 0, 6)] hL51 h56 := zMR.one rbh56 (by first | decide | exact ⟨by decide, by decide⟩) eh56
                      have XAh56 : zAg (zSt h56) (ySN (zSt h) (yEp (zSt h)) (fld h 37 2).toNat) := iL51_2.mr (h1 := hL51) Qh56 (by decide +kernel) (by have q := IhL51.b (a1 := 37) (a2 := 37) (j1 := 1) (j2 := 2) (lo := 0) (hi := 8) (by decide +kernel) (r := 37) (j := 1) (by decide) (by decide) (by decide) (by decide); omega) (by have q := IhL51.b (a1 := 37) (a2 := 37) (j1 := 2) (j2 := 3) (lo := 0) (hi := 20) (by decide +kernel) (r := 37) (j := 2) (by decide) (by decide) (by decide) (by decide); omega)
                      have Rh56 : zMR ms114 h h56 := RhL51.w (a1 := 206) (a2 := 361) (j1 := 0) (j2 := 6) (by decide +kernel) rbh56 (by first | decide | exact ⟨by decide, by decide⟩) eh56
                      refine zwW_p [(1, 0, 2)] (q := 149) (ls' := [(2, 37), (0, lL51)]) (st' := [(2, 37)]) (by decide +kernel) rfl ?_
                      refine zwW_gc Ih56 (kd := 13) (bn := 91) (n := 97) (c := 205) (nx := 152) (by decide +kernel) ?_
                      refine zwW_p [(1, 0, 2)] (q := 153) (ls' := [(2, 37), (0, lL51)]) (st' := [(2, 37), (2, 205)]) (by decide +kernel) rfl ?_
                      refine zwW_gs Ih56 (kd := 13) (bn := 0) (n := 97) (t := 0) (lo := 0) (hi := 156) (nx := 156) (by decide +kernel) ?_
                      intro v57 ev57 lv57 uv57
                      refine zwW_ro Ih56 (a := 205) (n := 156) (kd := 26) (base := 206) (step := 1) (nx := 157) (by decide +kernel) rfl (by first | omega | exact ⟨by omega, by omega⟩) ?_
                      rw [show ((206 : Nat) : Int) + ((1 : Nat) : Int) * v57 = (206 + v57) by omega]
                      refine zwW_p [(0, 4, 0), (1, 0, 2)] (q := 159) (ls' := [(2, 37), (0, lL51)]) (st' := [(2, 37), (0, 4), (2, (206 + v57))]) (by decide +kernel) rfl ?_
                      refine zwW_gs Ih56 (kd := 13) (bn := 70) (n := 97) (t := 0) (lo := -2147483648) (hi := 2147483647) (nx := 162) (by decide +kernel) ?_
                      intro v58 ev58 lv58 uv58
                      refine zwW_as Ih56 (a1 := 206) (a2 := 361) (n := 6) (lo := -2147483648) (hi := 2147483647) (nx := 163) (by decide +kernel) (by first | omega | exact ⟨by omega, by omega⟩) (by first | decide | exact ⟨by decide, by decide⟩) (by first | omega | exact ⟨by omega, by omega⟩) ?_
                      intro h59 eh59 Ih59
                      have rbh59 : ((206 : Nat) : Int) ≤ (206 + v57) ∧ (206 + v57) ≤ ((361 : Nat) : Int) := (by first | omega | exact ⟨by omega, by omega⟩)
                      have th59_37_0 : fld h59 37 0 = fld h56 37 0 := by rw [eh59]; exact fld_wr (Or.inl (zne_l (by decide) rbh59.1))
                      have Qh59 : zMR [(206, 361, 0, 6)] h56 h59 := zMR.one rbh59 (by first | decide | exact ⟨by decide, by decide⟩) eh59
                      have XAh59 : zAg (zSt h59) (ySN (zSt h) (yEp (zSt h)) (fld h 37 2).toNat) := XAh56.mr (h1 := h56) Qh59 (by decide +kernel) (by have q := Ih56.b (a1 := 37) (a2 := 37) (j1 := 1) (j2 := 2) (lo := 0) (hi := 8) (by decide +kernel) (r := 37) (j := 1) (by decide) (by decide) (by decide) (by decide); omega) (by have q := Ih56.b (a1 := 37) (a2 := 37) (j1 := 2) (j2 := 3) (lo := 0) (hi := 20) (by decide +kernel) (r := 37) (j := 2) (by decide) (by decide) (by decide) (by decide); omega)
                      have Rh59 : zMR ms114 h h59 := Rh56.w (a1 := 206) (a2 := 361) (j1 := 0) (j2 := 6) (by decide +kernel) rbh59 (by first | decide | exact ⟨by decide, by decide⟩) eh59
                      refine zwW_p [(1, 0, 2)] (q := 164) (ls' := [(2, 37), (0, lL51)]) (st' := [(2, 37)]) (by decide +kernel) rfl ?_
                      refine zwW_gc Ih59 (kd := 13) (bn := 91) (n := 97) (c := 205) (nx := 167) (by decide +kernel) ?_
                      refine zwW_p [(1, 0, 2)] (q := 168) (ls' := [(2, 37), (0, lL51)]) (st' := [(2, 37), (2, 205)]) (by decide +kernel) rfl ?_
                      refine zwW_gs Ih59 (kd := 13) (bn := 0) (n := 97) (t := 0) (lo := 0) (hi := 156) (nx := 171) (by decide +kernel) ?_
                      intro v60 ev60 lv60 uv60
                      refine zwW_ro Ih59 (a := 205) (n := 156) (kd := 26) (base := 206) (step := 1) (nx := 172) (by decide +kernel) rfl (by first | omega | exact ⟨by omega, by omega⟩) ?_
                      rw [show ((206 : Nat) : Int) + ((1 : Nat) : Int) * v60 = (206 + v60) by omega]
                      refine zwW_p [(0, 5, 0), (1, 0, 2)] (q := 174) (ls' := [(2, 37), (0, lL51)]) (st' := [(2, 37), (0, 5), (2, (206 + v60))]) (by decide +kernel) rfl ?_
                      refine zwW_gs Ih59 (kd := 13) (bn := 71) (n := 97) (t := 0) (lo := -2147483648) (hi := 2147483647) (nx := 177) (by decide +kernel) ?_
                      intro v61 ev61 lv61 uv61
                      refine zwW_as Ih59 (a1 := 206) (a2 := 361) (n := 6) (lo := -2147483648) (hi := 2147483647) (nx := 178) (by decide +kernel) (by first | omega | exact ⟨by omega, by omega⟩) (by first | decide | exact ⟨by decide, by decide⟩) (by first | omega | exact ⟨by omega, by omega⟩) ?_
                      intro h62 eh62 Ih62
                      have rbh62 : ((206 : Nat) : Int) ≤ (206 + v60) ∧ (206 + v60) ≤ ((361 : Nat) : Int) := (by first | omega | exact ⟨by omega, by omega⟩)
                      have th62_37_0 : fld h62 37 0 = fld h59 37 0 := by rw [eh62]; exact fld_wr (Or.inl (zne_l (by decide) rbh62.1))
                      have Qh62 : zMR [(206, 361, 0, 6)] h59 h62 := zMR.one rbh62 (by first | decide | exact ⟨by decide, by decide⟩) eh62
                      have XAh62 : zAg (zSt h62) (ySN (zSt h) (yEp (zSt h)) (fld h 37 2).toNat) := XAh59.mr (h1 := h59) Qh62 (by decide +kernel) (by have q := Ih59.b (a1 := 37) (a2 := 37) (j1 := 1) (j2 := 2) (lo := 0) (hi := 8) (by decide +kernel) (r := 37) (j := 1) (by decide) (by decide) (by decide) (by decide); omega) (by have q := Ih59.b (a1 := 37) (a2 := 37) (j1 := 2) (j2 := 3) (lo := 0) (hi := 20) (by decide +kernel) (r := 37) (j := 2) (by decide) (by decide) (by decide) (by decide); omega)
                      have Rh62 : zMR ms114 h h62 := Rh59.w (a1 := 206) (a2 := 361) (j1 := 0) (j2 := 6) (by decide +kernel) rbh62 (by first | decide | exact ⟨by decide, by decide⟩) eh62
                      refine zwW_p [(1, 0, 2), (12, 0, 0)] (q := 180) (ls' := [(2, 37), (0, lL51)]) (st' := [(2, 37), (2, 37)]) (by decide +kernel) rfl ?_
                      refine zwW_gs Ih62 (kd := 13) (bn := 0) (n := 97) (t := 0) (lo := 0) (hi := 156) (nx := 183) (by decide +kernel) ?_
                      intro v63 ev63 lv63 uv63
                      refine zwW_p [(0, 1, 0)] (q := 184) (ls' := [(2, 37), (0, lL51)]) (st' := [(0, 1), (0, v63), (2, 37)]) (by decide +kernel) rfl ?_
                      refine zwW_add (nx := 185) (by decide +kernel) (by first | omega | exact ⟨by omega, by omega⟩) ?_
                      have X185 := XAh62
                      refine zwW_ps Ih62 (kd := 13) (bn := 0) (n := 97) (lo := 0) (hi := 156) (nx := 188) (by decide +kernel) (by first | omega | exact ⟨by omega, by omega⟩) ?_
                      intro h64 eh64 Ih64
                      have th64_37_0 : fld h64 37 0 = (v63 + 1) := by rw [eh64]; exact fld_wr_eq (Ih62.s (a1 := 37) (a2 := 37) (k := 13) (n := 97) (by decide +kernel) (by decide) (by decide)) (by decide)
                      have Qh64 : zMR [(37, 37, 0, 1)] h62 h64 := zMR.one (by first | decide | exact ⟨by decide, by decide⟩) (by first | decide | exact ⟨by decide, by decide⟩) eh64
                      have Rh64 : zMR ms114 h h64 := Rh62.w (a1 := 37) (a2 := 37) (j1 := 0) (j2 := 1) (by decide +kernel) (by first | decide | exact ⟨by decide, by decide⟩) (by first | decide | exact ⟨by decide, by decide⟩) eh64
                      have X188 : zAg (zSt h64) (yWk (zSt h)) := X185.nw Qh64 (by decide +kernel) (by omega) (by have q := X185.1.2.1; have r : ySN (zSt h) (yEp (zSt h)) (fld h 37 2).toNat 37 1 = fld h 37 1 := ySN_ne (by decide) (Or.inr (by decide)) _; show fld h62 37 1 ≤ 8; have : fld h62 37 1 = zSt h62 37 1 := rfl; omega) (by have q := X185.1.2.2.1; have r : ySN (zSt h) (yEp (zSt h)) (fld h 37 2).toNat 37 2 = fld h 37 2 := ySN_ne (by decide) (Or.inr (by decide)) _; have : fld h62 37 2 = zSt h62 37 2 := rfl; omega)
                      refine zwW_p [(0, 0, 0), (2, 1, 0)] (q := 190) (ls' := [(2, 37), (0, 0)]) (st' := []) (by decide +kernel) rfl ?_
                      have L65 : ∀ (n0 : Nat) (vL65 : Int) (hL65 : Hp), n0 = ((1000 - vL65)).toNat → (0 ≤ vL65 ∧ vL65 ≤ 8) → (fld hL65 37 0 = fld h 37 0 + 1) → (zAg (zSt hL65) (yWk (zSt h))) → zI hL65 → zMR ms114 h hL65 → zwW sc (7) 114 190 [(2, 37), (0, vL65)] [] hL65 (zwRv (fun g => zI g ∧ zMR ms114 h g ∧ (fld g 37 0 = fld h 37 0 + 1) ∧ (zAg (zSt g) (yWk (zSt h))))) := by
                        intro n0
                        induction n0 using Nat.strongRecOn with
                        | ind n0 IHL65 =>
                          intro vL65 hL65 hnL65 iL65_0 iL65_1 iL65_2 IhL65 RhL65
                          refine zwW_p [(1, 1, 0), (1, 0, 2)] (q := 192) (ls' := [(2, 37), (0, vL65)]) (st' := [(2, 37), (0, vL65)]) (by decide +kernel) rfl ?_
                          refine zwW_gs IhL65 (kd := 13) (bn := 1) (n := 97) (t := 0) (lo := 0) (hi := 8) (nx := 195) (by decide +kernel) ?_
                          intro v66 ev66 lv66 uv66
                          refine zwic_ge (q := 221) (nx := 198) (by decide +kernel) (fun c67 => ?_) (fun c67 => ?_)
                          · refine zwW_p [(0, 0, 0), (2, 1, 0)] (q := 223) (ls' := [(2, 37), (0, 0)]) (st' := []) (by decide +kernel) rfl ?_
                            have L68 : ∀ (n0 : Nat) (qL68 : Int) (hL68 : Hp), n0 = ((1000 - qL68)).toNat → (0 ≤ qL68 ∧ qL68 ≤ 20) → (fld hL68 37 0 = fld h 37 0 + 1) → (zAg (zSt hL68) (yWk (zSt h))) → zI hL68 → zMR ms114 h hL68 → zwW sc (7) 114 223 [(2, 37), (0, qL68)] [] hL68 (zwRv (fun g => zI g ∧ zMR ms114 h g ∧ (fld g 37 0 = fld h 37 0 + 1) ∧ (zAg (zSt g) (yWk (zSt h))))) := by
                              intro n0
                              induction n0 using Nat.strongRecOn with
                              | ind n0 IHL68 =>
                                intro qL68 hL68 hnL68 iL68_0 iL68_1 iL68_2 IhL68 RhL68
                                refine zwW_p [(1, 1, 0), (1, 0, 2)] (q := 225) (ls' := [(2, 37), (0, qL68)]) (st' := [(2, 37), (0, qL68)]) (by decide +kernel) rfl ?_
                                refine zwW_gs IhL68 (kd := 13) (bn := 2) (n := 97) (t := 0) (lo := 0) (hi := 20) (nx := 228) (by decide +kernel) ?_
                                intro v69 ev69 lv69 uv69
                                refine zwic_ge (q := 244) (nx := 231) (by decide +kernel) (fun c70 => ?_) (fun c70 => ?_)
                                · refine zwW_retv (nx := 245) (a := 0) (b := 0) (by decide +kernel) ?_
                                  exact ⟨IhL68, RhL68, by omega, by exact iL68_2⟩
                                · refine zwW_p [(1, 0, 2)] (q := 232) (ls' := [(2, 37), (0, qL68)]) (st' := [(2, 37)]) (by decide +kernel) rfl ?_
                                  refine zwW_gc IhL68 (kd := 13) (bn := 33) (n := 97) (c := 92) (nx := 235) (by decide +kernel) ?_
                                  refine zwW_p [(1, 1, 0), (0, 0, 0)] (q := 237) (ls' := [(2, 37), (0, qL68)]) (st' := [(0, 0), (0, qL68), (2, 92)]) (by decide +kernel) rfl ?_
                                  have ib6 : 0 ≤ qL68 ∧ qL68 < ((20 : Nat) : Int) := (by first | omega | exact ⟨by omega, by omega⟩)
                                  refine zwW_as IhL68 (a1 := 92) (a2 := 92) (n := 20) (lo := -2147483648) (hi := 2147483647) (nx := 238) (by decide +kernel) (by first | decide | exact ⟨by decide, by decide⟩) ib6 (by first | decide | exact ⟨by decide, by decide⟩) ?_
                                  intro h71 eh71 Ih71
                                  have jbh71 : 0 ≤ qL68.toNat ∧ qL68.toNat < 20 := ⟨Nat.zero_le _, zit ib6⟩
                                  have th71_37_0 : fld h71 37 0 = fld hL68 37 0 := by rw [eh71]; exact fld_wr (Or.inl (by decide))
                                  have Qh71 : zMR [(92, 92, 0, 20)] hL68 h71 := zMR.one (by first | decide | exact ⟨by decide, by decide⟩) jbh71 eh71
                                  have XAh71 : zAg (zSt h71) (yWk (zSt h)) := iL68_2.mr (h1 := hL68) Qh71 (by decide +kernel) (by have q := IhL68.b (a1 := 37) (a2 := 37) (j1 := 1) (j2 := 2) (lo := 0) (hi := 8) (by decide +kernel) (r := 37) (j := 1) (by decide) (by decide) (by decide) (by decide); omega) (by have q := IhL68.b (a1 := 37) (a2 := 37) (j1 := 2) (j2 := 3) (lo := 0) (hi := 20) (by decide +kernel) (r := 37) (j := 2) (by decide) (by decide) (by decide) (by decide); omega)
                                  have Rh71 : zMR ms114 h h71 := RhL68.w (a1 := 92) (a2 := 92) (j1 := 0) (j2 := 20) (by decide +kernel) (by first | decide | exact ⟨by decide, by decide⟩) jbh71 eh71
                                  refine zwW_inc (i := 1) (c := 1) (x := qL68) (nx := 241) (by decide +kernel) rfl (by first | omega | exact ⟨by omega, by omega⟩) (ls' := [(2, 37), (0, (qL68 + 1))]) rfl ?_
                                  refine zwW_p [(24, 223, 0)] (q := 223) (ls' := [(2, 37), (0, (qL68 + 1))]) (st' := []) (by decide +kernel) rfl ?_
                                  exact IHL68 ((1000 - (qL68 + 1))).toNat (by omega) (qL68 + 1) h71 rfl (by omega) (by omega) (XAh71) Ih71 Rh71
                            exact L68 _ 0 hL65 rfl (by omega) (by omega) (iL65_2) IhL65 RhL65
                          · refine zwW_p [(1, 0, 2)] (q := 199) (ls' := [(2, 37), (0, vL65)]) (st' := [(2, 37)]) (by decide +kernel) rfl ?_
                            refine zwW_gc IhL65 (kd := 13) (bn := 5) (n := 97) (c := 56) (nx := 202) (by decide +kernel) ?_
                            refine zwW_p [(1, 1, 0)] (q := 203) (ls' := [(2, 37), (0, vL65)]) (st' := [(0, vL65), (2, 56)]) (by decide +kernel) rfl ?_
                            refine zwW_ro IhL65 (a := 56) (n := 8) (kd := 26) (base := 57) (step := 1) (nx := 204) (by decide +kernel) rfl (by first | omega | exact ⟨by omega, by omega⟩) ?_
                            rw [show ((57 : Nat) : Int) + ((1 : Nat) : Int) * vL65 = (57 + vL65) by omega]
                            refine zwW_p [(1, 0, 2)] (q := 205) (ls' := [(2, 37), (0, vL65)]) (st' := [(2, 37), (2, (57 + vL65))]) (by decide +kernel) rfl ?_
                            refine zwW_gs IhL65 (kd := 13) (bn := 0) (n := 97) (t := 0) (lo := 0) (hi := 156) (nx := 208) (by decide +kernel) ?_
                            intro v72 ev72 lv72 uv72
                            refine zwW_p [(1, 0, 2)] (q := 209) (ls' := [(2, 37), (0, vL65)]) (st' := [(2, 37), (0, v72), (2, (57 + vL65))]) (by decide +kernel) rfl ?_
                            refine zwW_gc IhL65 (kd := 13) (bn := 12) (n := 97) (c := 71) (nx := 212) (by decide +kernel) ?_
                            refine zwW_p [(1, 1, 0)] (q := 213) (ls' := [(2, 37), (0, vL65)]) (st' := [(0, vL65), (2, 71), (0, v72), (2, (57 + vL65))]) (by decide +kernel) rfl ?_
                            have ib7 : 0 ≤ vL65 ∧ vL65 < ((8 : Nat) : Int) := (by first | omega | exact ⟨by omega, by omega⟩)
                            refine zwW_al IhL65 (a1 := 71) (a2 := 71) (kd := 20) (n := 8) (t := 0) (lo := -2147483648) (hi := 2147483647) (nx := 214) (by decide +kernel) (by first | decide | exact ⟨by decide, by decide⟩) ib7 ?_
                            intro v73 ev73 lv73 uv73
                            have ib8 : 0 ≤ v72 ∧ v72 < ((157 : Nat) : Int) := (by first | omega | exact ⟨by omega, by omega⟩)
                            refine zwW_as IhL65 (a1 := 57) (a2 := 64) (n := 157) (lo := -2147483648) (hi := 2147483647) (nx := 215) (by decide +kernel) (by first | omega | exact ⟨by omega, by omega⟩) ib8 (by first | omega | exact ⟨by omega, by omega⟩) ?_
                            intro h74 eh74 Ih74
                            have rbh74 : ((57 : Nat) : Int) ≤ (57 + vL65) ∧ (57 + vL65) ≤ ((64 : Nat) : Int) := (by first | omega | exact ⟨by omega, by omega⟩)
                            have jbh74 : 0 ≤ v72.toNat ∧ v72.toNat < 157 := ⟨Nat.zero_le _, zit ib8⟩
                            have th74_37_0 : fld h74 37 0 = fld hL65 37 0 := by rw [eh74]; exact fld_wr (Or.inl (zne_l (by decide) rbh74.1))
                            have Qh74 : zMR [(57, 64, 0, 157)] hL65 h74 := zMR.one rbh74 jbh74 eh74
                            have XAh74 : zAg (zSt h74) (yWk (zSt h)) := iL65_2.mr (h1 := hL65) Qh74 (by decide +kernel) (by have q := IhL65.b (a1 := 37) (a2 := 37) (j1 := 1) (j2 := 2) (lo := 0) (hi := 8) (by decide +kernel) (r := 37) (j := 1) (by decide) (by decide) (by decide) (by decide); omega) (by have q := IhL65.b (a1 := 37) (a2 := 37) (j1 := 2) (j2 := 3) (lo := 0) (hi := 20) (by decide +kernel) (r := 37) (j := 2) (by decide) (by decide) (by decide) (by decide); omega)
                            have Rh74 : zMR ms114 h h74 := RhL65.w (a1 := 57) (a2 := 64) (j1 := 0) (j2 := 157) (by decide +kernel) rbh74 jbh74 eh74
                            refine zwW_inc (i := 1) (c := 1) (x := vL65) (nx := 218) (by decide +kernel) rfl (by first | omega | exact ⟨by omega, by omega⟩) (ls' := [(2, 37), (0, (vL65 + 1))]) rfl ?_
                            refine zwW_p [(24, 190, 0)] (q := 190) (ls' := [(2, 37), (0, (vL65 + 1))]) (st' := []) (by decide +kernel) rfl ?_
                            exact IHL65 ((1000 - (vL65 + 1))).toNat (by omega) (vL65 + 1) h74 rfl (by omega) (by omega) (XAh74) Ih74 Rh74
                      exact L65 _ 0 h64 rfl (by omega) (by omega) (X188) Ih64 Rh64
                    · refine zwW_p [(1, 0, 2)] (q := 108) (ls' := [(2, 37), (0, lL51)]) (st' := [(2, 37)]) (by decide +kernel) rfl ?_
                      refine zwW_gc IhL51 (kd := 13) (bn := 91) (n := 97) (c := 205) (nx := 111) (by decide +kernel) ?_
                      refine zwW_p [(1, 0, 2)] (q := 112) (ls' := [(2, 37), (0, lL51)]) (st' := [(2, 37), (2, 205)]) (by decide +kernel) rfl ?_
                      refine zwW_gs IhL51 (kd := 13) (bn := 0) (n := 97) (t := 0) (lo := 0) (hi := 156) (nx := 115) (by decide +kernel) ?_
                      intro v75 ev75 lv75 uv75
                      refine zwW_ro IhL51 (a := 205) (n := 156) (kd := 26) (base := 206) (step := 1) (nx := 116) (by decide +kernel) rfl (by first | omega | exact ⟨by omega, by omega⟩) ?_
                      rw [show ((206 : Nat) : Int) + ((1 : Nat) : Int) * v75 = (206 + v75) by omega]
                      refine zwW_p [(0, 2, 0), (14, 0, 0)] (q := 118) (ls' := [(2, 37), (0, lL51)]) (st' := [(0, 2), (2, (206 + v75)), (0, 2), (2, (206 + v75))]) (by decide +kernel) rfl ?_
                      refine zwW_al IhL51 (a1 := 206) (a2 := 361) (kd := 20) (n := 6) (t := 0) (lo := -2147483648) (hi := 2147483647) (nx := 119) (by decide +kernel) (by first | omega | exact ⟨by omega, by omega⟩) (by first | decide | exact ⟨by decide, by decide⟩) ?_
                      intro v76 ev76 lv76 uv76
                      refine zwW_p [(1, 0, 2)] (q := 120) (ls' := [(2, 37), (0, lL51)]) (st' := [(2, 37), (0, v76), (0, 2), (2, (206 + v75))]) (by decide +kernel) rfl ?_
                      refine zwW_gc IhL51 (kd := 13) (bn := 63) (n := 97) (c := 175) (nx := 123) (by decide +kernel) ?_
                      refine zwW_p [(1, 1, 0)] (q := 124) (ls' := [(2, 37), (0, lL51)]) (st' := [(0, lL51), (2, 175), (0, v76), (0, 2), (2, (206 + v75))]) (by decide +kernel) rfl ?_
                      have ib9 : 0 ≤ lL51 ∧ lL51 < ((300 : Nat) : Int) := (by first | omega | exact ⟨by omega, by omega⟩)
                      refine zwW_al IhL51 (a1 := 175) (a2 := 175) (kd := 20) (n := 300) (t := 0) (lo := -2147483648) (hi := 2147483647) (nx := 125) (by decide +kernel) (by first | decide | exact ⟨by decide, by decide⟩) ib9 ?_
                      intro v77 ev77 lv77 uv77
                      refine zwW_adw (nx := 126) (by decide +kernel) ?_
                      intro v78 ev78 lv78 uv78
                      refine zwW_as IhL51 (a1 := 206) (a2 := 361) (n := 6) (lo := -2147483648) (hi := 2147483647) (nx := 127) (by decide +kernel) (by first | omega | exact ⟨by omega, by omega⟩) (by first | decide | exact ⟨by decide, by decide⟩) (by first | omega | exact ⟨by omega, by omega⟩) ?_
                      intro h79 eh79 Ih79
                      have rbh79 : ((206 : Nat) : Int) ≤ (206 + v75) ∧ (206 + v75) ≤ ((361 : Nat) : Int) := (by first | omega | exact ⟨by omega, by omega⟩)
                      have th79_37_0 : fld h79 37 0 = fld hL51 37 0 := by rw [eh79]; exact fld_wr (Or.inl (zne_l (by decide) rbh79.1))
                      have Qh79 : zMR [(206, 361, 0, 6)] hL51 h79 := zMR.one rbh79 (by first | decide | exact ⟨by decide, by decide⟩) eh79
                      have XAh79 : zAg (zSt h79) (ySN (zSt h) (yEp (zSt h)) (fld h 37 2).toNat) := iL51_2.mr (h1 := hL51) Qh79 (by decide +kernel) (by have q := IhL51.b (a1 := 37) (a2 := 37) (j1 := 1) (j2 := 2) (lo := 0) (hi := 8) (by decide +kernel) (r := 37) (j := 1) (by decide) (by decide) (by decide) (by decide); omega) (by have q := IhL51.b (a1 := 37) (a2 := 37) (j1 := 2) (j2 := 3) (lo := 0) (hi := 20) (by decide +kernel) (r := 37) (j := 2) (by decide) (by decide) (by decide) (by decide); omega)
                      have Rh79 : zMR ms114 h h79 := RhL51.w (a1 := 206) (a2 := 361) (j1 := 0) (j2 := 6) (by decide +kernel) rbh79 (by first | decide | exact ⟨by decide, by decide⟩) eh79
                      refine zwW_inc (i := 1) (c := 1) (x := lL51) (nx := 130) (by decide +kernel) rfl (by first | omega | exact ⟨by omega, by omega⟩) (ls' := [(2, 37), (0, (lL51 + 1))]) rfl ?_
                      refine zwW_p [(24, 99, 0)] (q := 99) (ls' := [(2, 37), (0, (lL51 + 1))]) (st' := []) (by decide +kernel) rfl ?_
                      exact IHL51 ((1000 - (lL51 + 1))).toNat (by omega) (lL51 + 1) h79 rfl (by omega) (by omega) (XAh79) Ih79 Rh79
                exact L51 _ 0 hL48 rfl (by omega) (by omega) (iL48_2) IhL48 RhL48
              · refine zwW_p [(1, 0, 2)] (q := 72) (ls' := [(2, 37), (0, vL48)]) (st' := [(2, 37)]) (by decide +kernel) rfl ?_
                refine zwW_gc IhL48 (kd := 13) (bn := 91) (n := 97) (c := 205) (nx := 75) (by decide +kernel) ?_
                refine zwW_p [(1, 0, 2)] (q := 76) (ls' := [(2, 37), (0, vL48)]) (st' := [(2, 37), (2, 205)]) (by decide +kernel) rfl ?_
                refine zwW_gs IhL48 (kd := 13) (bn := 0) (n := 97) (t := 0) (lo := 0) (hi := 156) (nx := 79) (by decide +kernel) ?_
                intro v80 ev80 lv80 uv80
                refine zwW_ro IhL48 (a := 205) (n := 156) (kd := 26) (base := 206) (step := 1) (nx := 80) (by decide +kernel) rfl (by first | omega | exact ⟨by omega, by omega⟩) ?_
                rw [show ((206 : Nat) : Int) + ((1 : Nat) : Int) * v80 = (206 + v80) by omega]
                refine zwW_p [(0, 0, 0), (14, 0, 0)] (q := 82) (ls' := [(2, 37), (0, vL48)]) (st' := [(0, 0), (2, (206 + v80)), (0, 0), (2, (206 + v80))]) (by decide +kernel) rfl ?_
                refine zwW_al IhL48 (a1 := 206) (a2 := 361) (kd := 20) (n := 6) (t := 0) (lo := -2147483648) (hi := 2147483647) (nx := 83) (by decide +kernel) (by first | omega | exact ⟨by omega, by omega⟩) (by first | decide | exact ⟨by decide, by decide⟩) ?_
                intro v81 ev81 lv81 uv81
                refine zwW_p [(1, 0, 2)] (q := 84) (ls' := [(2, 37), (0, vL48)]) (st' := [(2, 37), (0, v81), (0, 0), (2, (206 + v80))]) (by decide +kernel) rfl ?_
                refine zwW_gc IhL48 (kd := 13) (bn := 7) (n := 97) (c := 66) (nx := 87) (by decide +kernel) ?_
                refine zwW_p [(1, 1, 0)] (q := 88) (ls' := [(2, 37), (0, vL48)]) (st' := [(0, vL48), (2, 66), (0, v81), (0, 0), (2, (206 + v80))]) (by decide +kernel) rfl ?_
                have ib10 : 0 ≤ vL48 ∧ vL48 < ((8 : Nat) : Int) := (by first | omega | exact ⟨by omega, by omega⟩)
                refine zwW_al IhL48 (a1 := 66) (a2 := 66) (kd := 20) (n := 8) (t := 0) (lo := -2147483648) (hi := 2147483647) (nx := 89) (by decide +kernel) (by first | decide | exact ⟨by decide, by decide⟩) ib10 ?_
                intro v82 ev82 lv82 uv82
                refine zwW_adw (nx := 90) (by decide +kernel) ?_
                intro v83 ev83 lv83 uv83
                refine zwW_as IhL48 (a1 := 206) (a2 := 361) (n := 6) (lo := -2147483648) (hi := 2147483647) (nx := 91) (by decide +kernel) (by first | omega | exact ⟨by omega, by omega⟩) (by first | decide | exact ⟨by decide, by decide⟩) (by first | omega | exact ⟨by omega, by omega⟩) ?_
                intro h84 eh84 Ih84
                have rbh84 : ((206 : Nat) : Int) ≤ (206 + v80) ∧ (206 + v80) ≤ ((361 : Nat) : Int) := (by first | omega | exact ⟨by omega, by omega⟩)
                have th84_37_0 : fld h84 37 0 = fld hL48 37 0 := by rw [eh84]; exact fld_wr (Or.inl (zne_l (by decide) rbh84.1))
                have Qh84 : zMR [(206, 361, 0, 6)] hL48 h84 := zMR.one rbh84 (by first | decide | exact ⟨by decide, by decide⟩) eh84
                have XAh84 : zAg (zSt h84) (ySN (zSt h) (yEp (zSt h)) (fld h 37 2).toNat) := iL48_2.mr (h1 := hL48) Qh84 (by decide +kernel) (by have q := IhL48.b (a1 := 37) (a2 := 37) (j1 := 1) (j2 := 2) (lo := 0) (hi := 8) (by decide +kernel) (r := 37) (j := 1) (by decide) (by decide) (by decide) (by decide); omega) (by have q := IhL48.b (a1 := 37) (a2 := 37) (j1 := 2) (j2 := 3) (lo := 0) (hi := 20) (by decide +kernel) (r := 37) (j := 2) (by decide) (by decide) (by decide) (by decide); omega)
                have Rh84 : zMR ms114 h h84 := RhL48.w (a1 := 206) (a2 := 361) (j1 := 0) (j2 := 6) (by decide +kernel) rbh84 (by first | decide | exact ⟨by decide, by decide⟩) eh84
                refine zwW_inc (i := 1) (c := 1) (x := vL48) (nx := 94) (by decide +kernel) rfl (by first | omega | exact ⟨by omega, by omega⟩) (ls' := [(2, 37), (0, (vL48 + 1))]) rfl ?_
                refine zwW_p [(24, 63, 0)] (q := 63) (ls' := [(2, 37), (0, (vL48 + 1))]) (st' := []) (by decide +kernel) rfl ?_
                exact IHL48 ((1000 - (vL48 + 1))).toNat (by omega) (vL48 + 1) h84 rfl (by omega) (by omega) (XAh84) Ih84 Rh84
          exact L48 _ 0 h47 rfl (by omega) (by omega) (XAh47) Ih47 Rh47
      · refine zwW_p [(1, 0, 2)] (q := 15) (ls' := [(2, 37), (0, qL3)]) (st' := [(2, 37)]) (by decide +kernel) rfl ?_
        refine zwW_gs IhL3 (kd := 13) (bn := 0) (n := 97) (t := 0) (lo := 0) (hi := 156) (nx := 18) (by decide +kernel) ?_
        intro v85 ev85 lv85 uv85
        refine zwW_p [(1, 0, 2)] (q := 19) (ls' := [(2, 37), (0, qL3)]) (st' := [(2, 37), (0, v85)]) (by decide +kernel) rfl ?_
        refine zwW_gc IhL3 (kd := 13) (bn := 24) (n := 97) (c := 83) (nx := 22) (by decide +kernel) ?_
        refine zwW_p [(1, 1, 0)] (q := 23) (ls' := [(2, 37), (0, qL3)]) (st' := [(0, qL3), (2, 83), (0, v85)]) (by decide +kernel) rfl ?_
        have ib11 : 0 ≤ qL3 ∧ qL3 < ((20 : Nat) : Int) := (by first | omega | exact ⟨by omega, by omega⟩)
        refine zwW_al IhL3 (a1 := 83) (a2 := 83) (kd := 20) (n := 20) (t := 0) (lo := 0) (hi := 9) (nx := 24) (by decide +kernel) (by first | decide | exact ⟨by decide, by decide⟩) ib11 ?_
        intro v86 ev86 lv86 uv86
        refine zwW_add (nx := 25) (by decide +kernel) (by first | omega | exact ⟨by omega, by omega⟩) ?_
        refine zwW_p [(0, 4, 0)] (q := 26) (ls' := [(2, 37), (0, qL3)]) (st' := [(0, 4), (0, (v85 + v86))]) (by decide +kernel) rfl ?_
        refine zwW_rem (nx := 27) (by decide +kernel) (by omega) (by omega) ?_
        refine zwif_ne (q := 35) (nx := 30) (by decide +kernel) (fun c87 => ?_) (fun c87 => ?_)
        · refine zwW_inc (i := 1) (c := 1) (x := qL3) (nx := 38) (by decide +kernel) rfl (by first | omega | exact ⟨by omega, by omega⟩) (ls' := [(2, 37), (0, (qL3 + 1))]) rfl ?_
          refine zwW_p [(24, 6, 0)] (q := 6) (ls' := [(2, 37), (0, (qL3 + 1))]) (st' := []) (by decide +kernel) rfl ?_
          exact IHL3 ((1000 - (qL3 + 1))).toNat (by omega) (qL3 + 1) hL3 rfl (by omega) (by omega) (iL3_2) IhL3 RhL3
        · refine zwW_p [(1, 0, 2), (1, 1, 0)] (q := 32) (ls' := [(2, 37), (0, qL3)]) (st' := [(0, qL3), (2, 37)]) (by decide +kernel) rfl ?_
          refine zwW_cmv IhL3 (op := 60) (k' := 195) (n := 1) (kd := 13) (m := 97) (nx := 35) (r := 37) (tl := [(0, qL3)]) (st' := []) (by decide +kernel) rfl (by decide +kernel) rfl (m195 hL3 IhL3 qL3 (by omega) (by omega) (hW.mr I RhL3 (by decide +kernel))) ?_
          rintro h88 ⟨Ih88, Qh88⟩
          have XAh88 : zAg (zSt h88) (ySN (zSt h) (yEp (zSt h)) (fld h 37 2).toNat) := iL3_2.mr (h1 := hL3) Qh88 (by decide +kernel) (by have q := IhL3.b (a1 := 37) (a2 := 37) (j1 := 1) (j2 := 2) (lo := 0) (hi := 8) (by decide +kernel) (r := 37) (j := 1) (by decide) (by decide) (by decide) (by decide); omega) (by have q := IhL3.b (a1 := 37) (a2 := 37) (j1 := 2) (j2 := 3) (lo := 0) (hi := 20) (by decide +kernel) (r := 37) (j := 2) (by decide) (by decide) (by decide) (by decide); omega)
          have Rh88 : zMR ms114 h h88 := RhL3.tr Qh88 (by decide +kernel)
          have th88_37_0 : fld h88 37 0 = fld hL3 37 0 := Qh88.f (a1 := 37) (a2 := 37) (j1 := 0) (j2 := 1) (by decide +kernel) (by first | decide | exact ⟨by decide, by decide⟩) (by first | decide | exact ⟨by decide, by decide⟩)
          refine zwW_inc (i := 1) (c := 1) (x := qL3) (nx := 38) (by decide +kernel) rfl (by first | omega | exact ⟨by omega, by omega⟩) (ls' := [(2, 37), (0, (qL3 + 1))]) rfl ?_
          refine zwW_p [(24, 6, 0)] (q := 6) (ls' := [(2, 37), (0, (qL3 + 1))]) (st' := []) (by decide +kernel) rfl ?_
          exact IHL3 ((1000 - (qL3 + 1))).toNat (by omega) (qL3 + 1) h88 rfl (by omega) (by omega) (XAh88) Ih88 Rh88
  exact L3 _ 0 h2 rfl (by omega) (by omega) (X4) Ih2 Rh2
-- WheelLandModel.go(I)I
theorem m20_s {sc : List Int} (h : Hp) (I : zI h) (a : Int) (hA : zAM h) (hW : zCW h) (BO : zBs (zSt h)) : zwC sc 9 20 [(2, 37), (0, a)] h (zwRt 0 (fun x g => zI g ∧ zMR ms20 h g ∧ (-2147483648 ≤ x ∧ x ≤ 2147483647) ∧ ((0 ≤ a ∧ a ≤ 26 ∧ x = min 156 (fld h 37 0 + a) ∧ fld g 37 0 = x ∧ zAg (zSt g) (yGo (zSt h) a.toNat)) ∨ (x = -1 ∧ g = h ∧ (a < 0 ∨ 26 < a))))) := by
  refine zwC_of (D := 8) 3 (by decide +kernel) rfl (ls := [(2, 37), (0, a), (9, 0)]) rfl ?_
  have R : zMR ms20 h h := zMR.rf _ _
  have B0 := I.b (a1 := 37) (a2 := 37) (j1 := 2) (j2 := 3) (lo := 0) (hi := 20) (by decide +kernel) (r := 37) (j := 2) (by decide) (by decide) (by decide) (by decide)
  have B1 := I.b (a1 := 37) (a2 := 37) (j1 := 0) (j2 := 1) (lo := 0) (hi := 156) (by decide +kernel) (r := 37) (j := 0) (by decide) (by decide) (by decide) (by decide)
  refine zwW_p [(1, 1, 0), (7, 0, 0), (0, 0, 1), (0, 26, 1)] (q := 6) (ls' := [(2, 37), (0, a), (9, 0)]) (st' := [(1, 26), (1, 0), (1, a)]) (by decide +kernel) rfl ?_
  refine zwW_cs (k' := 101) (n := 3) (nx := 9) (as := [(1, a), (1, 0), (1, 26)]) (st' := []) (by decide +kernel) rfl (m101 h a 0 26) rfl ?_
  rintro x _ ⟨rfl, ⟨rfl, c1⟩ | ⟨rfl, c1⟩⟩
  · refine zwif_ne (q := 14) (nx := 12) (by decide +kernel) (fun c2 => ?_) (fun c2 => ?_)
    · refine zwW_p [(0, 0, 0), (2, 2, 0)] (q := 16) (ls' := [(2, 37), (0, a), (0, 0)]) (st' := []) (by decide +kernel) rfl ?_
      have L3 : ∀ (n0 : Nat) (kL3 : Int) (hL3 : Hp), n0 = ((1000 - kL3)).toNat → (0 ≤ kL3 ∧ kL3 ≤ a) → (fld hL3 37 0 = fld h 37 0 + kL3) → (zAg (zSt hL3) (yGo (zSt h) (kL3).toNat)) → zI hL3 → zMR ms20 h hL3 → zwW sc (8) 20 16 [(2, 37), (0, a), (0, kL3)] [] hL3 (zwRt 0 (fun x g => zI g ∧ zMR ms20 h g ∧ (-2147483648 ≤ x ∧ x ≤ 2147483647) ∧ ((0 ≤ a ∧ a ≤ 26 ∧ x = min 156 (fld h 37 0 + a) ∧ fld g 37 0 = x ∧ zAg (zSt g) (yGo (zSt h) a.toNat)) ∨ (x = -1 ∧ g = h ∧ (a < 0 ∨ 26 < a))))) := by
        intro n0
        induction n0 using Nat.strongRecOn with
        | ind n0 IHL3 =>
          intro kL3 hL3 hnL3 iL3_0 iL3_1 iL3_2 IhL3 RhL3
          refine zwW_p [(1, 2, 0), (1, 1, 0)] (q := 18) (ls' := [(2, 37), (0, a), (0, kL3)]) (st' := [(0, a), (0, kL3)]) (by decide +kernel) rfl ?_
          refine zwic_ge (q := 41) (nx := 21) (by decide +kernel) (fun c4 => ?_) (fun c4 => ?_)
          · refine zwW_p [(1, 0, 2)] (q := 42) (ls' := [(2, 37), (0, a), (0, kL3)]) (st' := [(2, 37)]) (by decide +kernel) rfl ?_
            refine zwW_gs IhL3 (kd := 13) (bn := 0) (n := 97) (t := 0) (lo := 0) (hi := 156) (nx := 45) (by decide +kernel) ?_
            intro v5 ev5 lv5 uv5
            refine zwW_ret (nx := 46) (a := 0) (b := 0) (by decide +kernel) rfl (Or.inl rfl) ?_
            exact ⟨IhL3, RhL3, by omega, by first | exact Or.inr ⟨by omega, rfl, by omega⟩ | (refine Or.inl ⟨by omega, by omega, by omega, by omega, ?_⟩; obtain ⟨d, hd⟩ : ∃ d : Nat, a.toNat = (kL3).toNat + d := ⟨a.toNat - (kL3).toNat, by omega⟩; rw [hd]; first | (have z0 : d = 0 := (by omega); subst z0; exact iL3_2) | (rw [yGo_stop (by have q := iL3_2.1.1; have w : zSt hL3 37 0 = fld hL3 37 0 := rfl; omega)]; exact iL3_2))⟩
          · refine zwW_p [(1, 0, 2)] (q := 22) (ls' := [(2, 37), (0, a), (0, kL3)]) (st' := [(2, 37)]) (by decide +kernel) rfl ?_
            refine zwW_gs IhL3 (kd := 13) (bn := 0) (n := 97) (t := 0) (lo := 0) (hi := 156) (nx := 25) (by decide +kernel) ?_
            intro v6 ev6 lv6 uv6
            refine zwW_p [(0, 156, 0)] (q := 28) (ls' := [(2, 37), (0, a), (0, kL3)]) (st' := [(0, 156), (0, v6)]) (by decide +kernel) rfl ?_
            refine zwic_ge (q := 41) (nx := 31) (by decide +kernel) (fun c7 => ?_) (fun c7 => ?_)
            · refine zwW_p [(1, 0, 2)] (q := 42) (ls' := [(2, 37), (0, a), (0, kL3)]) (st' := [(2, 37)]) (by decide +kernel) rfl ?_
              refine zwW_gs IhL3 (kd := 13) (bn := 0) (n := 97) (t := 0) (lo := 0) (hi := 156) (nx := 45) (by decide +kernel) ?_
              intro v8 ev8 lv8 uv8
              refine zwW_ret (nx := 46) (a := 0) (b := 0) (by decide +kernel) rfl (Or.inl rfl) ?_
              exact ⟨IhL3, RhL3, by omega, by first | exact Or.inr ⟨by omega, rfl, by omega⟩ | (refine Or.inl ⟨by omega, by omega, by omega, by omega, ?_⟩; obtain ⟨d, hd⟩ : ∃ d : Nat, a.toNat = (kL3).toNat + d := ⟨a.toNat - (kL3).toNat, by omega⟩; rw [hd]; first | (have z0 : d = 0 := (by omega); subst z0; exact iL3_2) | (rw [yGo_stop (by have q := iL3_2.1.1; have w : zSt hL3 37 0 = fld hL3 37 0 := rfl; omega)]; exact iL3_2))⟩
            · refine zwW_p [(1, 0, 2)] (q := 32) (ls' := [(2, 37), (0, a), (0, kL3)]) (st' := [(2, 37)]) (by decide +kernel) rfl ?_
              refine zwW_cmv IhL3 (op := 60) (k' := 114) (n := 0) (kd := 13) (m := 97) (nx := 35) (r := 37) (tl := []) (st' := []) (by decide +kernel) rfl (by decide +kernel) rfl (m114_s hL3 IhL3 (by omega) (hA.mr RhL3 (by decide +kernel) (by omega)) (hW.mr I RhL3 (by decide +kernel)) ((BO.go (kL3).toNat).cg iL3_2.sy)) ?_
              rintro h11 ⟨Ih11, Qh11, f9, f10⟩
              have Rh11 : zMR ms20 h h11 := RhL3.tr Qh11 (by decide +kernel)
              refine zwW_inc (i := 2) (c := 1) (x := kL3) (nx := 38) (by decide +kernel) rfl (by first | omega | exact ⟨by omega, by omega⟩) (ls' := [(2, 37), (0, a), (0, (kL3 + 1))]) rfl ?_
              refine zwW_p [(24, 16, 0)] (q := 16) (ls' := [(2, 37), (0, a), (0, (kL3 + 1))]) (st' := []) (by decide +kernel) rfl ?_
              exact IHL3 ((1000 - (kL3 + 1))).toNat (by omega) (kL3 + 1) h11 rfl (by omega) (by omega) (by rw [show (kL3 + 1).toNat = (kL3).toNat + 1 by omega, yGo_step (by have q := iL3_2.1.1; have w : zSt hL3 37 0 = fld hL3 37 0 := rfl; omega)]; exact f10.tr (iL3_2.wk ((BO.go (kL3).toNat).cg iL3_2.sy))) Ih11 Rh11
      exact L3 _ 0 h rfl (by omega) (by omega) (zAg.rf) I R
    · exfalso; omega
  · refine zwif_ne (q := 14) (nx := 12) (by decide +kernel) (fun c12 => ?_) (fun c12 => ?_)
    · exfalso; omega
    · refine zwW_p [(0, -1, 0)] (q := 13) (ls' := [(2, 37), (0, a), (9, 0)]) (st' := [(0, -1)]) (by decide +kernel) rfl ?_
      refine zwW_ret (nx := 14) (a := 0) (b := 0) (by decide +kernel) rfl (Or.inl rfl) ?_
      exact ⟨I, R, by omega, by first | exact Or.inr ⟨by omega, rfl, by omega⟩ | (refine Or.inl ⟨by omega, by omega, by omega, by omega, ?_⟩; obtain ⟨d, hd⟩ : ∃ d : Nat, a.toNat = ({k}).toNat + d := ⟨a.toNat - ({k}).toNat, by omega⟩; rw [hd]; first | (have z0 : d = 0 := (by omega); subst z0; exact {i16_2}) | (rw [yGo_stop (by have q := {i16_2}.1.1; have w : zSt {h16} 37 0 = fld {h16} 37 0 := rfl; omega)]; exact {i16_2}))⟩
