/-! contracts of methods -/
-- WheelLandModel.sheetFor(II)I
theorem m126_w {sc : List Int} (h : Hp) (I : zI h) (a b : Int) (p1 : 0 ≤ a) (p2 : a ≤ 4) (hF : ∀ k : Nat, (k : Int) < fld h 37 53 → fld h 164 k < fld h 37 52) : zwC sc 1 126 [(2, 37), (0, a), (0, b)] h (zwRt 0 (fun x g => h = g ∧ (-2147483648 ≤ x ∧ x ≤ 2147483647) ∧ (x = pWhy (fld h 164) (fld h 165) (fun s => fld h (155 + s) a.toNat) b (fld h 37 53).toNat))) := by
  refine zwC_of (D := 0) 5 (by decide +kernel) rfl (ls := [(2, 37), (0, a), (0, b), (9, 0), (9, 0)]) rfl ?_
  refine zwW_p [(0, -1, 0), (2, 3, 0), (0, 0, 0), (2, 4, 0)] (q := 5) (ls' := [(2, 37), (0, a), (0, b), (0, -1), (0, 0)]) (st' := []) (by decide +kernel) rfl ?_
  have L1 : ∀ (n0 : Nat) (zL1 kL1 : Int), n0 = ((100 - kL1)).toNat → (0 ≤ kL1 ∧ kL1 ≤ 12 ∧ kL1 ≤ max 0 (fld h 37 53)) → (-1 ≤ zL1 ∧ zL1 < kL1 ∧ zL1 < max 0 (fld h 37 53)) → (zL1 = pBw (fld h 164) (fld h 165) (fun s => fld h (155 + s) a.toNat) b (kL1).toNat) → zwW sc (0) 126 5 [(2, 37), (0, a), (0, b), (0, zL1), (0, kL1)] [] h (zwRt 0 (fun x g => h = g ∧ (-2147483648 ≤ x ∧ x ≤ 2147483647) ∧ (x = pWhy (fld h 164) (fld h 165) (fun s => fld h (155 + s) a.toNat) b (fld h 37 53).toNat))) := by
    intro n0
    induction n0 using Nat.strongRecOn with
    | ind n0 IHL1 =>
      intro zL1 kL1 hnL1 iL1_0 iL1_1 iL1_2
      refine zwW_p [(1, 4, 0), (1, 0, 2)] (q := 8) (ls' := [(2, 37), (0, a), (0, b), (0, zL1), (0, kL1)]) (st' := [(2, 37), (0, kL1)]) (by decide +kernel) rfl ?_
      refine zwW_gs I (kd := 13) (bn := 53) (n := 97) (t := 0) (lo := 0) (hi := 12) (nx := 11) (by decide +kernel) ?_
      intro v2 ev2 lv2 uv2
      refine zwic_ge (q := 72) (nx := 14) (by decide +kernel) (fun c3 => ?_) (fun c3 => ?_)
      · refine zwW_p [(1, 3, 0), (0, -1, 0)] (q := 74) (ls' := [(2, 37), (0, a), (0, b), (0, zL1), (0, kL1)]) (st' := [(0, -1), (0, zL1)]) (by decide +kernel) rfl ?_
        refine zwic_ne (q := 81) (nx := 77) (by decide +kernel) (fun c4 => ?_) (fun c4 => ?_)
        · refine zwW_p [(1, 0, 2)] (q := 82) (ls' := [(2, 37), (0, a), (0, b), (0, zL1), (0, kL1)]) (st' := [(2, 37)]) (by decide +kernel) rfl ?_
          refine zwW_gc I (kd := 13) (bn := 50) (n := 97) (c := 164) (nx := 85) (by decide +kernel) ?_
          refine zwW_p [(1, 3, 0)] (q := 86) (ls' := [(2, 37), (0, a), (0, b), (0, zL1), (0, kL1)]) (st' := [(0, zL1), (2, 164)]) (by decide +kernel) rfl ?_
          refine zwW_al I (a1 := 164) (a2 := 164) (kd := 20) (n := 12) (t := 0) (lo := 0) (hi := 7) (nx := 87) (by decide +kernel) ⟨by decide, by decide⟩ ⟨by omega, by omega⟩ ?_
          intro v5 ev5 lv5 uv5
          refine zwW_ret (nx := 88) (a := 0) (b := 0) (by decide +kernel) rfl (Or.inl rfl) ?_
          exact ⟨rfl, by omega, by first | exact pWhy_n (z := zL1) (by have z := iL1_2; rwa [show (kL1).toNat = (fld h 37 53).toNat by omega] at z) (by omega) | exact Eq.trans (b := fld h 164 (zL1).toNat) (by omega) (pWhy_y (z := zL1) (by have z := iL1_2; rwa [show (kL1).toNat = (fld h 37 53).toNat by omega] at z) (by omega))⟩
        · refine zwW_p [(0, -1, 0), (24, 87, 0)] (q := 87) (ls' := [(2, 37), (0, a), (0, b), (0, zL1), (0, kL1)]) (st' := [(0, -1)]) (by decide +kernel) rfl ?_
          refine zwW_ret (nx := 88) (a := 0) (b := 0) (by decide +kernel) rfl (Or.inl rfl) ?_
          exact ⟨rfl, by omega, by first | exact pWhy_n (z := zL1) (by have z := iL1_2; rwa [show (kL1).toNat = (fld h 37 53).toNat by omega] at z) (by omega) | exact Eq.trans (b := fld h 164 (zL1).toNat) (by omega) (pWhy_y (z := zL1) (by have z := iL1_2; rwa [show (kL1).toNat = (fld h 37 53).toNat by omega] at z) (by omega))⟩
      · refine zwW_p [(1, 0, 2)] (q := 15) (ls' := [(2, 37), (0, a), (0, b), (0, zL1), (0, kL1)]) (st' := [(2, 37)]) (by decide +kernel) rfl ?_
        refine zwW_gc I (kd := 13) (bn := 51) (n := 97) (c := 165) (nx := 18) (by decide +kernel) ?_
        refine zwW_p [(1, 4, 0)] (q := 20) (ls' := [(2, 37), (0, a), (0, b), (0, zL1), (0, kL1)]) (st' := [(0, kL1), (2, 165)]) (by decide +kernel) rfl ?_
        refine zwW_al I (a1 := 165) (a2 := 165) (kd := 20) (n := 12) (t := 0) (lo := 0) (hi := 155) (nx := 21) (by decide +kernel) ⟨by decide, by decide⟩ ⟨by omega, by omega⟩ ?_
        intro v6 ev6 lv6 uv6
        refine zwW_p [(1, 2, 0)] (q := 22) (ls' := [(2, 37), (0, a), (0, b), (0, zL1), (0, kL1)]) (st' := [(0, b), (0, v6)]) (by decide +kernel) rfl ?_
        refine zwic_gt (q := 66) (nx := 25) (by decide +kernel) (fun c7 => ?_) (fun c7 => ?_)
        · refine zwW_inc (i := 4) (c := 1) (x := kL1) (nx := 69) (by decide +kernel) rfl ⟨by omega, by omega⟩ (ls' := [(2, 37), (0, a), (0, b), (0, zL1), (0, (kL1 + 1))]) rfl ?_
          refine zwW_p [(24, 5, 0)] (q := 5) (ls' := [(2, 37), (0, a), (0, b), (0, zL1), (0, (kL1 + 1))]) (st' := []) (by decide +kernel) rfl ?_
          exact IHL1 ((100 - (kL1 + 1))).toNat (by omega) zL1 (kL1 + 1) rfl (by omega) (by omega) (by rw [show (kL1 + 1).toNat = (kL1).toNat + 1 by omega]; first | exact pBw_t iL1_2 (by omega) (by omega) (show 0 < fld h (155 + fld h 164 (kL1).toNat) a.toNat by omega) (by omega) | exact pBw_f iL1_2 (by rintro ⟨c1, c2, c3⟩; have c2 : 0 < fld h (155 + fld h 164 (kL1).toNat) a.toNat := c2; omega))
        · refine zwW_p [(1, 0, 2)] (q := 26) (ls' := [(2, 37), (0, a), (0, b), (0, zL1), (0, kL1)]) (st' := [(2, 37)]) (by decide +kernel) rfl ?_
          refine zwW_gc I (kd := 13) (bn := 49) (n := 97) (c := 154) (nx := 29) (by decide +kernel) ?_
          refine zwW_p [(1, 0, 2)] (q := 30) (ls' := [(2, 37), (0, a), (0, b), (0, zL1), (0, kL1)]) (st' := [(2, 37), (2, 154)]) (by decide +kernel) rfl ?_
          refine zwW_gc I (kd := 13) (bn := 50) (n := 97) (c := 164) (nx := 33) (by decide +kernel) ?_
          refine zwW_p [(1, 4, 0)] (q := 35) (ls' := [(2, 37), (0, a), (0, b), (0, zL1), (0, kL1)]) (st' := [(0, kL1), (2, 164), (2, 154)]) (by decide +kernel) rfl ?_
          refine zwW_al I (a1 := 164) (a2 := 164) (kd := 20) (n := 12) (t := 0) (lo := 0) (hi := 7) (nx := 36) (by decide +kernel) ⟨by decide, by decide⟩ ⟨by omega, by omega⟩ ?_
          intro v8 ev8 lv8 uv8
          refine zwW_ro I (a := 154) (n := 9) (kd := 26) (base := 155) (step := 1) (nx := 37) (by decide +kernel) rfl ⟨by omega, by omega⟩ ?_
          rw [show ((155 : Nat) : Int) + ((1 : Nat) : Int) * v8 = (155 + v8) by omega]
          refine zwW_p [(1, 1, 0)] (q := 38) (ls' := [(2, 37), (0, a), (0, b), (0, zL1), (0, kL1)]) (st' := [(0, a), (2, (155 + v8))]) (by decide +kernel) rfl ?_
          refine zwW_al I (a1 := 155) (a2 := 163) (kd := 20) (n := 5) (t := 0) (lo := 0) (hi := 400) (nx := 39) (by decide +kernel) ⟨by omega, by omega⟩ ⟨by omega, by omega⟩ ?_
          intro v9 ev9 lv9 uv9
          have L39 : v9 = fld h (155 + fld h 164 (kL1).toNat) a.toNat := by rw [ev9, ev8]
          refine zwif_le (q := 66) (nx := 42) (by decide +kernel) (fun c10 => ?_) (fun c10 => ?_)
          · refine zwW_inc (i := 4) (c := 1) (x := kL1) (nx := 69) (by decide +kernel) rfl ⟨by omega, by omega⟩ (ls' := [(2, 37), (0, a), (0, b), (0, zL1), (0, (kL1 + 1))]) rfl ?_
            refine zwW_p [(24, 5, 0)] (q := 5) (ls' := [(2, 37), (0, a), (0, b), (0, zL1), (0, (kL1 + 1))]) (st' := []) (by decide +kernel) rfl ?_
            exact IHL1 ((100 - (kL1 + 1))).toNat (by omega) zL1 (kL1 + 1) rfl (by omega) (by omega) (by rw [show (kL1 + 1).toNat = (kL1).toNat + 1 by omega]; first | exact pBw_t iL1_2 (by omega) (by omega) (show 0 < fld h (155 + fld h 164 (kL1).toNat) a.toNat by omega) (by omega) | exact pBw_f iL1_2 (by rintro ⟨c1, c2, c3⟩; have c2 : 0 < fld h (155 + fld h 164 (kL1).toNat) a.toNat := c2; omega))
          · refine zwW_p [(1, 3, 0), (0, -1, 0)] (q := 44) (ls' := [(2, 37), (0, a), (0, b), (0, zL1), (0, kL1)]) (st' := [(0, -1), (0, zL1)]) (by decide +kernel) rfl ?_
            refine zwic_eq (q := 63) (nx := 47) (by decide +kernel) (fun c11 => ?_) (fun c11 => ?_)
            · refine zwW_p [(1, 4, 0), (2, 3, 0)] (q := 66) (ls' := [(2, 37), (0, a), (0, b), (0, kL1), (0, kL1)]) (st' := []) (by decide +kernel) rfl ?_
              refine zwW_inc (i := 4) (c := 1) (x := kL1) (nx := 69) (by decide +kernel) rfl ⟨by omega, by omega⟩ (ls' := [(2, 37), (0, a), (0, b), (0, kL1), (0, (kL1 + 1))]) rfl ?_
              refine zwW_p [(24, 5, 0)] (q := 5) (ls' := [(2, 37), (0, a), (0, b), (0, kL1), (0, (kL1 + 1))]) (st' := []) (by decide +kernel) rfl ?_
              exact IHL1 ((100 - (kL1 + 1))).toNat (by omega) kL1 (kL1 + 1) rfl (by omega) (by omega) (by rw [show (kL1 + 1).toNat = (kL1).toNat + 1 by omega]; first | exact pBw_t iL1_2 (by omega) (by omega) (show 0 < fld h (155 + fld h 164 (kL1).toNat) a.toNat by omega) (by omega) | exact pBw_f iL1_2 (by rintro ⟨c1, c2, c3⟩; have c2 : 0 < fld h (155 + fld h 164 (kL1).toNat) a.toNat := c2; omega))
            · refine zwW_p [(1, 0, 2)] (q := 48) (ls' := [(2, 37), (0, a), (0, b), (0, zL1), (0, kL1)]) (st' := [(2, 37)]) (by decide +kernel) rfl ?_
              refine zwW_gc I (kd := 13) (bn := 51) (n := 97) (c := 165) (nx := 51) (by decide +kernel) ?_
              refine zwW_p [(1, 4, 0)] (q := 53) (ls' := [(2, 37), (0, a), (0, b), (0, zL1), (0, kL1)]) (st' := [(0, kL1), (2, 165)]) (by decide +kernel) rfl ?_
              refine zwW_al I (a1 := 165) (a2 := 165) (kd := 20) (n := 12) (t := 0) (lo := 0) (hi := 155) (nx := 54) (by decide +kernel) ⟨by decide, by decide⟩ ⟨by omega, by omega⟩ ?_
              intro v12 ev12 lv12 uv12
              refine zwW_p [(1, 0, 2)] (q := 55) (ls' := [(2, 37), (0, a), (0, b), (0, zL1), (0, kL1)]) (st' := [(2, 37), (0, v12)]) (by decide +kernel) rfl ?_
              refine zwW_gc I (kd := 13) (bn := 51) (n := 97) (c := 165) (nx := 58) (by decide +kernel) ?_
              refine zwW_p [(1, 3, 0)] (q := 59) (ls' := [(2, 37), (0, a), (0, b), (0, zL1), (0, kL1)]) (st' := [(0, zL1), (2, 165), (0, v12)]) (by decide +kernel) rfl ?_
              refine zwW_al I (a1 := 165) (a2 := 165) (kd := 20) (n := 12) (t := 0) (lo := 0) (hi := 155) (nx := 60) (by decide +kernel) ⟨by decide, by decide⟩ ⟨by omega, by omega⟩ ?_
              intro v13 ev13 lv13 uv13
              refine zwic_lt (q := 66) (nx := 63) (by decide +kernel) (fun c14 => ?_) (fun c14 => ?_)
              · refine zwW_inc (i := 4) (c := 1) (x := kL1) (nx := 69) (by decide +kernel) rfl ⟨by omega, by omega⟩ (ls' := [(2, 37), (0, a), (0, b), (0, zL1), (0, (kL1 + 1))]) rfl ?_
                refine zwW_p [(24, 5, 0)] (q := 5) (ls' := [(2, 37), (0, a), (0, b), (0, zL1), (0, (kL1 + 1))]) (st' := []) (by decide +kernel) rfl ?_
                exact IHL1 ((100 - (kL1 + 1))).toNat (by omega) zL1 (kL1 + 1) rfl (by omega) (by omega) (by rw [show (kL1 + 1).toNat = (kL1).toNat + 1 by omega]; first | exact pBw_t iL1_2 (by omega) (by omega) (show 0 < fld h (155 + fld h 164 (kL1).toNat) a.toNat by omega) (by omega) | exact pBw_f iL1_2 (by rintro ⟨c1, c2, c3⟩; have c2 : 0 < fld h (155 + fld h 164 (kL1).toNat) a.toNat := c2; omega))
              · refine zwW_p [(1, 4, 0), (2, 3, 0)] (q := 66) (ls' := [(2, 37), (0, a), (0, b), (0, kL1), (0, kL1)]) (st' := []) (by decide +kernel) rfl ?_
                refine zwW_inc (i := 4) (c := 1) (x := kL1) (nx := 69) (by decide +kernel) rfl ⟨by omega, by omega⟩ (ls' := [(2, 37), (0, a), (0, b), (0, kL1), (0, (kL1 + 1))]) rfl ?_
                refine zwW_p [(24, 5, 0)] (q := 5) (ls' := [(2, 37), (0, a), (0, b), (0, kL1), (0, (kL1 + 1))]) (st' := []) (by decide +kernel) rfl ?_
                exact IHL1 ((100 - (kL1 + 1))).toNat (by omega) kL1 (kL1 + 1) rfl (by omega) (by omega) (by rw [show (kL1 + 1).toNat = (kL1).toNat + 1 by omega]; first | exact pBw_t iL1_2 (by omega) (by omega) (show 0 < fld h (155 + fld h 164 (kL1).toNat) a.toNat by omega) (by omega) | exact pBw_f iL1_2 (by rintro ⟨c1, c2, c3⟩; have c2 : 0 < fld h (155 + fld h 164 (kL1).toNat) a.toNat := c2; omega))
  exact L1 _ (-1) 0 rfl (by omega) (by omega) (rfl)
