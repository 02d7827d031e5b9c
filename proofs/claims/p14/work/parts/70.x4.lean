/-! contracts of the class -/
def msx198 : Zms := [(9, 9, 2, 3), (9, 9, 3, 4), (9, 9, 4, 5), (9, 9, 5, 6)]
-- WheelLand$Reader.advance()Z
theorem x198 {sc : List Int} (h : Hp) (C : CI h) : zwC sc 8 198 [(2, 9)] h (zwRt 0 (fun x g => CI g ∧ zXR msx198 (0) (0) h g ∧ (0 ≤ x ∧ x ≤ 1))) := by
  refine zwC_of (D := 7) 1 (by decide +kernel) rfl (ls := [(2, 9)]) rfl ?_
  have X : zXR msx198 0 0 h h := zXR.rf _ _
  have L1 : ∀ (n : Nat) (hL1 : Hp), n = ((400 - fld hL1 9 2)).toNat → CI hL1 → zXR msx198 (0) (0) h hL1 → zwW sc (7) 198 0 [(2, 9)] [] hL1 (zwRt 0 (fun x g => CI g ∧ zXR msx198 (0) (0) h g ∧ (0 ≤ x ∧ x ≤ 1))) := by
    intro n
    induction n using Nat.strongRecOn with
    | ind n IHL1 =>
      intro hL1 hnL1 ChL1 XhL1
      refine zwW_p [(1, 0, 2)] (q := 1) (ls' := [(2, 9)]) (st' := [(2, 9)]) (by decide +kernel) rfl ?_
      refine zwW_gs ChL1.1 (kd := 7) (bn := 2) (n := 9) (t := 0) (lo := 0) (hi := 400) (nx := 4) (by decide +kernel) ?_
      intro v2 ev2 lv2 uv2
      refine zwW_p [(1, 0, 2)] (q := 5) (ls' := [(2, 9)]) (st' := [(2, 9), (0, v2)]) (by decide +kernel) rfl ?_
      refine zwW_gs ChL1.1 (kd := 7) (bn := 0) (n := 9) (t := 0) (lo := 0) (hi := 400) (nx := 8) (by decide +kernel) ?_
      intro v3 ev3 lv3 uv3
      refine zwic_ge (q := 52) (nx := 11) (by decide +kernel) (fun c4 => ?_) (fun c4 => ?_)
      · refine zwW_p [(1, 0, 2), (1, 0, 2)] (q := 54) (ls' := [(2, 9)]) (st' := [(2, 9), (2, 9)]) (by decide +kernel) rfl ?_
        refine zwW_gs ChL1.1 (kd := 7) (bn := 2) (n := 9) (t := 0) (lo := 0) (hi := 400) (nx := 57) (by decide +kernel) ?_
        intro v5 ev5 lv5 uv5
        refine zwW_ps ChL1.1 (kd := 7) (bn := 3) (n := 9) (lo := 0) (hi := 400) (nx := 60) (by decide +kernel) ⟨by omega, by omega⟩ ?_
        intro h6 eh6 Ih6
        have Ch6 : CI h6 := ChL1.wc eh6 Ih6 (by decide) (by decide)
        have Qh6 : zXR [(9, 9, 3, 4)] 0 0 hL1 h6 := zXR.wc eh6 rfl ⟨by decide, by decide, Or.inl (by decide)⟩ ⟨by decide, by decide⟩
        have Xh6 : zXR msx198 (0) (0) h h6 := XhL1.tr (c2 := 0) (s2 := 0) Qh6 (by decide +kernel) (by decide) (by decide)
        have th6_9_2 : fld h6 9 2 = fld hL1 9 2 := Qh6.f (a1 := 9) (a2 := 9) (j1 := 2) (j2 := 3) (by decide +kernel) ⟨by decide, by decide⟩ ⟨by decide, by decide⟩ ⟨by decide, by decide⟩
        refine zwW_p [(1, 0, 2)] (q := 61) (ls' := [(2, 9)]) (st' := [(2, 9)]) (by decide +kernel) rfl ?_
        refine zwW_gs Ch6.1 (kd := 7) (bn := 2) (n := 9) (t := 0) (lo := 0) (hi := 400) (nx := 64) (by decide +kernel) ?_
        intro v7 ev7 lv7 uv7
        refine zwW_p [(1, 0, 2)] (q := 65) (ls' := [(2, 9)]) (st' := [(2, 9), (0, v7)]) (by decide +kernel) rfl ?_
        refine zwW_gs Ch6.1 (kd := 7) (bn := 0) (n := 9) (t := 0) (lo := 0) (hi := 400) (nx := 68) (by decide +kernel) ?_
        intro v8 ev8 lv8 uv8
        refine zwic_lt (q := 79) (nx := 71) (by decide +kernel) (fun c9 => ?_) (fun c9 => ?_)
        · refine zwW_p [(1, 0, 2), (1, 0, 2)] (q := 81) (ls' := [(2, 9)]) (st' := [(2, 9), (2, 9)]) (by decide +kernel) rfl ?_
          refine zwW_gs Ch6.1 (kd := 7) (bn := 2) (n := 9) (t := 0) (lo := 0) (hi := 400) (nx := 84) (by decide +kernel) ?_
          intro v10 ev10 lv10 uv10
          refine zwW_cm Ch6.1 (op := 60) (k' := 236) (n := 1) (kd := 7) (m := 9) (nx := 87) (r := 9) (tl := [(0, v10)]) (st' := []) (by decide +kernel) rfl (by decide +kernel) rfl (x236 h6 Ch6 v10 (by omega) (by omega)) ?_
          rintro x _ ⟨rfl, ⟨rfl, c11⟩ | ⟨rfl, c11⟩⟩
          · refine zwif_eq (q := 97) (nx := 90) (by decide +kernel) (fun c12 => ?_) (fun c12 => ?_)
            · exfalso; omega
            · refine zwW_p [(1, 0, 2)] (q := 91) (ls' := [(2, 9)]) (st' := [(2, 9)]) (by decide +kernel) rfl ?_
              refine zwW_cmv Ch6.1 (op := 60) (k' := 237) (n := 0) (kd := 7) (m := 9) (nx := 94) (r := 9) (tl := []) (st' := []) (by decide +kernel) rfl (by decide +kernel) rfl (x237 h6 Ch6) ?_
              rintro h13 ⟨Ch13, Qh13⟩
              have Xh13 : zXR msx198 (0) (0) h h13 := Xh6.tr (c2 := 0) (s2 := 0) Qh13 (by decide +kernel) (by decide) (by decide)
              refine zwW_p [(24, 160, 0), (0, 1, 0)] (q := 161) (ls' := [(2, 9)]) (st' := [(0, 1)]) (by decide +kernel) rfl ?_
              refine zwW_ret (nx := 162) (a := 1) (b := 0) (by decide +kernel) rfl (Or.inr (Or.inl ⟨rfl, by omega⟩)) ?_
              exact ⟨Ch13, Xh13.le (by decide) (by decide), by omega⟩
          · refine zwif_eq (q := 97) (nx := 90) (by decide +kernel) (fun c14 => ?_) (fun c14 => ?_)
            · refine zwW_p [(1, 0, 2), (1, 0, 2)] (q := 99) (ls' := [(2, 9)]) (st' := [(2, 9), (2, 9)]) (by decide +kernel) rfl ?_
              refine zwW_gs Ch6.1 (kd := 7) (bn := 2) (n := 9) (t := 0) (lo := 0) (hi := 400) (nx := 102) (by decide +kernel) ?_
              intro v15 ev15 lv15 uv15
              refine zwW_cm Ch6.1 (op := 60) (k' := 238) (n := 1) (kd := 7) (m := 9) (nx := 105) (r := 9) (tl := [(0, v15)]) (st' := []) (by decide +kernel) rfl (by decide +kernel) rfl (x238 h6 Ch6 v15 (by omega) (by omega)) ?_
              rintro x _ ⟨rfl, ⟨rfl, c16⟩ | ⟨rfl, c16⟩⟩
              · refine zwif_eq (q := 115) (nx := 108) (by decide +kernel) (fun c17 => ?_) (fun c17 => ?_)
                · exfalso; omega
                · refine zwW_p [(1, 0, 2)] (q := 109) (ls' := [(2, 9)]) (st' := [(2, 9)]) (by decide +kernel) rfl ?_
                  refine zwW_cmv Ch6.1 (op := 60) (k' := 239) (n := 0) (kd := 7) (m := 9) (nx := 112) (r := 9) (tl := []) (st' := []) (by decide +kernel) rfl (by decide +kernel) rfl (x239 h6 Ch6) ?_
                  rintro h18 ⟨Ch18, Qh18⟩
                  have Xh18 : zXR msx198 (0) (0) h h18 := Xh6.tr (c2 := 0) (s2 := 0) Qh18 (by decide +kernel) (by decide) (by decide)
                  refine zwW_p [(24, 160, 0), (0, 1, 0)] (q := 161) (ls' := [(2, 9)]) (st' := [(0, 1)]) (by decide +kernel) rfl ?_
                  refine zwW_ret (nx := 162) (a := 1) (b := 0) (by decide +kernel) rfl (Or.inr (Or.inl ⟨rfl, by omega⟩)) ?_
                  exact ⟨Ch18, Xh18.le (by decide) (by decide), by omega⟩
              · refine zwif_eq (q := 115) (nx := 108) (by decide +kernel) (fun c19 => ?_) (fun c19 => ?_)
                · refine zwW_p [(1, 0, 2), (0, -11, 2), (1, 0, 2)] (q := 119) (ls' := [(2, 9)]) (st' := [(2, 9), (2, -11), (2, 9)]) (by decide +kernel) rfl ?_
                  refine zwW_gc Ch6.1 (kd := 7) (bn := 1) (n := 9) (c := 10) (nx := 122) (by decide +kernel) ?_
                  refine zwW_p [(1, 0, 2)] (q := 123) (ls' := [(2, 9)]) (st' := [(2, 9), (2, 10), (2, -11), (2, 9)]) (by decide +kernel) rfl ?_
                  refine zwW_gs Ch6.1 (kd := 7) (bn := 2) (n := 9) (t := 0) (lo := 0) (hi := 400) (nx := 126) (by decide +kernel) ?_
                  intro v20 ev20 lv20 uv20
                  refine zwW_al Ch6.1 (a1 := 10) (a2 := 10) (kd := 20) (n := 400) (t := 0) (lo := -2147483648) (hi := 2147483647) (nx := 127) (by decide +kernel) ⟨by decide, by decide⟩ ⟨by omega, by omega⟩ ?_
                  intro v21 ev21 lv21 uv21
                  refine zwW_i2c (nx := 128) (by decide +kernel) ?_
                  refine zwW_cst (op := 60) (k' := 240) (n := 1) (nx := 131) (w := -11) (tl := [(0, (v21 % 65536))]) (st' := [(2, 9)]) (by decide +kernel) rfl (by decide +kernel) ⟨by omega, by omega⟩ rfl (m240 h6 (-11) (v21 % 65536) (by omega) (by omega)) ?_
                  rintro v22 _ ⟨rfl, f23, f24⟩
                  refine zwif_lt (q := 146) (nx := 134) (by decide +kernel) (fun c25 => ?_) (fun c25 => ?_)
                  · refine zwW_p [(0, 3, 0)] (q := 147) (ls' := [(2, 9)]) (st' := [(0, 3), (2, 9)]) (by decide +kernel) rfl ?_
                    refine zwW_ps Ch6.1 (kd := 7) (bn := 4) (n := 9) (lo := -2147483648) (hi := 2147483647) (nx := 150) (by decide +kernel) ⟨by decide, by decide⟩ ?_
                    intro h26 eh26 Ih26
                    have Ch26 : CI h26 := Ch6.wc eh26 Ih26 (by decide) (by decide)
                    have Qh26 : zXR [(9, 9, 4, 5)] 0 0 h6 h26 := zXR.wc eh26 rfl ⟨by decide, by decide, Or.inl (by decide)⟩ ⟨by decide, by decide⟩
                    have Xh26 : zXR msx198 (0) (0) h h26 := Xh6.tr (c2 := 0) (s2 := 0) Qh26 (by decide +kernel) (by decide) (by decide)
                    have th26_9_2 : fld h26 9 2 = fld h6 9 2 := Qh26.f (a1 := 9) (a2 := 9) (j1 := 2) (j2 := 3) (by decide +kernel) ⟨by decide, by decide⟩ ⟨by decide, by decide⟩ ⟨by decide, by decide⟩
                    refine zwW_p [(1, 0, 2), (12, 0, 0)] (q := 152) (ls' := [(2, 9)]) (st' := [(2, 9), (2, 9)]) (by decide +kernel) rfl ?_
                    refine zwW_gs Ch26.1 (kd := 7) (bn := 2) (n := 9) (t := 0) (lo := 0) (hi := 400) (nx := 155) (by decide +kernel) ?_
                    intro v27 ev27 lv27 uv27
                    refine zwW_p [(0, 1, 0)] (q := 156) (ls' := [(2, 9)]) (st' := [(0, 1), (0, v27), (2, 9)]) (by decide +kernel) rfl ?_
                    refine zwW_add (nx := 157) (by decide +kernel) ⟨by omega, by omega⟩ ?_
                    refine zwW_ps Ch26.1 (kd := 7) (bn := 2) (n := 9) (lo := 0) (hi := 400) (nx := 160) (by decide +kernel) ⟨by omega, by omega⟩ ?_
                    intro h28 eh28 Ih28
                    have Ch28 : CI h28 := Ch26.wc eh28 Ih28 (by decide) (by decide)
                    have Qh28 : zXR [(9, 9, 2, 3)] 0 0 h26 h28 := zXR.wc eh28 rfl ⟨by decide, by decide, Or.inl (by decide)⟩ ⟨by decide, by decide⟩
                    have Xh28 : zXR msx198 (0) (0) h h28 := Xh26.tr (c2 := 0) (s2 := 0) Qh28 (by decide +kernel) (by decide) (by decide)
                    have th28_9_2 : fld h28 9 2 = (v27 + 1) := by rw [eh28]; exact fld_wr_eq (Ch26.1.s (a1 := 9) (a2 := 9) (k := 7) (n := 9) (by decide +kernel) (by decide) (by decide)) (by decide)
                    refine zwW_p [(0, 1, 0)] (q := 161) (ls' := [(2, 9)]) (st' := [(0, 1)]) (by decide +kernel) rfl ?_
                    refine zwW_ret (nx := 162) (a := 1) (b := 0) (by decide +kernel) rfl (Or.inr (Or.inl ⟨rfl, by omega⟩)) ?_
                    exact ⟨Ch28, Xh28.le (by decide) (by decide), by omega⟩
                  · refine zwW_p [(1, 0, 2)] (q := 135) (ls' := [(2, 9)]) (st' := [(2, 9), (2, 9)]) (by decide +kernel) rfl ?_
                    refine zwW_gc Ch6.1 (kd := 7) (bn := 1) (n := 9) (c := 10) (nx := 138) (by decide +kernel) ?_
                    refine zwW_p [(1, 0, 2)] (q := 139) (ls' := [(2, 9)]) (st' := [(2, 9), (2, 10), (2, 9)]) (by decide +kernel) rfl ?_
                    refine zwW_gs Ch6.1 (kd := 7) (bn := 2) (n := 9) (t := 0) (lo := 0) (hi := 400) (nx := 142) (by decide +kernel) ?_
                    intro v29 ev29 lv29 uv29
                    refine zwW_al Ch6.1 (a1 := 10) (a2 := 10) (kd := 20) (n := 400) (t := 0) (lo := -2147483648) (hi := 2147483647) (nx := 143) (by decide +kernel) ⟨by decide, by decide⟩ ⟨by omega, by omega⟩ ?_
                    intro v30 ev30 lv30 uv30
                    refine zwW_p [(24, 147, 0)] (q := 147) (ls' := [(2, 9)]) (st' := [(0, v30), (2, 9)]) (by decide +kernel) rfl ?_
                    refine zwW_ps Ch6.1 (kd := 7) (bn := 4) (n := 9) (lo := -2147483648) (hi := 2147483647) (nx := 150) (by decide +kernel) ⟨by omega, by omega⟩ ?_
                    intro h31 eh31 Ih31
                    have Ch31 : CI h31 := Ch6.wc eh31 Ih31 (by decide) (by decide)
                    have Qh31 : zXR [(9, 9, 4, 5)] 0 0 h6 h31 := zXR.wc eh31 rfl ⟨by decide, by decide, Or.inl (by decide)⟩ ⟨by decide, by decide⟩
                    have Xh31 : zXR msx198 (0) (0) h h31 := Xh6.tr (c2 := 0) (s2 := 0) Qh31 (by decide +kernel) (by decide) (by decide)
                    have th31_9_2 : fld h31 9 2 = fld h6 9 2 := Qh31.f (a1 := 9) (a2 := 9) (j1 := 2) (j2 := 3) (by decide +kernel) ⟨by decide, by decide⟩ ⟨by decide, by decide⟩ ⟨by decide, by decide⟩
                    refine zwW_p [(1, 0, 2), (12, 0, 0)] (q := 152) (ls' := [(2, 9)]) (st' := [(2, 9), (2, 9)]) (by decide +kernel) rfl ?_
                    refine zwW_gs Ch31.1 (kd := 7) (bn := 2) (n := 9) (t := 0) (lo := 0) (hi := 400) (nx := 155) (by decide +kernel) ?_
                    intro v32 ev32 lv32 uv32
                    refine zwW_p [(0, 1, 0)] (q := 156) (ls' := [(2, 9)]) (st' := [(0, 1), (0, v32), (2, 9)]) (by decide +kernel) rfl ?_
                    refine zwW_add (nx := 157) (by decide +kernel) ⟨by omega, by omega⟩ ?_
                    refine zwW_ps Ch31.1 (kd := 7) (bn := 2) (n := 9) (lo := 0) (hi := 400) (nx := 160) (by decide +kernel) ⟨by omega, by omega⟩ ?_
                    intro h33 eh33 Ih33
                    have Ch33 : CI h33 := Ch31.wc eh33 Ih33 (by decide) (by decide)
                    have Qh33 : zXR [(9, 9, 2, 3)] 0 0 h31 h33 := zXR.wc eh33 rfl ⟨by decide, by decide, Or.inl (by decide)⟩ ⟨by decide, by decide⟩
                    have Xh33 : zXR msx198 (0) (0) h h33 := Xh31.tr (c2 := 0) (s2 := 0) Qh33 (by decide +kernel) (by decide) (by decide)
                    have th33_9_2 : fld h33 9 2 = (v32 + 1) := by rw [eh33]; exact fld_wr_eq (Ch31.1.s (a1 := 9) (a2 := 9) (k := 7) (n := 9) (by decide +kernel) (by decide) (by decide)) (by decide)
                    refine zwW_p [(0, 1, 0)] (q := 161) (ls' := [(2, 9)]) (st' := [(0, 1)]) (by decide +kernel) rfl ?_
                    refine zwW_ret (nx := 162) (a := 1) (b := 0) (by decide +kernel) rfl (Or.inr (Or.inl ⟨rfl, by omega⟩)) ?_
                    exact ⟨Ch33, Xh33.le (by decide) (by decide), by omega⟩
                · exfalso; omega
            · exfalso; omega
        · refine zwW_p [(1, 0, 2), (0, 0, 0)] (q := 73) (ls' := [(2, 9)]) (st' := [(0, 0), (2, 9)]) (by decide +kernel) rfl ?_
          refine zwW_ps Ch6.1 (kd := 7) (bn := 4) (n := 9) (lo := -2147483648) (hi := 2147483647) (nx := 76) (by decide +kernel) ⟨by decide, by decide⟩ ?_
          intro h34 eh34 Ih34
          have Ch34 : CI h34 := Ch6.wc eh34 Ih34 (by decide) (by decide)
          have Qh34 : zXR [(9, 9, 4, 5)] 0 0 h6 h34 := zXR.wc eh34 rfl ⟨by decide, by decide, Or.inl (by decide)⟩ ⟨by decide, by decide⟩
          have Xh34 : zXR msx198 (0) (0) h h34 := Xh6.tr (c2 := 0) (s2 := 0) Qh34 (by decide +kernel) (by decide) (by decide)
          have th34_9_2 : fld h34 9 2 = fld h6 9 2 := Qh34.f (a1 := 9) (a2 := 9) (j1 := 2) (j2 := 3) (by decide +kernel) ⟨by decide, by decide⟩ ⟨by decide, by decide⟩ ⟨by decide, by decide⟩
          refine zwW_p [(24, 160, 0), (0, 1, 0)] (q := 161) (ls' := [(2, 9)]) (st' := [(0, 1)]) (by decide +kernel) rfl ?_
          refine zwW_ret (nx := 162) (a := 1) (b := 0) (by decide +kernel) rfl (Or.inr (Or.inl ⟨rfl, by omega⟩)) ?_
          exact ⟨Ch34, Xh34.le (by decide) (by decide), by omega⟩
      · refine zwW_p [(1, 0, 2)] (q := 12) (ls' := [(2, 9)]) (st' := [(2, 9)]) (by decide +kernel) rfl ?_
        refine zwW_gc ChL1.1 (kd := 7) (bn := 1) (n := 9) (c := 10) (nx := 15) (by decide +kernel) ?_
        refine zwW_p [(1, 0, 2)] (q := 16) (ls' := [(2, 9)]) (st' := [(2, 9), (2, 10)]) (by decide +kernel) rfl ?_
        refine zwW_gs ChL1.1 (kd := 7) (bn := 2) (n := 9) (t := 0) (lo := 0) (hi := 400) (nx := 19) (by decide +kernel) ?_
        intro v35 ev35 lv35 uv35
        refine zwW_al ChL1.1 (a1 := 10) (a2 := 10) (kd := 20) (n := 400) (t := 0) (lo := -2147483648) (hi := 2147483647) (nx := 20) (by decide +kernel) ⟨by decide, by decide⟩ ⟨by omega, by omega⟩ ?_
        intro v36 ev36 lv36 uv36
        refine zwW_p [(0, 32, 0)] (q := 22) (ls' := [(2, 9)]) (st' := [(0, 32), (0, v36)]) (by decide +kernel) rfl ?_
        refine zwic_eq (q := 39) (nx := 25) (by decide +kernel) (fun c37 => ?_) (fun c37 => ?_)
        · refine zwW_p [(1, 0, 2), (12, 0, 0)] (q := 41) (ls' := [(2, 9)]) (st' := [(2, 9), (2, 9)]) (by decide +kernel) rfl ?_
          refine zwW_gs ChL1.1 (kd := 7) (bn := 2) (n := 9) (t := 0) (lo := 0) (hi := 400) (nx := 44) (by decide +kernel) ?_
          intro v38 ev38 lv38 uv38
          refine zwW_p [(0, 1, 0)] (q := 45) (ls' := [(2, 9)]) (st' := [(0, 1), (0, v38), (2, 9)]) (by decide +kernel) rfl ?_
          refine zwW_add (nx := 46) (by decide +kernel) ⟨by omega, by omega⟩ ?_
          refine zwW_ps ChL1.1 (kd := 7) (bn := 2) (n := 9) (lo := 0) (hi := 400) (nx := 49) (by decide +kernel) ⟨by omega, by omega⟩ ?_
          intro h39 eh39 Ih39
          have Ch39 : CI h39 := ChL1.wc eh39 Ih39 (by decide) (by decide)
          have Qh39 : zXR [(9, 9, 2, 3)] 0 0 hL1 h39 := zXR.wc eh39 rfl ⟨by decide, by decide, Or.inl (by decide)⟩ ⟨by decide, by decide⟩
          have Xh39 : zXR msx198 (0) (0) h h39 := XhL1.tr (c2 := 0) (s2 := 0) Qh39 (by decide +kernel) (by decide) (by decide)
          have th39_9_2 : fld h39 9 2 = (v38 + 1) := by rw [eh39]; exact fld_wr_eq (ChL1.1.s (a1 := 9) (a2 := 9) (k := 7) (n := 9) (by decide +kernel) (by decide) (by decide)) (by decide)
          refine zwW_p [(24, 0, 0)] (q := 0) (ls' := [(2, 9)]) (st' := []) (by decide +kernel) rfl ?_
          exact IHL1 ((400 - fld h39 9 2)).toNat (by omega) h39 rfl Ch39 (Xh39.le (by decide) (by decide))
        · refine zwW_p [(1, 0, 2)] (q := 26) (ls' := [(2, 9)]) (st' := [(2, 9)]) (by decide +kernel) rfl ?_
          refine zwW_gc ChL1.1 (kd := 7) (bn := 1) (n := 9) (c := 10) (nx := 29) (by decide +kernel) ?_
          refine zwW_p [(1, 0, 2)] (q := 30) (ls' := [(2, 9)]) (st' := [(2, 9), (2, 10)]) (by decide +kernel) rfl ?_
          refine zwW_gs ChL1.1 (kd := 7) (bn := 2) (n := 9) (t := 0) (lo := 0) (hi := 400) (nx := 33) (by decide +kernel) ?_
          intro v40 ev40 lv40 uv40
          refine zwW_al ChL1.1 (a1 := 10) (a2 := 10) (kd := 20) (n := 400) (t := 0) (lo := -2147483648) (hi := 2147483647) (nx := 34) (by decide +kernel) ⟨by decide, by decide⟩ ⟨by omega, by omega⟩ ?_
          intro v41 ev41 lv41 uv41
          refine zwW_p [(0, 10, 0)] (q := 36) (ls' := [(2, 9)]) (st' := [(0, 10), (0, v41)]) (by decide +kernel) rfl ?_
          refine zwic_ne (q := 52) (nx := 39) (by decide +kernel) (fun c42 => ?_) (fun c42 => ?_)
          · refine zwW_p [(1, 0, 2), (1, 0, 2)] (q := 54) (ls' := [(2, 9)]) (st' := [(2, 9), (2, 9)]) (by decide +kernel) rfl ?_
            refine zwW_gs ChL1.1 (kd := 7) (bn := 2) (n := 9) (t := 0) (lo := 0) (hi := 400) (nx := 57) (by decide +kernel) ?_
            intro v43 ev43 lv43 uv43
            refine zwW_ps ChL1.1 (kd := 7) (bn := 3) (n := 9) (lo := 0) (hi := 400) (nx := 60) (by decide +kernel) ⟨by omega, by omega⟩ ?_
            intro h44 eh44 Ih44
            have Ch44 : CI h44 := ChL1.wc eh44 Ih44 (by decide) (by decide)
            have Qh44 : zXR [(9, 9, 3, 4)] 0 0 hL1 h44 := zXR.wc eh44 rfl ⟨by decide, by decide, Or.inl (by decide)⟩ ⟨by decide, by decide⟩
            have Xh44 : zXR msx198 (0) (0) h h44 := XhL1.tr (c2 := 0) (s2 := 0) Qh44 (by decide +kernel) (by decide) (by decide)
            have th44_9_2 : fld h44 9 2 = fld hL1 9 2 := Qh44.f (a1 := 9) (a2 := 9) (j1 := 2) (j2 := 3) (by decide +kernel) ⟨by decide, by decide⟩ ⟨by decide, by decide⟩ ⟨by decide, by decide⟩
            refine zwW_p [(1, 0, 2)] (q := 61) (ls' := [(2, 9)]) (st' := [(2, 9)]) (by decide +kernel) rfl ?_
            refine zwW_gs Ch44.1 (kd := 7) (bn := 2) (n := 9) (t := 0) (lo := 0) (hi := 400) (nx := 64) (by decide +kernel) ?_
            intro v45 ev45 lv45 uv45
            refine zwW_p [(1, 0, 2)] (q := 65) (ls' := [(2, 9)]) (st' := [(2, 9), (0, v45)]) (by decide +kernel) rfl ?_
            refine zwW_gs Ch44.1 (kd := 7) (bn := 0) (n := 9) (t := 0) (lo := 0) (hi := 400) (nx := 68) (by decide +kernel) ?_
            intro v46 ev46 lv46 uv46
            refine zwic_lt (q := 79) (nx := 71) (by decide +kernel) (fun c47 => ?_) (fun c47 => ?_)
            · refine zwW_p [(1, 0, 2), (1, 0, 2)] (q := 81) (ls' := [(2, 9)]) (st' := [(2, 9), (2, 9)]) (by decide +kernel) rfl ?_
              refine zwW_gs Ch44.1 (kd := 7) (bn := 2) (n := 9) (t := 0) (lo := 0) (hi := 400) (nx := 84) (by decide +kernel) ?_
              intro v48 ev48 lv48 uv48
              refine zwW_cm Ch44.1 (op := 60) (k' := 236) (n := 1) (kd := 7) (m := 9) (nx := 87) (r := 9) (tl := [(0, v48)]) (st' := []) (by decide +kernel) rfl (by decide +kernel) rfl (x236 h44 Ch44 v48 (by omega) (by omega)) ?_
              rintro x _ ⟨rfl, ⟨rfl, c49⟩ | ⟨rfl, c49⟩⟩
              · refine zwif_eq (q := 97) (nx := 90) (by decide +kernel) (fun c50 => ?_) (fun c50 => ?_)
                · exfalso; omega
                · refine zwW_p [(1, 0, 2)] (q := 91) (ls' := [(2, 9)]) (st' := [(2, 9)]) (by decide +kernel) rfl ?_
                  refine zwW_cmv Ch44.1 (op := 60) (k' := 237) (n := 0) (kd := 7) (m := 9) (nx := 94) (r := 9) (tl := []) (st' := []) (by decide +kernel) rfl (by decide +kernel) rfl (x237 h44 Ch44) ?_
                  rintro h51 ⟨Ch51, Qh51⟩
                  have Xh51 : zXR msx198 (0) (0) h h51 := Xh44.tr (c2 := 0) (s2 := 0) Qh51 (by decide +kernel) (by decide) (by decide)
                  refine zwW_p [(24, 160, 0), (0, 1, 0)] (q := 161) (ls' := [(2, 9)]) (st' := [(0, 1)]) (by decide +kernel) rfl ?_
                  refine zwW_ret (nx := 162) (a := 1) (b := 0) (by decide +kernel) rfl (Or.inr (Or.inl ⟨rfl, by omega⟩)) ?_
                  exact ⟨Ch51, Xh51.le (by decide) (by decide), by omega⟩
              · refine zwif_eq (q := 97) (nx := 90) (by decide +kernel) (fun c52 => ?_) (fun c52 => ?_)
                · refine zwW_p [(1, 0, 2), (1, 0, 2)] (q := 99) (ls' := [(2, 9)]) (st' := [(2, 9), (2, 9)]) (by decide +kernel) rfl ?_
                  refine zwW_gs Ch44.1 (kd := 7) (bn := 2) (n := 9) (t := 0) (lo := 0) (hi := 400) (nx := 102) (by decide +kernel) ?_
                  intro v53 ev53 lv53 uv53
                  refine zwW_cm Ch44.1 (op := 60) (k' := 238) (n := 1) (kd := 7) (m := 9) (nx := 105) (r := 9) (tl := [(0, v53)]) (st' := []) (by decide +kernel) rfl (by decide +kernel) rfl (x238 h44 Ch44 v53 (by omega) (by omega)) ?_
                  rintro x _ ⟨rfl, ⟨rfl, c54⟩ | ⟨rfl, c54⟩⟩
                  · refine zwif_eq (q := 115) (nx := 108) (by decide +kernel) (fun c55 => ?_) (fun c55 => ?_)
                    · exfalso; omega
                    · refine zwW_p [(1, 0, 2)] (q := 109) (ls' := [(2, 9)]) (st' := [(2, 9)]) (by decide +kernel) rfl ?_
                      refine zwW_cmv Ch44.1 (op := 60) (k' := 239) (n := 0) (kd := 7) (m := 9) (nx := 112) (r := 9) (tl := []) (st' := []) (by decide +kernel) rfl (by decide +kernel) rfl (x239 h44 Ch44) ?_
                      rintro h56 ⟨Ch56, Qh56⟩
                      have Xh56 : zXR msx198 (0) (0) h h56 := Xh44.tr (c2 := 0) (s2 := 0) Qh56 (by decide +kernel) (by decide) (by decide)
                      refine zwW_p [(24, 160, 0), (0, 1, 0)] (q := 161) (ls' := [(2, 9)]) (st' := [(0, 1)]) (by decide +kernel) rfl ?_
                      refine zwW_ret (nx := 162) (a := 1) (b := 0) (by decide +kernel) rfl (Or.inr (Or.inl ⟨rfl, by omega⟩)) ?_
                      exact ⟨Ch56, Xh56.le (by decide) (by decide), by omega⟩
                  · refine zwif_eq (q := 115) (nx := 108) (by decide +kernel) (fun c57 => ?_) (fun c57 => ?_)
                    · refine zwW_p [(1, 0, 2), (0, -11, 2), (1, 0, 2)] (q := 119) (ls' := [(2, 9)]) (st' := [(2, 9), (2, -11), (2, 9)]) (by decide +kernel) rfl ?_
                      refine zwW_gc Ch44.1 (kd := 7) (bn := 1) (n := 9) (c := 10) (nx := 122) (by decide +kernel) ?_
                      refine zwW_p [(1, 0, 2)] (q := 123) (ls' := [(2, 9)]) (st' := [(2, 9), (2, 10), (2, -11), (2, 9)]) (by decide +kernel) rfl ?_
                      refine zwW_gs Ch44.1 (kd := 7) (bn := 2) (n := 9) (t := 0) (lo := 0) (hi := 400) (nx := 126) (by decide +kernel) ?_
                      intro v58 ev58 lv58 uv58
                      refine zwW_al Ch44.1 (a1 := 10) (a2 := 10) (kd := 20) (n := 400) (t := 0) (lo := -2147483648) (hi := 2147483647) (nx := 127) (by decide +kernel) ⟨by decide, by decide⟩ ⟨by omega, by omega⟩ ?_
                      intro v59 ev59 lv59 uv59
                      refine zwW_i2c (nx := 128) (by decide +kernel) ?_
                      refine zwW_cst (op := 60) (k' := 240) (n := 1) (nx := 131) (w := -11) (tl := [(0, (v59 % 65536))]) (st' := [(2, 9)]) (by decide +kernel) rfl (by decide +kernel) ⟨by omega, by omega⟩ rfl (m240 h44 (-11) (v59 % 65536) (by omega) (by omega)) ?_
                      rintro v60 _ ⟨rfl, f61, f62⟩
                      refine zwif_lt (q := 146) (nx := 134) (by decide +kernel) (fun c63 => ?_) (fun c63 => ?_)
                      · refine zwW_p [(0, 3, 0)] (q := 147) (ls' := [(2, 9)]) (st' := [(0, 3), (2, 9)]) (by decide +kernel) rfl ?_
                        refine zwW_ps Ch44.1 (kd := 7) (bn := 4) (n := 9) (lo := -2147483648) (hi := 2147483647) (nx := 150) (by decide +kernel) ⟨by decide, by decide⟩ ?_
                        intro h64 eh64 Ih64
                        have Ch64 : CI h64 := Ch44.wc eh64 Ih64 (by decide) (by decide)
                        have Qh64 : zXR [(9, 9, 4, 5)] 0 0 h44 h64 := zXR.wc eh64 rfl ⟨by decide, by decide, Or.inl (by decide)⟩ ⟨by decide, by decide⟩
                        have Xh64 : zXR msx198 (0) (0) h h64 := Xh44.tr (c2 := 0) (s2 := 0) Qh64 (by decide +kernel) (by decide) (by decide)
                        have th64_9_2 : fld h64 9 2 = fld h44 9 2 := Qh64.f (a1 := 9) (a2 := 9) (j1 := 2) (j2 := 3) (by decide +kernel) ⟨by decide, by decide⟩ ⟨by decide, by decide⟩ ⟨by decide, by decide⟩
                        refine zwW_p [(1, 0, 2), (12, 0, 0)] (q := 152) (ls' := [(2, 9)]) (st' := [(2, 9), (2, 9)]) (by decide +kernel) rfl ?_
                        refine zwW_gs Ch64.1 (kd := 7) (bn := 2) (n := 9) (t := 0) (lo := 0) (hi := 400) (nx := 155) (by decide +kernel) ?_
                        intro v65 ev65 lv65 uv65
                        refine zwW_p [(0, 1, 0)] (q := 156) (ls' := [(2, 9)]) (st' := [(0, 1), (0, v65), (2, 9)]) (by decide +kernel) rfl ?_
                        refine zwW_add (nx := 157) (by decide +kernel) ⟨by omega, by omega⟩ ?_
                        refine zwW_ps Ch64.1 (kd := 7) (bn := 2) (n := 9) (lo := 0) (hi := 400) (nx := 160) (by decide +kernel) ⟨by omega, by omega⟩ ?_
                        intro h66 eh66 Ih66
                        have Ch66 : CI h66 := Ch64.wc eh66 Ih66 (by decide) (by decide)
                        have Qh66 : zXR [(9, 9, 2, 3)] 0 0 h64 h66 := zXR.wc eh66 rfl ⟨by decide, by decide, Or.inl (by decide)⟩ ⟨by decide, by decide⟩
                        have Xh66 : zXR msx198 (0) (0) h h66 := Xh64.tr (c2 := 0) (s2 := 0) Qh66 (by decide +kernel) (by decide) (by decide)
                        have th66_9_2 : fld h66 9 2 = (v65 + 1) := by rw [eh66]; exact fld_wr_eq (Ch64.1.s (a1 := 9) (a2 := 9) (k := 7) (n := 9) (by decide +kernel) (by decide) (by decide)) (by decide)
                        refine zwW_p [(0, 1, 0)] (q := 161) (ls' := [(2, 9)]) (st' := [(0, 1)]) (by decide +kernel) rfl ?_
                        refine zwW_ret (nx := 162) (a := 1) (b := 0) (by decide +kernel) rfl (Or.inr (Or.inl ⟨rfl, by omega⟩)) ?_
                        exact ⟨Ch66, Xh66.le (by decide) (by decide), by omega⟩
                      · refine zwW_p [(1, 0, 2)] (q := 135) (ls' := [(2, 9)]) (st' := [(2, 9), (2, 9)]) (by decide +kernel) rfl ?_
                        refine zwW_gc Ch44.1 (kd := 7) (bn := 1) (n := 9) (c := 10) (nx := 138) (by decide +kernel) ?_
                        refine zwW_p [(1, 0, 2)] (q := 139) (ls' := [(2, 9)]) (st' := [(2, 9), (2, 10), (2, 9)]) (by decide +kernel) rfl ?_
                        refine zwW_gs Ch44.1 (kd := 7) (bn := 2) (n := 9) (t := 0) (lo := 0) (hi := 400) (nx := 142) (by decide +kernel) ?_
                        intro v67 ev67 lv67 uv67
                        refine zwW_al Ch44.1 (a1 := 10) (a2 := 10) (kd := 20) (n := 400) (t := 0) (lo := -2147483648) (hi := 2147483647) (nx := 143) (by decide +kernel) ⟨by decide, by decide⟩ ⟨by omega, by omega⟩ ?_
                        intro v68 ev68 lv68 uv68
                        refine zwW_p [(24, 147, 0)] (q := 147) (ls' := [(2, 9)]) (st' := [(0, v68), (2, 9)]) (by decide +kernel) rfl ?_
                        refine zwW_ps Ch44.1 (kd := 7) (bn := 4) (n := 9) (lo := -2147483648) (hi := 2147483647) (nx := 150) (by decide +kernel) ⟨by omega, by omega⟩ ?_
                        intro h69 eh69 Ih69
                        have Ch69 : CI h69 := Ch44.wc eh69 Ih69 (by decide) (by decide)
                        have Qh69 : zXR [(9, 9, 4, 5)] 0 0 h44 h69 := zXR.wc eh69 rfl ⟨by decide, by decide, Or.inl (by decide)⟩ ⟨by decide, by decide⟩
                        have Xh69 : zXR msx198 (0) (0) h h69 := Xh44.tr (c2 := 0) (s2 := 0) Qh69 (by decide +kernel) (by decide) (by decide)
                        have th69_9_2 : fld h69 9 2 = fld h44 9 2 := Qh69.f (a1 := 9) (a2 := 9) (j1 := 2) (j2 := 3) (by decide +kernel) ⟨by decide, by decide⟩ ⟨by decide, by decide⟩ ⟨by decide, by decide⟩
                        refine zwW_p [(1, 0, 2), (12, 0, 0)] (q := 152) (ls' := [(2, 9)]) (st' := [(2, 9), (2, 9)]) (by decide +kernel) rfl ?_
                        refine zwW_gs Ch69.1 (kd := 7) (bn := 2) (n := 9) (t := 0) (lo := 0) (hi := 400) (nx := 155) (by decide +kernel) ?_
                        intro v70 ev70 lv70 uv70
                        refine zwW_p [(0, 1, 0)] (q := 156) (ls' := [(2, 9)]) (st' := [(0, 1), (0, v70), (2, 9)]) (by decide +kernel) rfl ?_
                        refine zwW_add (nx := 157) (by decide +kernel) ⟨by omega, by omega⟩ ?_
                        refine zwW_ps Ch69.1 (kd := 7) (bn := 2) (n := 9) (lo := 0) (hi := 400) (nx := 160) (by decide +kernel) ⟨by omega, by omega⟩ ?_
                        intro h71 eh71 Ih71
                        have Ch71 : CI h71 := Ch69.wc eh71 Ih71 (by decide) (by decide)
                        have Qh71 : zXR [(9, 9, 2, 3)] 0 0 h69 h71 := zXR.wc eh71 rfl ⟨by decide, by decide, Or.inl (by decide)⟩ ⟨by decide, by decide⟩
                        have Xh71 : zXR msx198 (0) (0) h h71 := Xh69.tr (c2 := 0) (s2 := 0) Qh71 (by decide +kernel) (by decide) (by decide)
                        have th71_9_2 : fld h71 9 2 = (v70 + 1) := by rw [eh71]; exact fld_wr_eq (Ch69.1.s (a1 := 9) (a2 := 9) (k := 7) (n := 9) (by decide +kernel) (by decide) (by decide)) (by decide)
                        refine zwW_p [(0, 1, 0)] (q := 161) (ls' := [(2, 9)]) (st' := [(0, 1)]) (by decide +kernel) rfl ?_
                        refine zwW_ret (nx := 162) (a := 1) (b := 0) (by decide +kernel) rfl (Or.inr (Or.inl ⟨rfl, by omega⟩)) ?_
                        exact ⟨Ch71, Xh71.le (by decide) (by decide), by omega⟩
                    · exfalso; omega
                · exfalso; omega
            · refine zwW_p [(1, 0, 2), (0, 0, 0)] (q := 73) (ls' := [(2, 9)]) (st' := [(0, 0), (2, 9)]) (by decide +kernel) rfl ?_
              refine zwW_ps Ch44.1 (kd := 7) (bn := 4) (n := 9) (lo := -2147483648) (hi := 2147483647) (nx := 76) (by decide +kernel) ⟨by decide, by decide⟩ ?_
              intro h72 eh72 Ih72
              have Ch72 : CI h72 := Ch44.wc eh72 Ih72 (by decide) (by decide)
              have Qh72 : zXR [(9, 9, 4, 5)] 0 0 h44 h72 := zXR.wc eh72 rfl ⟨by decide, by decide, Or.inl (by decide)⟩ ⟨by decide, by decide⟩
              have Xh72 : zXR msx198 (0) (0) h h72 := Xh44.tr (c2 := 0) (s2 := 0) Qh72 (by decide +kernel) (by decide) (by decide)
              have th72_9_2 : fld h72 9 2 = fld h44 9 2 := Qh72.f (a1 := 9) (a2 := 9) (j1 := 2) (j2 := 3) (by decide +kernel) ⟨by decide, by decide⟩ ⟨by decide, by decide⟩ ⟨by decide, by decide⟩
              refine zwW_p [(24, 160, 0), (0, 1, 0)] (q := 161) (ls' := [(2, 9)]) (st' := [(0, 1)]) (by decide +kernel) rfl ?_
              refine zwW_ret (nx := 162) (a := 1) (b := 0) (by decide +kernel) rfl (Or.inr (Or.inl ⟨rfl, by omega⟩)) ?_
              exact ⟨Ch72, Xh72.le (by decide) (by decide), by omega⟩
          · refine zwW_p [(1, 0, 2), (12, 0, 0)] (q := 41) (ls' := [(2, 9)]) (st' := [(2, 9), (2, 9)]) (by decide +kernel) rfl ?_
            refine zwW_gs ChL1.1 (kd := 7) (bn := 2) (n := 9) (t := 0) (lo := 0) (hi := 400) (nx := 44) (by decide +kernel) ?_
            intro v73 ev73 lv73 uv73
            refine zwW_p [(0, 1, 0)] (q := 45) (ls' := [(2, 9)]) (st' := [(0, 1), (0, v73), (2, 9)]) (by decide +kernel) rfl ?_
            refine zwW_add (nx := 46) (by decide +kernel) ⟨by omega, by omega⟩ ?_
            refine zwW_ps ChL1.1 (kd := 7) (bn := 2) (n := 9) (lo := 0) (hi := 400) (nx := 49) (by decide +kernel) ⟨by omega, by omega⟩ ?_
            intro h74 eh74 Ih74
            have Ch74 : CI h74 := ChL1.wc eh74 Ih74 (by decide) (by decide)
            have Qh74 : zXR [(9, 9, 2, 3)] 0 0 hL1 h74 := zXR.wc eh74 rfl ⟨by decide, by decide, Or.inl (by decide)⟩ ⟨by decide, by decide⟩
            have Xh74 : zXR msx198 (0) (0) h h74 := XhL1.tr (c2 := 0) (s2 := 0) Qh74 (by decide +kernel) (by decide) (by decide)
            have th74_9_2 : fld h74 9 2 = (v73 + 1) := by rw [eh74]; exact fld_wr_eq (ChL1.1.s (a1 := 9) (a2 := 9) (k := 7) (n := 9) (by decide +kernel) (by decide) (by decide)) (by decide)
            refine zwW_p [(24, 0, 0)] (q := 0) (ls' := [(2, 9)]) (st' := []) (by decide +kernel) rfl ?_
            exact IHL1 ((400 - fld h74 9 2)).toNat (by omega) h74 rfl Ch74 (Xh74.le (by decide) (by decide))
  exact L1 _ h rfl C (X.le (by decide) (by decide))
-- WheelLand$Reader.factor(I)Z
theorem x280 {sc : List Int} (a : Int) (D0 : Nat) (pa : 0 ≤ a ∧ a ≤ 8) (HS : a < 8 → zKX sc D0 241 (a + 1)) : zKX sc (D0 + 20) 280 a := by
  intro h C
  refine zwC_of (D := D0 + 19) 2 (by decide +kernel) rfl (ls := [(2, 9), (0, a)]) rfl ?_
  have X : zXR msxK 0 0 h h := zXR.rf _ _
  refine zwW_p [(1, 0, 2)] (q := 1) (ls' := [(2, 9), (0, a)]) (st' := [(2, 9)]) (by decide +kernel) rfl ?_
  refine zwW_gs C.1 (kd := 7) (bn := 4) (n := 9) (t := 0) (lo := -2147483648) (hi := 2147483647) (nx := 4) (by decide +kernel) ?_
  intro v1 ev1 lv1 uv1
  refine zwW_p [(0, 2, 0)] (q := 5) (ls' := [(2, 9), (0, a)]) (st' := [(0, 2), (0, v1)]) (by decide +kernel) rfl ?_
  refine zwic_ne (q := 42) (nx := 8) (by decide +kernel) (fun c2 => ?_) (fun c2 => ?_)
  · refine zwW_p [(1, 0, 2)] (q := 43) (ls' := [(2, 9), (0, a)]) (st' := [(2, 9)]) (by decide +kernel) rfl ?_
    refine zwW_gs C.1 (kd := 7) (bn := 4) (n := 9) (t := 0) (lo := -2147483648) (hi := 2147483647) (nx := 46) (by decide +kernel) ?_
    intro v3 ev3 lv3 uv3
    refine zwW_p [(0, 1, 0)] (q := 47) (ls' := [(2, 9), (0, a)]) (st' := [(0, 1), (0, v3)]) (by decide +kernel) rfl ?_
    refine zwic_ne (q := 89) (nx := 50) (by decide +kernel) (fun c4 => ?_) (fun c4 => ?_)
    · refine zwW_p [(1, 1, 0), (0, 8, 0)] (q := 92) (ls' := [(2, 9), (0, a)]) (st' := [(0, 8), (0, a)]) (by decide +kernel) rfl ?_
      refine zwic_ge (q := 141) (nx := 95) (by decide +kernel) (fun c5 => ?_) (fun c5 => ?_)
      · refine zwW_p [(0, 0, 0)] (q := 142) (ls' := [(2, 9), (0, a)]) (st' := [(0, 0)]) (by decide +kernel) rfl ?_
        refine zwW_ret (nx := 143) (a := 1) (b := 0) (by decide +kernel) rfl (Or.inr (Or.inl ⟨rfl, by omega⟩)) ?_
        exact ⟨C, X.le (by decide) (by decide), by omega⟩
      · refine zwW_p [(1, 0, 2)] (q := 96) (ls' := [(2, 9), (0, a)]) (st' := [(2, 9)]) (by decide +kernel) rfl ?_
        refine zwW_gs C.1 (kd := 7) (bn := 4) (n := 9) (t := 0) (lo := -2147483648) (hi := 2147483647) (nx := 99) (by decide +kernel) ?_
        intro v6 ev6 lv6 uv6
        refine zwW_p [(0, 40, 0)] (q := 101) (ls' := [(2, 9), (0, a)]) (st' := [(0, 40), (0, v6)]) (by decide +kernel) rfl ?_
        refine zwic_ne (q := 141) (nx := 104) (by decide +kernel) (fun c7 => ?_) (fun c7 => ?_)
        · refine zwW_p [(0, 0, 0)] (q := 142) (ls' := [(2, 9), (0, a)]) (st' := [(0, 0)]) (by decide +kernel) rfl ?_
          refine zwW_ret (nx := 143) (a := 1) (b := 0) (by decide +kernel) rfl (Or.inr (Or.inl ⟨rfl, by omega⟩)) ?_
          exact ⟨C, X.le (by decide) (by decide), by omega⟩
        · refine zwW_p [(1, 0, 2)] (q := 105) (ls' := [(2, 9), (0, a)]) (st' := [(2, 9)]) (by decide +kernel) rfl ?_
          refine zwW_cm C.1 (op := 60) (k' := 198) (n := 0) (kd := 7) (m := 9) (nx := 108) (r := 9) (tl := []) (st' := []) (by decide +kernel) rfl (by decide +kernel) (Nat.ble_eq_true_of_le (by omega)) (x198 h C) ?_
          rintro v9 h10 ⟨Ch10, Qh10, f8⟩
          have Xh10 : zXR msxK (0) (0) h h10 := X.tr (c2 := 0) (s2 := 0) Qh10 (by decide +kernel) (by decide) (by decide)
          refine zwif_eq (q := 141) (nx := 111) (by decide +kernel) (fun c11 => ?_) (fun c11 => ?_)
          · refine zwW_p [(0, 0, 0)] (q := 142) (ls' := [(2, 9), (0, a)]) (st' := [(0, 0)]) (by decide +kernel) rfl ?_
            refine zwW_ret (nx := 143) (a := 1) (b := 0) (by decide +kernel) rfl (Or.inr (Or.inl ⟨rfl, by omega⟩)) ?_
            exact ⟨Ch10, Xh10.le (by decide) (by decide), by omega⟩
          · refine zwW_p [(1, 0, 2), (1, 1, 0), (0, 1, 0)] (q := 114) (ls' := [(2, 9), (0, a)]) (st' := [(0, 1), (0, a), (2, 9)]) (by decide +kernel) rfl ?_
            refine zwW_add (nx := 115) (by decide +kernel) ⟨by omega, by omega⟩ ?_
            refine zwW_cm Ch10.1 (op := 60) (k' := 241) (n := 1) (kd := 7) (m := 9) (nx := 118) (r := 9) (tl := [(0, (a + 1))]) (st' := []) (by decide +kernel) rfl (by decide +kernel) (Nat.ble_eq_true_of_le (by omega)) (HS (by omega) h10 Ch10) ?_
            rintro v13 h14 ⟨Ch14, Qh14, f12⟩
            have Xh14 : zXR msxK (0) (0) h h14 := Xh10.tr (c2 := 0) (s2 := 0) Qh14 (by decide +kernel) (by decide) (by decide)
            refine zwif_eq (q := 141) (nx := 121) (by decide +kernel) (fun c15 => ?_) (fun c15 => ?_)
            · refine zwW_p [(0, 0, 0)] (q := 142) (ls' := [(2, 9), (0, a)]) (st' := [(0, 0)]) (by decide +kernel) rfl ?_
              refine zwW_ret (nx := 143) (a := 1) (b := 0) (by decide +kernel) rfl (Or.inr (Or.inl ⟨rfl, by omega⟩)) ?_
              exact ⟨Ch14, Xh14.le (by decide) (by decide), by omega⟩
            · refine zwW_p [(1, 0, 2)] (q := 122) (ls' := [(2, 9), (0, a)]) (st' := [(2, 9)]) (by decide +kernel) rfl ?_
              refine zwW_gs Ch14.1 (kd := 7) (bn := 4) (n := 9) (t := 0) (lo := -2147483648) (hi := 2147483647) (nx := 125) (by decide +kernel) ?_
              intro v16 ev16 lv16 uv16
              refine zwW_p [(0, 41, 0)] (q := 127) (ls' := [(2, 9), (0, a)]) (st' := [(0, 41), (0, v16)]) (by decide +kernel) rfl ?_
              refine zwic_ne (q := 141) (nx := 130) (by decide +kernel) (fun c17 => ?_) (fun c17 => ?_)
              · refine zwW_p [(0, 0, 0)] (q := 142) (ls' := [(2, 9), (0, a)]) (st' := [(0, 0)]) (by decide +kernel) rfl ?_
                refine zwW_ret (nx := 143) (a := 1) (b := 0) (by decide +kernel) rfl (Or.inr (Or.inl ⟨rfl, by omega⟩)) ?_
                exact ⟨Ch14, Xh14.le (by decide) (by decide), by omega⟩
              · refine zwW_p [(1, 0, 2)] (q := 131) (ls' := [(2, 9), (0, a)]) (st' := [(2, 9)]) (by decide +kernel) rfl ?_
                refine zwW_cm Ch14.1 (op := 60) (k' := 198) (n := 0) (kd := 7) (m := 9) (nx := 134) (r := 9) (tl := []) (st' := []) (by decide +kernel) rfl (by decide +kernel) (Nat.ble_eq_true_of_le (by omega)) (x198 h14 Ch14) ?_
                rintro v19 h20 ⟨Ch20, Qh20, f18⟩
                have Xh20 : zXR msxK (0) (0) h h20 := Xh14.tr (c2 := 0) (s2 := 0) Qh20 (by decide +kernel) (by decide) (by decide)
                refine zwif_eq (q := 141) (nx := 137) (by decide +kernel) (fun c21 => ?_) (fun c21 => ?_)
                · refine zwW_p [(0, 0, 0)] (q := 142) (ls' := [(2, 9), (0, a)]) (st' := [(0, 0)]) (by decide +kernel) rfl ?_
                  refine zwW_ret (nx := 143) (a := 1) (b := 0) (by decide +kernel) rfl (Or.inr (Or.inl ⟨rfl, by omega⟩)) ?_
                  exact ⟨Ch20, Xh20.le (by decide) (by decide), by omega⟩
                · refine zwW_p [(0, 1, 0), (24, 142, 0)] (q := 142) (ls' := [(2, 9), (0, a)]) (st' := [(0, 1)]) (by decide +kernel) rfl ?_
                  refine zwW_ret (nx := 143) (a := 1) (b := 0) (by decide +kernel) rfl (Or.inr (Or.inl ⟨rfl, by omega⟩)) ?_
                  exact ⟨Ch20, Xh20.le (by decide) (by decide), by omega⟩
    · refine zwW_p [(1, 0, 2)] (q := 51) (ls' := [(2, 9), (0, a)]) (st' := [(2, 9)]) (by decide +kernel) rfl ?_
      refine zwW_gs C.1 (kd := 7) (bn := 5) (n := 9) (t := 0) (lo := -2147483648) (hi := 2147483647) (nx := 54) (by decide +kernel) ?_
      intro v22 ev22 lv22 uv22
      refine zwW_p [(0, 0, 0), (0, 12, 0)] (q := 57) (ls' := [(2, 9), (0, a)]) (st' := [(0, 12), (0, 0), (0, v22)]) (by decide +kernel) rfl ?_
      refine zwW_cs (k' := 98) (n := 3) (nx := 60) (as := [(0, v22), (0, 0), (0, 12)]) (st' := []) (by decide +kernel) rfl (x98 h C v22 0 12 (by omega) (by omega) (by omega)) (Nat.ble_eq_true_of_le (by omega)) ?_
      rintro x _ ⟨rfl, ⟨rfl, c23⟩ | ⟨rfl, c23⟩⟩
      · refine zwif_ne (q := 89) (nx := 63) (by decide +kernel) (fun c24 => ?_) (fun c24 => ?_)
        · refine zwW_p [(1, 1, 0), (0, 8, 0)] (q := 92) (ls' := [(2, 9), (0, a)]) (st' := [(0, 8), (0, a)]) (by decide +kernel) rfl ?_
          refine zwic_ge (q := 141) (nx := 95) (by decide +kernel) (fun c25 => ?_) (fun c25 => ?_)
          · refine zwW_p [(0, 0, 0)] (q := 142) (ls' := [(2, 9), (0, a)]) (st' := [(0, 0)]) (by decide +kernel) rfl ?_
            refine zwW_ret (nx := 143) (a := 1) (b := 0) (by decide +kernel) rfl (Or.inr (Or.inl ⟨rfl, by omega⟩)) ?_
            exact ⟨C, X.le (by decide) (by decide), by omega⟩
          · refine zwW_p [(1, 0, 2)] (q := 96) (ls' := [(2, 9), (0, a)]) (st' := [(2, 9)]) (by decide +kernel) rfl ?_
            refine zwW_gs C.1 (kd := 7) (bn := 4) (n := 9) (t := 0) (lo := -2147483648) (hi := 2147483647) (nx := 99) (by decide +kernel) ?_
            intro v26 ev26 lv26 uv26
            refine zwW_p [(0, 40, 0)] (q := 101) (ls' := [(2, 9), (0, a)]) (st' := [(0, 40), (0, v26)]) (by decide +kernel) rfl ?_
            refine zwic_ne (q := 141) (nx := 104) (by decide +kernel) (fun c27 => ?_) (fun c27 => ?_)
            · refine zwW_p [(0, 0, 0)] (q := 142) (ls' := [(2, 9), (0, a)]) (st' := [(0, 0)]) (by decide +kernel) rfl ?_
              refine zwW_ret (nx := 143) (a := 1) (b := 0) (by decide +kernel) rfl (Or.inr (Or.inl ⟨rfl, by omega⟩)) ?_
              exact ⟨C, X.le (by decide) (by decide), by omega⟩
            · refine zwW_p [(1, 0, 2)] (q := 105) (ls' := [(2, 9), (0, a)]) (st' := [(2, 9)]) (by decide +kernel) rfl ?_
              refine zwW_cm C.1 (op := 60) (k' := 198) (n := 0) (kd := 7) (m := 9) (nx := 108) (r := 9) (tl := []) (st' := []) (by decide +kernel) rfl (by decide +kernel) (Nat.ble_eq_true_of_le (by omega)) (x198 h C) ?_
              rintro v29 h30 ⟨Ch30, Qh30, f28⟩
              have Xh30 : zXR msxK (0) (0) h h30 := X.tr (c2 := 0) (s2 := 0) Qh30 (by decide +kernel) (by decide) (by decide)
              refine zwif_eq (q := 141) (nx := 111) (by decide +kernel) (fun c31 => ?_) (fun c31 => ?_)
              · refine zwW_p [(0, 0, 0)] (q := 142) (ls' := [(2, 9), (0, a)]) (st' := [(0, 0)]) (by decide +kernel) rfl ?_
                refine zwW_ret (nx := 143) (a := 1) (b := 0) (by decide +kernel) rfl (Or.inr (Or.inl ⟨rfl, by omega⟩)) ?_
                exact ⟨Ch30, Xh30.le (by decide) (by decide), by omega⟩
              · refine zwW_p [(1, 0, 2), (1, 1, 0), (0, 1, 0)] (q := 114) (ls' := [(2, 9), (0, a)]) (st' := [(0, 1), (0, a), (2, 9)]) (by decide +kernel) rfl ?_
                refine zwW_add (nx := 115) (by decide +kernel) ⟨by omega, by omega⟩ ?_
                refine zwW_cm Ch30.1 (op := 60) (k' := 241) (n := 1) (kd := 7) (m := 9) (nx := 118) (r := 9) (tl := [(0, (a + 1))]) (st' := []) (by decide +kernel) rfl (by decide +kernel) (Nat.ble_eq_true_of_le (by omega)) (HS (by omega) h30 Ch30) ?_
                rintro v33 h34 ⟨Ch34, Qh34, f32⟩
                have Xh34 : zXR msxK (0) (0) h h34 := Xh30.tr (c2 := 0) (s2 := 0) Qh34 (by decide +kernel) (by decide) (by decide)
                refine zwif_eq (q := 141) (nx := 121) (by decide +kernel) (fun c35 => ?_) (fun c35 => ?_)
                · refine zwW_p [(0, 0, 0)] (q := 142) (ls' := [(2, 9), (0, a)]) (st' := [(0, 0)]) (by decide +kernel) rfl ?_
                  refine zwW_ret (nx := 143) (a := 1) (b := 0) (by decide +kernel) rfl (Or.inr (Or.inl ⟨rfl, by omega⟩)) ?_
                  exact ⟨Ch34, Xh34.le (by decide) (by decide), by omega⟩
                · refine zwW_p [(1, 0, 2)] (q := 122) (ls' := [(2, 9), (0, a)]) (st' := [(2, 9)]) (by decide +kernel) rfl ?_
                  refine zwW_gs Ch34.1 (kd := 7) (bn := 4) (n := 9) (t := 0) (lo := -2147483648) (hi := 2147483647) (nx := 125) (by decide +kernel) ?_
                  intro v36 ev36 lv36 uv36
                  refine zwW_p [(0, 41, 0)] (q := 127) (ls' := [(2, 9), (0, a)]) (st' := [(0, 41), (0, v36)]) (by decide +kernel) rfl ?_
                  refine zwic_ne (q := 141) (nx := 130) (by decide +kernel) (fun c37 => ?_) (fun c37 => ?_)
                  · refine zwW_p [(0, 0, 0)] (q := 142) (ls' := [(2, 9), (0, a)]) (st' := [(0, 0)]) (by decide +kernel) rfl ?_
                    refine zwW_ret (nx := 143) (a := 1) (b := 0) (by decide +kernel) rfl (Or.inr (Or.inl ⟨rfl, by omega⟩)) ?_
                    exact ⟨Ch34, Xh34.le (by decide) (by decide), by omega⟩
                  · refine zwW_p [(1, 0, 2)] (q := 131) (ls' := [(2, 9), (0, a)]) (st' := [(2, 9)]) (by decide +kernel) rfl ?_
                    refine zwW_cm Ch34.1 (op := 60) (k' := 198) (n := 0) (kd := 7) (m := 9) (nx := 134) (r := 9) (tl := []) (st' := []) (by decide +kernel) rfl (by decide +kernel) (Nat.ble_eq_true_of_le (by omega)) (x198 h34 Ch34) ?_
                    rintro v39 h40 ⟨Ch40, Qh40, f38⟩
                    have Xh40 : zXR msxK (0) (0) h h40 := Xh34.tr (c2 := 0) (s2 := 0) Qh40 (by decide +kernel) (by decide) (by decide)
                    refine zwif_eq (q := 141) (nx := 137) (by decide +kernel) (fun c41 => ?_) (fun c41 => ?_)
                    · refine zwW_p [(0, 0, 0)] (q := 142) (ls' := [(2, 9), (0, a)]) (st' := [(0, 0)]) (by decide +kernel) rfl ?_
                      refine zwW_ret (nx := 143) (a := 1) (b := 0) (by decide +kernel) rfl (Or.inr (Or.inl ⟨rfl, by omega⟩)) ?_
                      exact ⟨Ch40, Xh40.le (by decide) (by decide), by omega⟩
                    · refine zwW_p [(0, 1, 0), (24, 142, 0)] (q := 142) (ls' := [(2, 9), (0, a)]) (st' := [(0, 1)]) (by decide +kernel) rfl ?_
                      refine zwW_ret (nx := 143) (a := 1) (b := 0) (by decide +kernel) rfl (Or.inr (Or.inl ⟨rfl, by omega⟩)) ?_
                      exact ⟨Ch40, Xh40.le (by decide) (by decide), by omega⟩
        · exfalso; omega
      · refine zwif_ne (q := 89) (nx := 63) (by decide +kernel) (fun c42 => ?_) (fun c42 => ?_)
        · exfalso; omega
        · refine zwW_p [(1, 0, 2), (0, -1, 0), (1, 0, 2)] (q := 66) (ls' := [(2, 9), (0, a)]) (st' := [(2, 9), (0, -1), (2, 9)]) (by decide +kernel) rfl ?_
          refine zwW_gs C.1 (kd := 7) (bn := 5) (n := 9) (t := 0) (lo := -2147483648) (hi := 2147483647) (nx := 69) (by decide +kernel) ?_
          intro v43 ev43 lv43 uv43
          refine zwW_sub (nx := 70) (by decide +kernel) ⟨by omega, by omega⟩ ?_
          refine zwW_cm C.1 (op := 60) (k' := 243) (n := 1) (kd := 7) (m := 9) (nx := 73) (r := 9) (tl := [(0, (-1 - v43))]) (st' := []) (by decide +kernel) rfl (by decide +kernel) (Nat.ble_eq_true_of_le (by omega)) (x243 h C (-1 - v43) (by omega)) ?_
          rintro v45 h46 ⟨Ch46, Qh46, f44⟩
          have Xh46 : zXR msxK (0) (0) h h46 := X.tr (c2 := 0) (s2 := 0) Qh46 (by decide +kernel) (by decide) (by decide)
          refine zwif_eq (q := 87) (nx := 76) (by decide +kernel) (fun c47 => ?_) (fun c47 => ?_)
          · refine zwW_p [(0, 0, 0)] (q := 88) (ls' := [(2, 9), (0, a)]) (st' := [(0, 0)]) (by decide +kernel) rfl ?_
            refine zwW_ret (nx := 89) (a := 1) (b := 0) (by decide +kernel) rfl (Or.inr (Or.inl ⟨rfl, by omega⟩)) ?_
            exact ⟨Ch46, Xh46.le (by decide) (by decide), by omega⟩
          · refine zwW_p [(1, 0, 2)] (q := 77) (ls' := [(2, 9), (0, a)]) (st' := [(2, 9)]) (by decide +kernel) rfl ?_
            refine zwW_cm Ch46.1 (op := 60) (k' := 198) (n := 0) (kd := 7) (m := 9) (nx := 80) (r := 9) (tl := []) (st' := []) (by decide +kernel) rfl (by decide +kernel) (Nat.ble_eq_true_of_le (by omega)) (x198 h46 Ch46) ?_
            rintro v49 h50 ⟨Ch50, Qh50, f48⟩
            have Xh50 : zXR msxK (0) (0) h h50 := Xh46.tr (c2 := 0) (s2 := 0) Qh50 (by decide +kernel) (by decide) (by decide)
            refine zwif_eq (q := 87) (nx := 83) (by decide +kernel) (fun c51 => ?_) (fun c51 => ?_)
            · refine zwW_p [(0, 0, 0)] (q := 88) (ls' := [(2, 9), (0, a)]) (st' := [(0, 0)]) (by decide +kernel) rfl ?_
              refine zwW_ret (nx := 89) (a := 1) (b := 0) (by decide +kernel) rfl (Or.inr (Or.inl ⟨rfl, by omega⟩)) ?_
              exact ⟨Ch50, Xh50.le (by decide) (by decide), by omega⟩
            · refine zwW_p [(0, 1, 0), (24, 88, 0)] (q := 88) (ls' := [(2, 9), (0, a)]) (st' := [(0, 1)]) (by decide +kernel) rfl ?_
              refine zwW_ret (nx := 89) (a := 1) (b := 0) (by decide +kernel) rfl (Or.inr (Or.inl ⟨rfl, by omega⟩)) ?_
              exact ⟨Ch50, Xh50.le (by decide) (by decide), by omega⟩
  · refine zwW_p [(1, 0, 2)] (q := 9) (ls' := [(2, 9), (0, a)]) (st' := [(2, 9)]) (by decide +kernel) rfl ?_
    refine zwW_gs C.1 (kd := 7) (bn := 5) (n := 9) (t := 0) (lo := -2147483648) (hi := 2147483647) (nx := 12) (by decide +kernel) ?_
    intro v52 ev52 lv52 uv52
    refine zwW_p [(0, 9999, 0)] (q := 15) (ls' := [(2, 9), (0, a)]) (st' := [(0, 9999), (0, v52)]) (by decide +kernel) rfl ?_
    refine zwic_gt (q := 42) (nx := 18) (by decide +kernel) (fun c53 => ?_) (fun c53 => ?_)
    · refine zwW_p [(1, 0, 2)] (q := 43) (ls' := [(2, 9), (0, a)]) (st' := [(2, 9)]) (by decide +kernel) rfl ?_
      refine zwW_gs C.1 (kd := 7) (bn := 4) (n := 9) (t := 0) (lo := -2147483648) (hi := 2147483647) (nx := 46) (by decide +kernel) ?_
      intro v54 ev54 lv54 uv54
      refine zwW_p [(0, 1, 0)] (q := 47) (ls' := [(2, 9), (0, a)]) (st' := [(0, 1), (0, v54)]) (by decide +kernel) rfl ?_
      refine zwic_ne (q := 89) (nx := 50) (by decide +kernel) (fun c55 => ?_) (fun c55 => ?_)
      · refine zwW_p [(1, 1, 0), (0, 8, 0)] (q := 92) (ls' := [(2, 9), (0, a)]) (st' := [(0, 8), (0, a)]) (by decide +kernel) rfl ?_
        refine zwic_ge (q := 141) (nx := 95) (by decide +kernel) (fun c56 => ?_) (fun c56 => ?_)
        · refine zwW_p [(0, 0, 0)] (q := 142) (ls' := [(2, 9), (0, a)]) (st' := [(0, 0)]) (by decide +kernel) rfl ?_
          refine zwW_ret (nx := 143) (a := 1) (b := 0) (by decide +kernel) rfl (Or.inr (Or.inl ⟨rfl, by omega⟩)) ?_
          exact ⟨C, X.le (by decide) (by decide), by omega⟩
        · refine zwW_p [(1, 0, 2)] (q := 96) (ls' := [(2, 9), (0, a)]) (st' := [(2, 9)]) (by decide +kernel) rfl ?_
          refine zwW_gs C.1 (kd := 7) (bn := 4) (n := 9) (t := 0) (lo := -2147483648) (hi := 2147483647) (nx := 99) (by decide +kernel) ?_
          intro v57 ev57 lv57 uv57
          refine zwW_p [(0, 40, 0)] (q := 101) (ls' := [(2, 9), (0, a)]) (st' := [(0, 40), (0, v57)]) (by decide +kernel) rfl ?_
          refine zwic_ne (q := 141) (nx := 104) (by decide +kernel) (fun c58 => ?_) (fun c58 => ?_)
          · refine zwW_p [(0, 0, 0)] (q := 142) (ls' := [(2, 9), (0, a)]) (st' := [(0, 0)]) (by decide +kernel) rfl ?_
            refine zwW_ret (nx := 143) (a := 1) (b := 0) (by decide +kernel) rfl (Or.inr (Or.inl ⟨rfl, by omega⟩)) ?_
            exact ⟨C, X.le (by decide) (by decide), by omega⟩
          · refine zwW_p [(1, 0, 2)] (q := 105) (ls' := [(2, 9), (0, a)]) (st' := [(2, 9)]) (by decide +kernel) rfl ?_
            refine zwW_cm C.1 (op := 60) (k' := 198) (n := 0) (kd := 7) (m := 9) (nx := 108) (r := 9) (tl := []) (st' := []) (by decide +kernel) rfl (by decide +kernel) (Nat.ble_eq_true_of_le (by omega)) (x198 h C) ?_
            rintro v60 h61 ⟨Ch61, Qh61, f59⟩
            have Xh61 : zXR msxK (0) (0) h h61 := X.tr (c2 := 0) (s2 := 0) Qh61 (by decide +kernel) (by decide) (by decide)
            refine zwif_eq (q := 141) (nx := 111) (by decide +kernel) (fun c62 => ?_) (fun c62 => ?_)
            · refine zwW_p [(0, 0, 0)] (q := 142) (ls' := [(2, 9), (0, a)]) (st' := [(0, 0)]) (by decide +kernel) rfl ?_
              refine zwW_ret (nx := 143) (a := 1) (b := 0) (by decide +kernel) rfl (Or.inr (Or.inl ⟨rfl, by omega⟩)) ?_
              exact ⟨Ch61, Xh61.le (by decide) (by decide), by omega⟩
            · refine zwW_p [(1, 0, 2), (1, 1, 0), (0, 1, 0)] (q := 114) (ls' := [(2, 9), (0, a)]) (st' := [(0, 1), (0, a), (2, 9)]) (by decide +kernel) rfl ?_
              refine zwW_add (nx := 115) (by decide +kernel) ⟨by omega, by omega⟩ ?_
              refine zwW_cm Ch61.1 (op := 60) (k' := 241) (n := 1) (kd := 7) (m := 9) (nx := 118) (r := 9) (tl := [(0, (a + 1))]) (st' := []) (by decide +kernel) rfl (by decide +kernel) (Nat.ble_eq_true_of_le (by omega)) (HS (by omega) h61 Ch61) ?_
              rintro v64 h65 ⟨Ch65, Qh65, f63⟩
              have Xh65 : zXR msxK (0) (0) h h65 := Xh61.tr (c2 := 0) (s2 := 0) Qh65 (by decide +kernel) (by decide) (by decide)
              refine zwif_eq (q := 141) (nx := 121) (by decide +kernel) (fun c66 => ?_) (fun c66 => ?_)
              · refine zwW_p [(0, 0, 0)] (q := 142) (ls' := [(2, 9), (0, a)]) (st' := [(0, 0)]) (by decide +kernel) rfl ?_
                refine zwW_ret (nx := 143) (a := 1) (b := 0) (by decide +kernel) rfl (Or.inr (Or.inl ⟨rfl, by omega⟩)) ?_
                exact ⟨Ch65, Xh65.le (by decide) (by decide), by omega⟩
              · refine zwW_p [(1, 0, 2)] (q := 122) (ls' := [(2, 9), (0, a)]) (st' := [(2, 9)]) (by decide +kernel) rfl ?_
                refine zwW_gs Ch65.1 (kd := 7) (bn := 4) (n := 9) (t := 0) (lo := -2147483648) (hi := 2147483647) (nx := 125) (by decide +kernel) ?_
                intro v67 ev67 lv67 uv67
                refine zwW_p [(0, 41, 0)] (q := 127) (ls' := [(2, 9), (0, a)]) (st' := [(0, 41), (0, v67)]) (by decide +kernel) rfl ?_
                refine zwic_ne (q := 141) (nx := 130) (by decide +kernel) (fun c68 => ?_) (fun c68 => ?_)
                · refine zwW_p [(0, 0, 0)] (q := 142) (ls' := [(2, 9), (0, a)]) (st' := [(0, 0)]) (by decide +kernel) rfl ?_
                  refine zwW_ret (nx := 143) (a := 1) (b := 0) (by decide +kernel) rfl (Or.inr (Or.inl ⟨rfl, by omega⟩)) ?_
                  exact ⟨Ch65, Xh65.le (by decide) (by decide), by omega⟩
                · refine zwW_p [(1, 0, 2)] (q := 131) (ls' := [(2, 9), (0, a)]) (st' := [(2, 9)]) (by decide +kernel) rfl ?_
                  refine zwW_cm Ch65.1 (op := 60) (k' := 198) (n := 0) (kd := 7) (m := 9) (nx := 134) (r := 9) (tl := []) (st' := []) (by decide +kernel) rfl (by decide +kernel) (Nat.ble_eq_true_of_le (by omega)) (x198 h65 Ch65) ?_
                  rintro v70 h71 ⟨Ch71, Qh71, f69⟩
                  have Xh71 : zXR msxK (0) (0) h h71 := Xh65.tr (c2 := 0) (s2 := 0) Qh71 (by decide +kernel) (by decide) (by decide)
                  refine zwif_eq (q := 141) (nx := 137) (by decide +kernel) (fun c72 => ?_) (fun c72 => ?_)
                  · refine zwW_p [(0, 0, 0)] (q := 142) (ls' := [(2, 9), (0, a)]) (st' := [(0, 0)]) (by decide +kernel) rfl ?_
                    refine zwW_ret (nx := 143) (a := 1) (b := 0) (by decide +kernel) rfl (Or.inr (Or.inl ⟨rfl, by omega⟩)) ?_
                    exact ⟨Ch71, Xh71.le (by decide) (by decide), by omega⟩
                  · refine zwW_p [(0, 1, 0), (24, 142, 0)] (q := 142) (ls' := [(2, 9), (0, a)]) (st' := [(0, 1)]) (by decide +kernel) rfl ?_
                    refine zwW_ret (nx := 143) (a := 1) (b := 0) (by decide +kernel) rfl (Or.inr (Or.inl ⟨rfl, by omega⟩)) ?_
                    exact ⟨Ch71, Xh71.le (by decide) (by decide), by omega⟩
      · refine zwW_p [(1, 0, 2)] (q := 51) (ls' := [(2, 9), (0, a)]) (st' := [(2, 9)]) (by decide +kernel) rfl ?_
        refine zwW_gs C.1 (kd := 7) (bn := 5) (n := 9) (t := 0) (lo := -2147483648) (hi := 2147483647) (nx := 54) (by decide +kernel) ?_
        intro v73 ev73 lv73 uv73
        refine zwW_p [(0, 0, 0), (0, 12, 0)] (q := 57) (ls' := [(2, 9), (0, a)]) (st' := [(0, 12), (0, 0), (0, v73)]) (by decide +kernel) rfl ?_
        refine zwW_cs (k' := 98) (n := 3) (nx := 60) (as := [(0, v73), (0, 0), (0, 12)]) (st' := []) (by decide +kernel) rfl (x98 h C v73 0 12 (by omega) (by omega) (by omega)) (Nat.ble_eq_true_of_le (by omega)) ?_
        rintro x _ ⟨rfl, ⟨rfl, c74⟩ | ⟨rfl, c74⟩⟩
        · refine zwif_ne (q := 89) (nx := 63) (by decide +kernel) (fun c75 => ?_) (fun c75 => ?_)
          · refine zwW_p [(1, 1, 0), (0, 8, 0)] (q := 92) (ls' := [(2, 9), (0, a)]) (st' := [(0, 8), (0, a)]) (by decide +kernel) rfl ?_
            refine zwic_ge (q := 141) (nx := 95) (by decide +kernel) (fun c76 => ?_) (fun c76 => ?_)
            · refine zwW_p [(0, 0, 0)] (q := 142) (ls' := [(2, 9), (0, a)]) (st' := [(0, 0)]) (by decide +kernel) rfl ?_
              refine zwW_ret (nx := 143) (a := 1) (b := 0) (by decide +kernel) rfl (Or.inr (Or.inl ⟨rfl, by omega⟩)) ?_
              exact ⟨C, X.le (by decide) (by decide), by omega⟩
            · refine zwW_p [(1, 0, 2)] (q := 96) (ls' := [(2, 9), (0, a)]) (st' := [(2, 9)]) (by decide +kernel) rfl ?_
              refine zwW_gs C.1 (kd := 7) (bn := 4) (n := 9) (t := 0) (lo := -2147483648) (hi := 2147483647) (nx := 99) (by decide +kernel) ?_
              intro v77 ev77 lv77 uv77
              refine zwW_p [(0, 40, 0)] (q := 101) (ls' := [(2, 9), (0, a)]) (st' := [(0, 40), (0, v77)]) (by decide +kernel) rfl ?_
              refine zwic_ne (q := 141) (nx := 104) (by decide +kernel) (fun c78 => ?_) (fun c78 => ?_)
              · refine zwW_p [(0, 0, 0)] (q := 142) (ls' := [(2, 9), (0, a)]) (st' := [(0, 0)]) (by decide +kernel) rfl ?_
                refine zwW_ret (nx := 143) (a := 1) (b := 0) (by decide +kernel) rfl (Or.inr (Or.inl ⟨rfl, by omega⟩)) ?_
                exact ⟨C, X.le (by decide) (by decide), by omega⟩
              · refine zwW_p [(1, 0, 2)] (q := 105) (ls' := [(2, 9), (0, a)]) (st' := [(2, 9)]) (by decide +kernel) rfl ?_
                refine zwW_cm C.1 (op := 60) (k' := 198) (n := 0) (kd := 7) (m := 9) (nx := 108) (r := 9) (tl := []) (st' := []) (by decide +kernel) rfl (by decide +kernel) (Nat.ble_eq_true_of_le (by omega)) (x198 h C) ?_
                rintro v80 h81 ⟨Ch81, Qh81, f79⟩
                have Xh81 : zXR msxK (0) (0) h h81 := X.tr (c2 := 0) (s2 := 0) Qh81 (by decide +kernel) (by decide) (by decide)
                refine zwif_eq (q := 141) (nx := 111) (by decide +kernel) (fun c82 => ?_) (fun c82 => ?_)
                · refine zwW_p [(0, 0, 0)] (q := 142) (ls' := [(2, 9), (0, a)]) (st' := [(0, 0)]) (by decide +kernel) rfl ?_
                  refine zwW_ret (nx := 143) (a := 1) (b := 0) (by decide +kernel) rfl (Or.inr (Or.inl ⟨rfl, by omega⟩)) ?_
                  exact ⟨Ch81, Xh81.le (by decide) (by decide), by omega⟩
                · refine zwW_p [(1, 0, 2), (1, 1, 0), (0, 1, 0)] (q := 114) (ls' := [(2, 9), (0, a)]) (st' := [(0, 1), (0, a), (2, 9)]) (by decide +kernel) rfl ?_
                  refine zwW_add (nx := 115) (by decide +kernel) ⟨by omega, by omega⟩ ?_
                  refine zwW_cm Ch81.1 (op := 60) (k' := 241) (n := 1) (kd := 7) (m := 9) (nx := 118) (r := 9) (tl := [(0, (a + 1))]) (st' := []) (by decide +kernel) rfl (by decide +kernel) (Nat.ble_eq_true_of_le (by omega)) (HS (by omega) h81 Ch81) ?_
                  rintro v84 h85 ⟨Ch85, Qh85, f83⟩
                  have Xh85 : zXR msxK (0) (0) h h85 := Xh81.tr (c2 := 0) (s2 := 0) Qh85 (by decide +kernel) (by decide) (by decide)
                  refine zwif_eq (q := 141) (nx := 121) (by decide +kernel) (fun c86 => ?_) (fun c86 => ?_)
                  · refine zwW_p [(0, 0, 0)] (q := 142) (ls' := [(2, 9), (0, a)]) (st' := [(0, 0)]) (by decide +kernel) rfl ?_
                    refine zwW_ret (nx := 143) (a := 1) (b := 0) (by decide +kernel) rfl (Or.inr (Or.inl ⟨rfl, by omega⟩)) ?_
                    exact ⟨Ch85, Xh85.le (by decide) (by decide), by omega⟩
                  · refine zwW_p [(1, 0, 2)] (q := 122) (ls' := [(2, 9), (0, a)]) (st' := [(2, 9)]) (by decide +kernel) rfl ?_
                    refine zwW_gs Ch85.1 (kd := 7) (bn := 4) (n := 9) (t := 0) (lo := -2147483648) (hi := 2147483647) (nx := 125) (by decide +kernel) ?_
                    intro v87 ev87 lv87 uv87
                    refine zwW_p [(0, 41, 0)] (q := 127) (ls' := [(2, 9), (0, a)]) (st' := [(0, 41), (0, v87)]) (by decide +kernel) rfl ?_
                    refine zwic_ne (q := 141) (nx := 130) (by decide +kernel) (fun c88 => ?_) (fun c88 => ?_)
                    · refine zwW_p [(0, 0, 0)] (q := 142) (ls' := [(2, 9), (0, a)]) (st' := [(0, 0)]) (by decide +kernel) rfl ?_
                      refine zwW_ret (nx := 143) (a := 1) (b := 0) (by decide +kernel) rfl (Or.inr (Or.inl ⟨rfl, by omega⟩)) ?_
                      exact ⟨Ch85, Xh85.le (by decide) (by decide), by omega⟩
                    · refine zwW_p [(1, 0, 2)] (q := 131) (ls' := [(2, 9), (0, a)]) (st' := [(2, 9)]) (by decide +kernel) rfl ?_
                      refine zwW_cm Ch85.1 (op := 60) (k' := 198) (n := 0) (kd := 7) (m := 9) (nx := 134) (r := 9) (tl := []) (st' := []) (by decide +kernel) rfl (by decide +kernel) (Nat.ble_eq_true_of_le (by omega)) (x198 h85 Ch85) ?_
                      rintro v90 h91 ⟨Ch91, Qh91, f89⟩
                      have Xh91 : zXR msxK (0) (0) h h91 := Xh85.tr (c2 := 0) (s2 := 0) Qh91 (by decide +kernel) (by decide) (by decide)
                      refine zwif_eq (q := 141) (nx := 137) (by decide +kernel) (fun c92 => ?_) (fun c92 => ?_)
                      · refine zwW_p [(0, 0, 0)] (q := 142) (ls' := [(2, 9), (0, a)]) (st' := [(0, 0)]) (by decide +kernel) rfl ?_
                        refine zwW_ret (nx := 143) (a := 1) (b := 0) (by decide +kernel) rfl (Or.inr (Or.inl ⟨rfl, by omega⟩)) ?_
                        exact ⟨Ch91, Xh91.le (by decide) (by decide), by omega⟩
                      · refine zwW_p [(0, 1, 0), (24, 142, 0)] (q := 142) (ls' := [(2, 9), (0, a)]) (st' := [(0, 1)]) (by decide +kernel) rfl ?_
                        refine zwW_ret (nx := 143) (a := 1) (b := 0) (by decide +kernel) rfl (Or.inr (Or.inl ⟨rfl, by omega⟩)) ?_
                        exact ⟨Ch91, Xh91.le (by decide) (by decide), by omega⟩
          · exfalso; omega
        · refine zwif_ne (q := 89) (nx := 63) (by decide +kernel) (fun c93 => ?_) (fun c93 => ?_)
          · exfalso; omega
          · refine zwW_p [(1, 0, 2), (0, -1, 0), (1, 0, 2)] (q := 66) (ls' := [(2, 9), (0, a)]) (st' := [(2, 9), (0, -1), (2, 9)]) (by decide +kernel) rfl ?_
            refine zwW_gs C.1 (kd := 7) (bn := 5) (n := 9) (t := 0) (lo := -2147483648) (hi := 2147483647) (nx := 69) (by decide +kernel) ?_
            intro v94 ev94 lv94 uv94
            refine zwW_sub (nx := 70) (by decide +kernel) ⟨by omega, by omega⟩ ?_
            refine zwW_cm C.1 (op := 60) (k' := 243) (n := 1) (kd := 7) (m := 9) (nx := 73) (r := 9) (tl := [(0, (-1 - v94))]) (st' := []) (by decide +kernel) rfl (by decide +kernel) (Nat.ble_eq_true_of_le (by omega)) (x243 h C (-1 - v94) (by omega)) ?_
            rintro v96 h97 ⟨Ch97, Qh97, f95⟩
            have Xh97 : zXR msxK (0) (0) h h97 := X.tr (c2 := 0) (s2 := 0) Qh97 (by decide +kernel) (by decide) (by decide)
            refine zwif_eq (q := 87) (nx := 76) (by decide +kernel) (fun c98 => ?_) (fun c98 => ?_)
            · refine zwW_p [(0, 0, 0)] (q := 88) (ls' := [(2, 9), (0, a)]) (st' := [(0, 0)]) (by decide +kernel) rfl ?_
              refine zwW_ret (nx := 89) (a := 1) (b := 0) (by decide +kernel) rfl (Or.inr (Or.inl ⟨rfl, by omega⟩)) ?_
              exact ⟨Ch97, Xh97.le (by decide) (by decide), by omega⟩
            · refine zwW_p [(1, 0, 2)] (q := 77) (ls' := [(2, 9), (0, a)]) (st' := [(2, 9)]) (by decide +kernel) rfl ?_
              refine zwW_cm Ch97.1 (op := 60) (k' := 198) (n := 0) (kd := 7) (m := 9) (nx := 80) (r := 9) (tl := []) (st' := []) (by decide +kernel) rfl (by decide +kernel) (Nat.ble_eq_true_of_le (by omega)) (x198 h97 Ch97) ?_
              rintro v100 h101 ⟨Ch101, Qh101, f99⟩
              have Xh101 : zXR msxK (0) (0) h h101 := Xh97.tr (c2 := 0) (s2 := 0) Qh101 (by decide +kernel) (by decide) (by decide)
              refine zwif_eq (q := 87) (nx := 83) (by decide +kernel) (fun c102 => ?_) (fun c102 => ?_)
              · refine zwW_p [(0, 0, 0)] (q := 88) (ls' := [(2, 9), (0, a)]) (st' := [(0, 0)]) (by decide +kernel) rfl ?_
                refine zwW_ret (nx := 89) (a := 1) (b := 0) (by decide +kernel) rfl (Or.inr (Or.inl ⟨rfl, by omega⟩)) ?_
                exact ⟨Ch101, Xh101.le (by decide) (by decide), by omega⟩
              · refine zwW_p [(0, 1, 0), (24, 88, 0)] (q := 88) (ls' := [(2, 9), (0, a)]) (st' := [(0, 1)]) (by decide +kernel) rfl ?_
                refine zwW_ret (nx := 89) (a := 1) (b := 0) (by decide +kernel) rfl (Or.inr (Or.inl ⟨rfl, by omega⟩)) ?_
                exact ⟨Ch101, Xh101.le (by decide) (by decide), by omega⟩
    · refine zwW_p [(1, 0, 2), (1, 0, 2)] (q := 20) (ls' := [(2, 9), (0, a)]) (st' := [(2, 9), (2, 9)]) (by decide +kernel) rfl ?_
      refine zwW_gs C.1 (kd := 7) (bn := 5) (n := 9) (t := 0) (lo := -2147483648) (hi := 2147483647) (nx := 23) (by decide +kernel) ?_
      intro v103 ev103 lv103 uv103
      refine zwW_cm C.1 (op := 60) (k' := 243) (n := 1) (kd := 7) (m := 9) (nx := 26) (r := 9) (tl := [(0, v103)]) (st' := []) (by decide +kernel) rfl (by decide +kernel) (Nat.ble_eq_true_of_le (by omega)) (x243 h C v103 (by omega)) ?_
      rintro v105 h106 ⟨Ch106, Qh106, f104⟩
      have Xh106 : zXR msxK (0) (0) h h106 := X.tr (c2 := 0) (s2 := 0) Qh106 (by decide +kernel) (by decide) (by decide)
      refine zwif_eq (q := 40) (nx := 29) (by decide +kernel) (fun c107 => ?_) (fun c107 => ?_)
      · refine zwW_p [(0, 0, 0)] (q := 41) (ls' := [(2, 9), (0, a)]) (st' := [(0, 0)]) (by decide +kernel) rfl ?_
        refine zwW_ret (nx := 42) (a := 1) (b := 0) (by decide +kernel) rfl (Or.inr (Or.inl ⟨rfl, by omega⟩)) ?_
        exact ⟨Ch106, Xh106.le (by decide) (by decide), by omega⟩
      · refine zwW_p [(1, 0, 2)] (q := 30) (ls' := [(2, 9), (0, a)]) (st' := [(2, 9)]) (by decide +kernel) rfl ?_
        refine zwW_cm Ch106.1 (op := 60) (k' := 198) (n := 0) (kd := 7) (m := 9) (nx := 33) (r := 9) (tl := []) (st' := []) (by decide +kernel) rfl (by decide +kernel) (Nat.ble_eq_true_of_le (by omega)) (x198 h106 Ch106) ?_
        rintro v109 h110 ⟨Ch110, Qh110, f108⟩
        have Xh110 : zXR msxK (0) (0) h h110 := Xh106.tr (c2 := 0) (s2 := 0) Qh110 (by decide +kernel) (by decide) (by decide)
        refine zwif_eq (q := 40) (nx := 36) (by decide +kernel) (fun c111 => ?_) (fun c111 => ?_)
        · refine zwW_p [(0, 0, 0)] (q := 41) (ls' := [(2, 9), (0, a)]) (st' := [(0, 0)]) (by decide +kernel) rfl ?_
          refine zwW_ret (nx := 42) (a := 1) (b := 0) (by decide +kernel) rfl (Or.inr (Or.inl ⟨rfl, by omega⟩)) ?_
          exact ⟨Ch110, Xh110.le (by decide) (by decide), by omega⟩
        · refine zwW_p [(0, 1, 0), (24, 41, 0)] (q := 41) (ls' := [(2, 9), (0, a)]) (st' := [(0, 1)]) (by decide +kernel) rfl ?_
          refine zwW_ret (nx := 42) (a := 1) (b := 0) (by decide +kernel) rfl (Or.inr (Or.inl ⟨rfl, by omega⟩)) ?_
          exact ⟨Ch110, Xh110.le (by decide) (by decide), by omega⟩
-- WheelLand$Reader.product(I)Z
theorem x262 {sc : List Int} (a : Int) (D0 : Nat) (pa : 0 ≤ a ∧ a ≤ 8) (HS : a < 8 → zKX sc D0 241 (a + 1)) : zKX sc (D0 + 21) 262 a := by
  intro h C
  refine zwC_of (D := D0 + 20) 5 (by decide +kernel) rfl (ls := [(2, 9), (0, a), (9, 0), (9, 0), (9, 0)]) rfl ?_
  have X : zXR msxK 0 0 h h := zXR.rf _ _
  refine zwW_p [(1, 0, 2), (1, 1, 0)] (q := 2) (ls' := [(2, 9), (0, a), (9, 0), (9, 0), (9, 0)]) (st' := [(0, a), (2, 9)]) (by decide +kernel) rfl ?_
  refine zwW_cm C.1 (op := 60) (k' := 280) (n := 1) (kd := 7) (m := 9) (nx := 5) (r := 9) (tl := [(0, a)]) (st' := []) (by decide +kernel) rfl (by decide +kernel) (Nat.ble_eq_true_of_le (by omega)) (x280 a D0 pa HS h C) ?_
  rintro v2 h3 ⟨Ch3, Qh3, f1⟩
  have Xh3 : zXR msxK (0) (0) h h3 := X.tr (c2 := 0) (s2 := 0) Qh3 (by decide +kernel) (by decide) (by decide)
  refine zwW_p [(2, 2, 0), (0, 0, 0), (2, 3, 0)] (q := 8) (ls' := [(2, 9), (0, a), (0, v2), (0, 0), (9, 0)]) (st' := []) (by decide +kernel) rfl ?_
  have L4 : ∀ (n : Nat) (v2L4 v3L4 : Int) (w4L4 : Vl) (hL4 : Hp), n = ((1000 - v3L4)).toNat → (0 ≤ v2L4 ∧ v2L4 ≤ 1) → (0 ≤ v3L4 ∧ v3L4 ≤ 1000) → CI hL4 → zXR msxK (0) (0) h hL4 → zwW sc (D0 + 20) 262 8 [(2, 9), (0, a), (0, v2L4), (0, v3L4), w4L4] [] hL4 (zwRt 0 (fun x g => CI g ∧ zXR msxK (0) (0) h g ∧ (0 ≤ x ∧ x ≤ 1))) := by
    intro n
    induction n using Nat.strongRecOn with
    | ind n IHL4 =>
      intro v2L4 v3L4 w4L4 hL4 hnL4 iL4_0 iL4_1 ChL4 XhL4
      refine zwW_p [(1, 3, 0), (0, 400, 0)] (q := 12) (ls' := [(2, 9), (0, a), (0, v2L4), (0, v3L4), w4L4]) (st' := [(0, 400), (0, v3L4)]) (by decide +kernel) rfl ?_
      refine zwic_ge (q := 78) (nx := 15) (by decide +kernel) (fun c5 => ?_) (fun c5 => ?_)
      · refine zwW_p [(1, 2, 0)] (q := 79) (ls' := [(2, 9), (0, a), (0, v2L4), (0, v3L4), w4L4]) (st' := [(0, v2L4)]) (by decide +kernel) rfl ?_
        refine zwW_ret (nx := 80) (a := 1) (b := 0) (by decide +kernel) rfl (Or.inr (Or.inl ⟨rfl, by omega⟩)) ?_
        exact ⟨ChL4, XhL4.le (by decide) (by decide), by omega⟩
      · refine zwW_p [(1, 2, 0)] (q := 16) (ls' := [(2, 9), (0, a), (0, v2L4), (0, v3L4), w4L4]) (st' := [(0, v2L4)]) (by decide +kernel) rfl ?_
        refine zwif_eq (q := 78) (nx := 19) (by decide +kernel) (fun c6 => ?_) (fun c6 => ?_)
        · refine zwW_p [(1, 2, 0)] (q := 79) (ls' := [(2, 9), (0, a), (0, v2L4), (0, v3L4), w4L4]) (st' := [(0, v2L4)]) (by decide +kernel) rfl ?_
          refine zwW_ret (nx := 80) (a := 1) (b := 0) (by decide +kernel) rfl (Or.inr (Or.inl ⟨rfl, by omega⟩)) ?_
          exact ⟨ChL4, XhL4.le (by decide) (by decide), by omega⟩
        · refine zwW_p [(1, 0, 2)] (q := 20) (ls' := [(2, 9), (0, a), (0, v2L4), (0, v3L4), w4L4]) (st' := [(2, 9)]) (by decide +kernel) rfl ?_
          refine zwW_gs ChL4.1 (kd := 7) (bn := 4) (n := 9) (t := 0) (lo := -2147483648) (hi := 2147483647) (nx := 23) (by decide +kernel) ?_
          intro v7 ev7 lv7 uv7
          refine zwW_p [(0, 42, 0)] (q := 25) (ls' := [(2, 9), (0, a), (0, v2L4), (0, v3L4), w4L4]) (st' := [(0, 42), (0, v7)]) (by decide +kernel) rfl ?_
          refine zwic_eq (q := 37) (nx := 28) (by decide +kernel) (fun c8 => ?_) (fun c8 => ?_)
          · refine zwW_p [(1, 0, 2)] (q := 38) (ls' := [(2, 9), (0, a), (0, v2L4), (0, v3L4), w4L4]) (st' := [(2, 9)]) (by decide +kernel) rfl ?_
            refine zwW_gs ChL4.1 (kd := 7) (bn := 4) (n := 9) (t := 0) (lo := -2147483648) (hi := 2147483647) (nx := 41) (by decide +kernel) ?_
            intro v9 ev9 lv9 uv9
            refine zwW_p [(2, 4, 0), (1, 0, 2)] (q := 44) (ls' := [(2, 9), (0, a), (0, v2L4), (0, v3L4), (0, v9)]) (st' := [(2, 9)]) (by decide +kernel) rfl ?_
            refine zwW_cm ChL4.1 (op := 60) (k' := 198) (n := 0) (kd := 7) (m := 9) (nx := 47) (r := 9) (tl := []) (st' := []) (by decide +kernel) rfl (by decide +kernel) (Nat.ble_eq_true_of_le (by omega)) (x198 hL4 ChL4) ?_
            rintro v11 h12 ⟨Ch12, Qh12, f10⟩
            have Xh12 : zXR msxK (0) (0) h h12 := XhL4.tr (c2 := 0) (s2 := 0) Qh12 (by decide +kernel) (by decide) (by decide)
            refine zwW_p [(15, 0, 0), (1, 0, 2), (1, 1, 0)] (q := 50) (ls' := [(2, 9), (0, a), (0, v2L4), (0, v3L4), (0, v9)]) (st' := [(0, a), (2, 9)]) (by decide +kernel) rfl ?_
            refine zwW_cm Ch12.1 (op := 60) (k' := 280) (n := 1) (kd := 7) (m := 9) (nx := 53) (r := 9) (tl := [(0, a)]) (st' := []) (by decide +kernel) rfl (by decide +kernel) (Nat.ble_eq_true_of_le (by omega)) (x280 a D0 pa HS h12 Ch12) ?_
            rintro v14 h15 ⟨Ch15, Qh15, f13⟩
            have Xh15 : zXR msxK (0) (0) h h15 := Xh12.tr (c2 := 0) (s2 := 0) Qh15 (by decide +kernel) (by decide) (by decide)
            refine zwif_eq (q := 70) (nx := 56) (by decide +kernel) (fun c16 => ?_) (fun c16 => ?_)
            · refine zwW_p [(0, 0, 0), (2, 2, 0)] (q := 72) (ls' := [(2, 9), (0, a), (0, 0), (0, v3L4), (0, v9)]) (st' := []) (by decide +kernel) rfl ?_
              refine zwW_inc (i := 3) (c := 1) (x := v3L4) (nx := 75) (by decide +kernel) rfl ⟨by omega, by omega⟩ (ls' := [(2, 9), (0, a), (0, 0), (0, (v3L4 + 1)), (0, v9)]) rfl ?_
              refine zwW_p [(24, 8, 0)] (q := 8) (ls' := [(2, 9), (0, a), (0, 0), (0, (v3L4 + 1)), (0, v9)]) (st' := []) (by decide +kernel) rfl ?_
              exact IHL4 ((1000 - (v3L4 + 1))).toNat (by omega) 0 (v3L4 + 1) (0, v9) h15 rfl (by omega) (by omega) Ch15 (Xh15.le (by decide) (by decide))
            · refine zwW_p [(1, 0, 2), (1, 4, 0)] (q := 59) (ls' := [(2, 9), (0, a), (0, v2L4), (0, v3L4), (0, v9)]) (st' := [(0, v9), (2, 9)]) (by decide +kernel) rfl ?_
              refine zwW_ngw (nx := 60) (by decide +kernel) ?_
              intro v17 ev17 lv17 uv17
              refine zwW_cm Ch15.1 (op := 60) (k' := 243) (n := 1) (kd := 7) (m := 9) (nx := 63) (r := 9) (tl := [(0, v17)]) (st' := []) (by decide +kernel) rfl (by decide +kernel) (Nat.ble_eq_true_of_le (by omega)) (x243 h15 Ch15 v17 (by omega)) ?_
              rintro v19 h20 ⟨Ch20, Qh20, f18⟩
              have Xh20 : zXR msxK (0) (0) h h20 := Xh15.tr (c2 := 0) (s2 := 0) Qh20 (by decide +kernel) (by decide) (by decide)
              refine zwif_eq (q := 70) (nx := 66) (by decide +kernel) (fun c21 => ?_) (fun c21 => ?_)
              · refine zwW_p [(0, 0, 0), (2, 2, 0)] (q := 72) (ls' := [(2, 9), (0, a), (0, 0), (0, v3L4), (0, v9)]) (st' := []) (by decide +kernel) rfl ?_
                refine zwW_inc (i := 3) (c := 1) (x := v3L4) (nx := 75) (by decide +kernel) rfl ⟨by omega, by omega⟩ (ls' := [(2, 9), (0, a), (0, 0), (0, (v3L4 + 1)), (0, v9)]) rfl ?_
                refine zwW_p [(24, 8, 0)] (q := 8) (ls' := [(2, 9), (0, a), (0, 0), (0, (v3L4 + 1)), (0, v9)]) (st' := []) (by decide +kernel) rfl ?_
                exact IHL4 ((1000 - (v3L4 + 1))).toNat (by omega) 0 (v3L4 + 1) (0, v9) h20 rfl (by omega) (by omega) Ch20 (Xh20.le (by decide) (by decide))
              · refine zwW_p [(0, 1, 0), (24, 71, 0), (2, 2, 0)] (q := 72) (ls' := [(2, 9), (0, a), (0, 1), (0, v3L4), (0, v9)]) (st' := []) (by decide +kernel) rfl ?_
                refine zwW_inc (i := 3) (c := 1) (x := v3L4) (nx := 75) (by decide +kernel) rfl ⟨by omega, by omega⟩ (ls' := [(2, 9), (0, a), (0, 1), (0, (v3L4 + 1)), (0, v9)]) rfl ?_
                refine zwW_p [(24, 8, 0)] (q := 8) (ls' := [(2, 9), (0, a), (0, 1), (0, (v3L4 + 1)), (0, v9)]) (st' := []) (by decide +kernel) rfl ?_
                exact IHL4 ((1000 - (v3L4 + 1))).toNat (by omega) 1 (v3L4 + 1) (0, v9) h20 rfl (by omega) (by omega) Ch20 (Xh20.le (by decide) (by decide))
          · refine zwW_p [(1, 0, 2)] (q := 29) (ls' := [(2, 9), (0, a), (0, v2L4), (0, v3L4), w4L4]) (st' := [(2, 9)]) (by decide +kernel) rfl ?_
            refine zwW_gs ChL4.1 (kd := 7) (bn := 4) (n := 9) (t := 0) (lo := -2147483648) (hi := 2147483647) (nx := 32) (by decide +kernel) ?_
            intro v22 ev22 lv22 uv22
            refine zwW_p [(0, 47, 0)] (q := 34) (ls' := [(2, 9), (0, a), (0, v2L4), (0, v3L4), w4L4]) (st' := [(0, 47), (0, v22)]) (by decide +kernel) rfl ?_
            refine zwic_ne (q := 78) (nx := 37) (by decide +kernel) (fun c23 => ?_) (fun c23 => ?_)
            · refine zwW_p [(1, 2, 0)] (q := 79) (ls' := [(2, 9), (0, a), (0, v2L4), (0, v3L4), w4L4]) (st' := [(0, v2L4)]) (by decide +kernel) rfl ?_
              refine zwW_ret (nx := 80) (a := 1) (b := 0) (by decide +kernel) rfl (Or.inr (Or.inl ⟨rfl, by omega⟩)) ?_
              exact ⟨ChL4, XhL4.le (by decide) (by decide), by omega⟩
            · refine zwW_p [(1, 0, 2)] (q := 38) (ls' := [(2, 9), (0, a), (0, v2L4), (0, v3L4), w4L4]) (st' := [(2, 9)]) (by decide +kernel) rfl ?_
              refine zwW_gs ChL4.1 (kd := 7) (bn := 4) (n := 9) (t := 0) (lo := -2147483648) (hi := 2147483647) (nx := 41) (by decide +kernel) ?_
              intro v24 ev24 lv24 uv24
              refine zwW_p [(2, 4, 0), (1, 0, 2)] (q := 44) (ls' := [(2, 9), (0, a), (0, v2L4), (0, v3L4), (0, v24)]) (st' := [(2, 9)]) (by decide +kernel) rfl ?_
              refine zwW_cm ChL4.1 (op := 60) (k' := 198) (n := 0) (kd := 7) (m := 9) (nx := 47) (r := 9) (tl := []) (st' := []) (by decide +kernel) rfl (by decide +kernel) (Nat.ble_eq_true_of_le (by omega)) (x198 hL4 ChL4) ?_
              rintro v26 h27 ⟨Ch27, Qh27, f25⟩
              have Xh27 : zXR msxK (0) (0) h h27 := XhL4.tr (c2 := 0) (s2 := 0) Qh27 (by decide +kernel) (by decide) (by decide)
              refine zwW_p [(15, 0, 0), (1, 0, 2), (1, 1, 0)] (q := 50) (ls' := [(2, 9), (0, a), (0, v2L4), (0, v3L4), (0, v24)]) (st' := [(0, a), (2, 9)]) (by decide +kernel) rfl ?_
              refine zwW_cm Ch27.1 (op := 60) (k' := 280) (n := 1) (kd := 7) (m := 9) (nx := 53) (r := 9) (tl := [(0, a)]) (st' := []) (by decide +kernel) rfl (by decide +kernel) (Nat.ble_eq_true_of_le (by omega)) (x280 a D0 pa HS h27 Ch27) ?_
              rintro v29 h30 ⟨Ch30, Qh30, f28⟩
              have Xh30 : zXR msxK (0) (0) h h30 := Xh27.tr (c2 := 0) (s2 := 0) Qh30 (by decide +kernel) (by decide) (by decide)
              refine zwif_eq (q := 70) (nx := 56) (by decide +kernel) (fun c31 => ?_) (fun c31 => ?_)
              · refine zwW_p [(0, 0, 0), (2, 2, 0)] (q := 72) (ls' := [(2, 9), (0, a), (0, 0), (0, v3L4), (0, v24)]) (st' := []) (by decide +kernel) rfl ?_
                refine zwW_inc (i := 3) (c := 1) (x := v3L4) (nx := 75) (by decide +kernel) rfl ⟨by omega, by omega⟩ (ls' := [(2, 9), (0, a), (0, 0), (0, (v3L4 + 1)), (0, v24)]) rfl ?_
                refine zwW_p [(24, 8, 0)] (q := 8) (ls' := [(2, 9), (0, a), (0, 0), (0, (v3L4 + 1)), (0, v24)]) (st' := []) (by decide +kernel) rfl ?_
                exact IHL4 ((1000 - (v3L4 + 1))).toNat (by omega) 0 (v3L4 + 1) (0, v24) h30 rfl (by omega) (by omega) Ch30 (Xh30.le (by decide) (by decide))
              · refine zwW_p [(1, 0, 2), (1, 4, 0)] (q := 59) (ls' := [(2, 9), (0, a), (0, v2L4), (0, v3L4), (0, v24)]) (st' := [(0, v24), (2, 9)]) (by decide +kernel) rfl ?_
                refine zwW_ngw (nx := 60) (by decide +kernel) ?_
                intro v32 ev32 lv32 uv32
                refine zwW_cm Ch30.1 (op := 60) (k' := 243) (n := 1) (kd := 7) (m := 9) (nx := 63) (r := 9) (tl := [(0, v32)]) (st' := []) (by decide +kernel) rfl (by decide +kernel) (Nat.ble_eq_true_of_le (by omega)) (x243 h30 Ch30 v32 (by omega)) ?_
                rintro v34 h35 ⟨Ch35, Qh35, f33⟩
                have Xh35 : zXR msxK (0) (0) h h35 := Xh30.tr (c2 := 0) (s2 := 0) Qh35 (by decide +kernel) (by decide) (by decide)
                refine zwif_eq (q := 70) (nx := 66) (by decide +kernel) (fun c36 => ?_) (fun c36 => ?_)
                · refine zwW_p [(0, 0, 0), (2, 2, 0)] (q := 72) (ls' := [(2, 9), (0, a), (0, 0), (0, v3L4), (0, v24)]) (st' := []) (by decide +kernel) rfl ?_
                  refine zwW_inc (i := 3) (c := 1) (x := v3L4) (nx := 75) (by decide +kernel) rfl ⟨by omega, by omega⟩ (ls' := [(2, 9), (0, a), (0, 0), (0, (v3L4 + 1)), (0, v24)]) rfl ?_
                  refine zwW_p [(24, 8, 0)] (q := 8) (ls' := [(2, 9), (0, a), (0, 0), (0, (v3L4 + 1)), (0, v24)]) (st' := []) (by decide +kernel) rfl ?_
                  exact IHL4 ((1000 - (v3L4 + 1))).toNat (by omega) 0 (v3L4 + 1) (0, v24) h35 rfl (by omega) (by omega) Ch35 (Xh35.le (by decide) (by decide))
                · refine zwW_p [(0, 1, 0), (24, 71, 0), (2, 2, 0)] (q := 72) (ls' := [(2, 9), (0, a), (0, 1), (0, v3L4), (0, v24)]) (st' := []) (by decide +kernel) rfl ?_
                  refine zwW_inc (i := 3) (c := 1) (x := v3L4) (nx := 75) (by decide +kernel) rfl ⟨by omega, by omega⟩ (ls' := [(2, 9), (0, a), (0, 1), (0, (v3L4 + 1)), (0, v24)]) rfl ?_
                  refine zwW_p [(24, 8, 0)] (q := 8) (ls' := [(2, 9), (0, a), (0, 1), (0, (v3L4 + 1)), (0, v24)]) (st' := []) (by decide +kernel) rfl ?_
                  exact IHL4 ((1000 - (v3L4 + 1))).toNat (by omega) 1 (v3L4 + 1) (0, v24) h35 rfl (by omega) (by omega) Ch35 (Xh35.le (by decide) (by decide))
  exact L4 _ v2 0 (9, 0) h3 rfl (by omega) (by omega) Ch3 (Xh3.le (by decide) (by decide))
-- WheelLand$Reader.sum(I)Z
theorem x241 {sc : List Int} (a : Int) (D0 : Nat) (pa : 0 ≤ a ∧ a ≤ 8) (HS : a < 8 → zKX sc D0 241 (a + 1)) : zKX sc (D0 + 22) 241 a := by
  intro h C
  refine zwC_of (D := D0 + 21) 5 (by decide +kernel) rfl (ls := [(2, 9), (0, a), (9, 0), (9, 0), (9, 0)]) rfl ?_
  have X : zXR msxK 0 0 h h := zXR.rf _ _
  refine zwW_p [(1, 0, 2), (1, 1, 0)] (q := 2) (ls' := [(2, 9), (0, a), (9, 0), (9, 0), (9, 0)]) (st' := [(0, a), (2, 9)]) (by decide +kernel) rfl ?_
  refine zwW_cm C.1 (op := 60) (k' := 262) (n := 1) (kd := 7) (m := 9) (nx := 5) (r := 9) (tl := [(0, a)]) (st' := []) (by decide +kernel) rfl (by decide +kernel) (Nat.ble_eq_true_of_le (by omega)) (x262 a D0 pa HS h C) ?_
  rintro v2 h3 ⟨Ch3, Qh3, f1⟩
  have Xh3 : zXR msxK (0) (0) h h3 := X.tr (c2 := 0) (s2 := 0) Qh3 (by decide +kernel) (by decide) (by decide)
  refine zwW_p [(2, 2, 0), (0, 0, 0), (2, 3, 0)] (q := 8) (ls' := [(2, 9), (0, a), (0, v2), (0, 0), (9, 0)]) (st' := []) (by decide +kernel) rfl ?_
  have L4 : ∀ (n : Nat) (v2L4 v3L4 : Int) (w4L4 : Vl) (hL4 : Hp), n = ((1000 - v3L4)).toNat → (0 ≤ v2L4 ∧ v2L4 ≤ 1) → (0 ≤ v3L4 ∧ v3L4 ≤ 1000) → CI hL4 → zXR msxK (0) (0) h hL4 → zwW sc (D0 + 21) 241 8 [(2, 9), (0, a), (0, v2L4), (0, v3L4), w4L4] [] hL4 (zwRt 0 (fun x g => CI g ∧ zXR msxK (0) (0) h g ∧ (0 ≤ x ∧ x ≤ 1))) := by
    intro n
    induction n using Nat.strongRecOn with
    | ind n IHL4 =>
      intro v2L4 v3L4 w4L4 hL4 hnL4 iL4_0 iL4_1 ChL4 XhL4
      refine zwW_p [(1, 3, 0), (0, 400, 0)] (q := 12) (ls' := [(2, 9), (0, a), (0, v2L4), (0, v3L4), w4L4]) (st' := [(0, 400), (0, v3L4)]) (by decide +kernel) rfl ?_
      refine zwic_ge (q := 78) (nx := 15) (by decide +kernel) (fun c5 => ?_) (fun c5 => ?_)
      · refine zwW_p [(1, 2, 0)] (q := 79) (ls' := [(2, 9), (0, a), (0, v2L4), (0, v3L4), w4L4]) (st' := [(0, v2L4)]) (by decide +kernel) rfl ?_
        refine zwW_ret (nx := 80) (a := 1) (b := 0) (by decide +kernel) rfl (Or.inr (Or.inl ⟨rfl, by omega⟩)) ?_
        exact ⟨ChL4, XhL4.le (by decide) (by decide), by omega⟩
      · refine zwW_p [(1, 2, 0)] (q := 16) (ls' := [(2, 9), (0, a), (0, v2L4), (0, v3L4), w4L4]) (st' := [(0, v2L4)]) (by decide +kernel) rfl ?_
        refine zwif_eq (q := 78) (nx := 19) (by decide +kernel) (fun c6 => ?_) (fun c6 => ?_)
        · refine zwW_p [(1, 2, 0)] (q := 79) (ls' := [(2, 9), (0, a), (0, v2L4), (0, v3L4), w4L4]) (st' := [(0, v2L4)]) (by decide +kernel) rfl ?_
          refine zwW_ret (nx := 80) (a := 1) (b := 0) (by decide +kernel) rfl (Or.inr (Or.inl ⟨rfl, by omega⟩)) ?_
          exact ⟨ChL4, XhL4.le (by decide) (by decide), by omega⟩
        · refine zwW_p [(1, 0, 2)] (q := 20) (ls' := [(2, 9), (0, a), (0, v2L4), (0, v3L4), w4L4]) (st' := [(2, 9)]) (by decide +kernel) rfl ?_
          refine zwW_gs ChL4.1 (kd := 7) (bn := 4) (n := 9) (t := 0) (lo := -2147483648) (hi := 2147483647) (nx := 23) (by decide +kernel) ?_
          intro v7 ev7 lv7 uv7
          refine zwW_p [(0, 43, 0)] (q := 25) (ls' := [(2, 9), (0, a), (0, v2L4), (0, v3L4), w4L4]) (st' := [(0, 43), (0, v7)]) (by decide +kernel) rfl ?_
          refine zwic_eq (q := 37) (nx := 28) (by decide +kernel) (fun c8 => ?_) (fun c8 => ?_)
          · refine zwW_p [(1, 0, 2)] (q := 38) (ls' := [(2, 9), (0, a), (0, v2L4), (0, v3L4), w4L4]) (st' := [(2, 9)]) (by decide +kernel) rfl ?_
            refine zwW_gs ChL4.1 (kd := 7) (bn := 4) (n := 9) (t := 0) (lo := -2147483648) (hi := 2147483647) (nx := 41) (by decide +kernel) ?_
            intro v9 ev9 lv9 uv9
            refine zwW_p [(2, 4, 0), (1, 0, 2)] (q := 44) (ls' := [(2, 9), (0, a), (0, v2L4), (0, v3L4), (0, v9)]) (st' := [(2, 9)]) (by decide +kernel) rfl ?_
            refine zwW_cm ChL4.1 (op := 60) (k' := 198) (n := 0) (kd := 7) (m := 9) (nx := 47) (r := 9) (tl := []) (st' := []) (by decide +kernel) rfl (by decide +kernel) (Nat.ble_eq_true_of_le (by omega)) (x198 hL4 ChL4) ?_
            rintro v11 h12 ⟨Ch12, Qh12, f10⟩
            have Xh12 : zXR msxK (0) (0) h h12 := XhL4.tr (c2 := 0) (s2 := 0) Qh12 (by decide +kernel) (by decide) (by decide)
            refine zwW_p [(15, 0, 0), (1, 0, 2), (1, 1, 0)] (q := 50) (ls' := [(2, 9), (0, a), (0, v2L4), (0, v3L4), (0, v9)]) (st' := [(0, a), (2, 9)]) (by decide +kernel) rfl ?_
            refine zwW_cm Ch12.1 (op := 60) (k' := 262) (n := 1) (kd := 7) (m := 9) (nx := 53) (r := 9) (tl := [(0, a)]) (st' := []) (by decide +kernel) rfl (by decide +kernel) (Nat.ble_eq_true_of_le (by omega)) (x262 a D0 pa HS h12 Ch12) ?_
            rintro v14 h15 ⟨Ch15, Qh15, f13⟩
            have Xh15 : zXR msxK (0) (0) h h15 := Xh12.tr (c2 := 0) (s2 := 0) Qh15 (by decide +kernel) (by decide) (by decide)
            refine zwif_eq (q := 70) (nx := 56) (by decide +kernel) (fun c16 => ?_) (fun c16 => ?_)
            · refine zwW_p [(0, 0, 0), (2, 2, 0)] (q := 72) (ls' := [(2, 9), (0, a), (0, 0), (0, v3L4), (0, v9)]) (st' := []) (by decide +kernel) rfl ?_
              refine zwW_inc (i := 3) (c := 1) (x := v3L4) (nx := 75) (by decide +kernel) rfl ⟨by omega, by omega⟩ (ls' := [(2, 9), (0, a), (0, 0), (0, (v3L4 + 1)), (0, v9)]) rfl ?_
              refine zwW_p [(24, 8, 0)] (q := 8) (ls' := [(2, 9), (0, a), (0, 0), (0, (v3L4 + 1)), (0, v9)]) (st' := []) (by decide +kernel) rfl ?_
              exact IHL4 ((1000 - (v3L4 + 1))).toNat (by omega) 0 (v3L4 + 1) (0, v9) h15 rfl (by omega) (by omega) Ch15 (Xh15.le (by decide) (by decide))
            · refine zwW_p [(1, 0, 2), (1, 4, 0)] (q := 59) (ls' := [(2, 9), (0, a), (0, v2L4), (0, v3L4), (0, v9)]) (st' := [(0, v9), (2, 9)]) (by decide +kernel) rfl ?_
              refine zwW_ngw (nx := 60) (by decide +kernel) ?_
              intro v17 ev17 lv17 uv17
              refine zwW_cm Ch15.1 (op := 60) (k' := 243) (n := 1) (kd := 7) (m := 9) (nx := 63) (r := 9) (tl := [(0, v17)]) (st' := []) (by decide +kernel) rfl (by decide +kernel) (Nat.ble_eq_true_of_le (by omega)) (x243 h15 Ch15 v17 (by omega)) ?_
              rintro v19 h20 ⟨Ch20, Qh20, f18⟩
              have Xh20 : zXR msxK (0) (0) h h20 := Xh15.tr (c2 := 0) (s2 := 0) Qh20 (by decide +kernel) (by decide) (by decide)
              refine zwif_eq (q := 70) (nx := 66) (by decide +kernel) (fun c21 => ?_) (fun c21 => ?_)
              · refine zwW_p [(0, 0, 0), (2, 2, 0)] (q := 72) (ls' := [(2, 9), (0, a), (0, 0), (0, v3L4), (0, v9)]) (st' := []) (by decide +kernel) rfl ?_
                refine zwW_inc (i := 3) (c := 1) (x := v3L4) (nx := 75) (by decide +kernel) rfl ⟨by omega, by omega⟩ (ls' := [(2, 9), (0, a), (0, 0), (0, (v3L4 + 1)), (0, v9)]) rfl ?_
                refine zwW_p [(24, 8, 0)] (q := 8) (ls' := [(2, 9), (0, a), (0, 0), (0, (v3L4 + 1)), (0, v9)]) (st' := []) (by decide +kernel) rfl ?_
                exact IHL4 ((1000 - (v3L4 + 1))).toNat (by omega) 0 (v3L4 + 1) (0, v9) h20 rfl (by omega) (by omega) Ch20 (Xh20.le (by decide) (by decide))
              · refine zwW_p [(0, 1, 0), (24, 71, 0), (2, 2, 0)] (q := 72) (ls' := [(2, 9), (0, a), (0, 1), (0, v3L4), (0, v9)]) (st' := []) (by decide +kernel) rfl ?_
                refine zwW_inc (i := 3) (c := 1) (x := v3L4) (nx := 75) (by decide +kernel) rfl ⟨by omega, by omega⟩ (ls' := [(2, 9), (0, a), (0, 1), (0, (v3L4 + 1)), (0, v9)]) rfl ?_
                refine zwW_p [(24, 8, 0)] (q := 8) (ls' := [(2, 9), (0, a), (0, 1), (0, (v3L4 + 1)), (0, v9)]) (st' := []) (by decide +kernel) rfl ?_
                exact IHL4 ((1000 - (v3L4 + 1))).toNat (by omega) 1 (v3L4 + 1) (0, v9) h20 rfl (by omega) (by omega) Ch20 (Xh20.le (by decide) (by decide))
          · refine zwW_p [(1, 0, 2)] (q := 29) (ls' := [(2, 9), (0, a), (0, v2L4), (0, v3L4), w4L4]) (st' := [(2, 9)]) (by decide +kernel) rfl ?_
            refine zwW_gs ChL4.1 (kd := 7) (bn := 4) (n := 9) (t := 0) (lo := -2147483648) (hi := 2147483647) (nx := 32) (by decide +kernel) ?_
            intro v22 ev22 lv22 uv22
            refine zwW_p [(0, 45, 0)] (q := 34) (ls' := [(2, 9), (0, a), (0, v2L4), (0, v3L4), w4L4]) (st' := [(0, 45), (0, v22)]) (by decide +kernel) rfl ?_
            refine zwic_ne (q := 78) (nx := 37) (by decide +kernel) (fun c23 => ?_) (fun c23 => ?_)
            · refine zwW_p [(1, 2, 0)] (q := 79) (ls' := [(2, 9), (0, a), (0, v2L4), (0, v3L4), w4L4]) (st' := [(0, v2L4)]) (by decide +kernel) rfl ?_
              refine zwW_ret (nx := 80) (a := 1) (b := 0) (by decide +kernel) rfl (Or.inr (Or.inl ⟨rfl, by omega⟩)) ?_
              exact ⟨ChL4, XhL4.le (by decide) (by decide), by omega⟩
            · refine zwW_p [(1, 0, 2)] (q := 38) (ls' := [(2, 9), (0, a), (0, v2L4), (0, v3L4), w4L4]) (st' := [(2, 9)]) (by decide +kernel) rfl ?_
              refine zwW_gs ChL4.1 (kd := 7) (bn := 4) (n := 9) (t := 0) (lo := -2147483648) (hi := 2147483647) (nx := 41) (by decide +kernel) ?_
              intro v24 ev24 lv24 uv24
              refine zwW_p [(2, 4, 0), (1, 0, 2)] (q := 44) (ls' := [(2, 9), (0, a), (0, v2L4), (0, v3L4), (0, v24)]) (st' := [(2, 9)]) (by decide +kernel) rfl ?_
              refine zwW_cm ChL4.1 (op := 60) (k' := 198) (n := 0) (kd := 7) (m := 9) (nx := 47) (r := 9) (tl := []) (st' := []) (by decide +kernel) rfl (by decide +kernel) (Nat.ble_eq_true_of_le (by omega)) (x198 hL4 ChL4) ?_
              rintro v26 h27 ⟨Ch27, Qh27, f25⟩
              have Xh27 : zXR msxK (0) (0) h h27 := XhL4.tr (c2 := 0) (s2 := 0) Qh27 (by decide +kernel) (by decide) (by decide)
              refine zwW_p [(15, 0, 0), (1, 0, 2), (1, 1, 0)] (q := 50) (ls' := [(2, 9), (0, a), (0, v2L4), (0, v3L4), (0, v24)]) (st' := [(0, a), (2, 9)]) (by decide +kernel) rfl ?_
              refine zwW_cm Ch27.1 (op := 60) (k' := 262) (n := 1) (kd := 7) (m := 9) (nx := 53) (r := 9) (tl := [(0, a)]) (st' := []) (by decide +kernel) rfl (by decide +kernel) (Nat.ble_eq_true_of_le (by omega)) (x262 a D0 pa HS h27 Ch27) ?_
              rintro v29 h30 ⟨Ch30, Qh30, f28⟩
              have Xh30 : zXR msxK (0) (0) h h30 := Xh27.tr (c2 := 0) (s2 := 0) Qh30 (by decide +kernel) (by decide) (by decide)
              refine zwif_eq (q := 70) (nx := 56) (by decide +kernel) (fun c31 => ?_) (fun c31 => ?_)
              · refine zwW_p [(0, 0, 0), (2, 2, 0)] (q := 72) (ls' := [(2, 9), (0, a), (0, 0), (0, v3L4), (0, v24)]) (st' := []) (by decide +kernel) rfl ?_
                refine zwW_inc (i := 3) (c := 1) (x := v3L4) (nx := 75) (by decide +kernel) rfl ⟨by omega, by omega⟩ (ls' := [(2, 9), (0, a), (0, 0), (0, (v3L4 + 1)), (0, v24)]) rfl ?_
                refine zwW_p [(24, 8, 0)] (q := 8) (ls' := [(2, 9), (0, a), (0, 0), (0, (v3L4 + 1)), (0, v24)]) (st' := []) (by decide +kernel) rfl ?_
                exact IHL4 ((1000 - (v3L4 + 1))).toNat (by omega) 0 (v3L4 + 1) (0, v24) h30 rfl (by omega) (by omega) Ch30 (Xh30.le (by decide) (by decide))
              · refine zwW_p [(1, 0, 2), (1, 4, 0)] (q := 59) (ls' := [(2, 9), (0, a), (0, v2L4), (0, v3L4), (0, v24)]) (st' := [(0, v24), (2, 9)]) (by decide +kernel) rfl ?_
                refine zwW_ngw (nx := 60) (by decide +kernel) ?_
                intro v32 ev32 lv32 uv32
                refine zwW_cm Ch30.1 (op := 60) (k' := 243) (n := 1) (kd := 7) (m := 9) (nx := 63) (r := 9) (tl := [(0, v32)]) (st' := []) (by decide +kernel) rfl (by decide +kernel) (Nat.ble_eq_true_of_le (by omega)) (x243 h30 Ch30 v32 (by omega)) ?_
                rintro v34 h35 ⟨Ch35, Qh35, f33⟩
                have Xh35 : zXR msxK (0) (0) h h35 := Xh30.tr (c2 := 0) (s2 := 0) Qh35 (by decide +kernel) (by decide) (by decide)
                refine zwif_eq (q := 70) (nx := 66) (by decide +kernel) (fun c36 => ?_) (fun c36 => ?_)
                · refine zwW_p [(0, 0, 0), (2, 2, 0)] (q := 72) (ls' := [(2, 9), (0, a), (0, 0), (0, v3L4), (0, v24)]) (st' := []) (by decide +kernel) rfl ?_
                  refine zwW_inc (i := 3) (c := 1) (x := v3L4) (nx := 75) (by decide +kernel) rfl ⟨by omega, by omega⟩ (ls' := [(2, 9), (0, a), (0, 0), (0, (v3L4 + 1)), (0, v24)]) rfl ?_
                  refine zwW_p [(24, 8, 0)] (q := 8) (ls' := [(2, 9), (0, a), (0, 0), (0, (v3L4 + 1)), (0, v24)]) (st' := []) (by decide +kernel) rfl ?_
                  exact IHL4 ((1000 - (v3L4 + 1))).toNat (by omega) 0 (v3L4 + 1) (0, v24) h35 rfl (by omega) (by omega) Ch35 (Xh35.le (by decide) (by decide))
                · refine zwW_p [(0, 1, 0), (24, 71, 0), (2, 2, 0)] (q := 72) (ls' := [(2, 9), (0, a), (0, 1), (0, v3L4), (0, v24)]) (st' := []) (by decide +kernel) rfl ?_
                  refine zwW_inc (i := 3) (c := 1) (x := v3L4) (nx := 75) (by decide +kernel) rfl ⟨by omega, by omega⟩ (ls' := [(2, 9), (0, a), (0, 1), (0, (v3L4 + 1)), (0, v24)]) rfl ?_
                  refine zwW_p [(24, 8, 0)] (q := 8) (ls' := [(2, 9), (0, a), (0, 1), (0, (v3L4 + 1)), (0, v24)]) (st' := []) (by decide +kernel) rfl ?_
                  exact IHL4 ((1000 - (v3L4 + 1))).toNat (by omega) 1 (v3L4 + 1) (0, v24) h35 rfl (by omega) (by omega) Ch35 (Xh35.le (by decide) (by decide))
  exact L4 _ v2 0 (9, 0) h3 rfl (by omega) (by omega) Ch3 (Xh3.le (by decide) (by decide))
-- WheelLand$Reader.holds(I)Z
theorem x281 {sc : List Int} (a : Int) (D0 : Nat) (pa : 0 ≤ a ∧ a ≤ 8) (HS : a < 8 → zKX sc D0 241 (a + 1)) (HT : a < 8 → zKX sc D0 281 (a + 1)) (HE : a < 8 → zKX sc D0 242 (a + 1)) : zKX sc (D0 + 23) 281 a := by
  intro h C
  refine zwC_of (D := D0 + 22) 3 (by decide +kernel) rfl (ls := [(2, 9), (0, a), (9, 0)]) rfl ?_
  have X : zXR msxK 0 0 h h := zXR.rf _ _
  refine zwW_p [(1, 0, 2), (0, 20, 0)] (q := 3) (ls' := [(2, 9), (0, a), (9, 0)]) (st' := [(0, 20), (2, 9)]) (by decide +kernel) rfl ?_
  refine zwW_cm C.1 (op := 60) (k' := 264) (n := 1) (kd := 7) (m := 9) (nx := 6) (r := 9) (tl := [(0, 20)]) (st' := []) (by decide +kernel) rfl (by decide +kernel) (Nat.ble_eq_true_of_le (by omega)) (x264 h C 20 (by omega)) ?_
  rintro x _ ⟨rfl, ⟨rfl, c1⟩ | ⟨rfl, c1⟩⟩
  · refine zwif_eq (q := 47) (nx := 9) (by decide +kernel) (fun c2 => ?_) (fun c2 => ?_)
    · exfalso; omega
    · refine zwW_p [(1, 1, 0), (0, 8, 0)] (q := 12) (ls' := [(2, 9), (0, a), (9, 0)]) (st' := [(0, 8), (0, a)]) (by decide +kernel) rfl ?_
      refine zwic_ge (q := 45) (nx := 15) (by decide +kernel) (fun c3 => ?_) (fun c3 => ?_)
      · refine zwW_p [(0, 0, 0)] (q := 46) (ls' := [(2, 9), (0, a), (9, 0)]) (st' := [(0, 0)]) (by decide +kernel) rfl ?_
        refine zwW_ret (nx := 47) (a := 1) (b := 0) (by decide +kernel) rfl (Or.inr (Or.inl ⟨rfl, by omega⟩)) ?_
        exact ⟨C, X.le (by decide) (by decide), by omega⟩
      · refine zwW_p [(1, 0, 2)] (q := 16) (ls' := [(2, 9), (0, a), (9, 0)]) (st' := [(2, 9)]) (by decide +kernel) rfl ?_
        refine zwW_cm C.1 (op := 60) (k' := 198) (n := 0) (kd := 7) (m := 9) (nx := 19) (r := 9) (tl := []) (st' := []) (by decide +kernel) rfl (by decide +kernel) (Nat.ble_eq_true_of_le (by omega)) (x198 h C) ?_
        rintro v5 h6 ⟨Ch6, Qh6, f4⟩
        have Xh6 : zXR msxK (0) (0) h h6 := X.tr (c2 := 0) (s2 := 0) Qh6 (by decide +kernel) (by decide) (by decide)
        refine zwif_eq (q := 45) (nx := 22) (by decide +kernel) (fun c7 => ?_) (fun c7 => ?_)
        · refine zwW_p [(0, 0, 0)] (q := 46) (ls' := [(2, 9), (0, a), (9, 0)]) (st' := [(0, 0)]) (by decide +kernel) rfl ?_
          refine zwW_ret (nx := 47) (a := 1) (b := 0) (by decide +kernel) rfl (Or.inr (Or.inl ⟨rfl, by omega⟩)) ?_
          exact ⟨Ch6, Xh6.le (by decide) (by decide), by omega⟩
        · refine zwW_p [(1, 0, 2), (1, 1, 0), (0, 1, 0)] (q := 25) (ls' := [(2, 9), (0, a), (9, 0)]) (st' := [(0, 1), (0, a), (2, 9)]) (by decide +kernel) rfl ?_
          refine zwW_add (nx := 26) (by decide +kernel) ⟨by omega, by omega⟩ ?_
          refine zwW_cm Ch6.1 (op := 60) (k' := 281) (n := 1) (kd := 7) (m := 9) (nx := 29) (r := 9) (tl := [(0, (a + 1))]) (st' := []) (by decide +kernel) rfl (by decide +kernel) (Nat.ble_eq_true_of_le (by omega)) (HT (by omega) h6 Ch6) ?_
          rintro v9 h10 ⟨Ch10, Qh10, f8⟩
          have Xh10 : zXR msxK (0) (0) h h10 := Xh6.tr (c2 := 0) (s2 := 0) Qh10 (by decide +kernel) (by decide) (by decide)
          refine zwif_eq (q := 45) (nx := 32) (by decide +kernel) (fun c11 => ?_) (fun c11 => ?_)
          · refine zwW_p [(0, 0, 0)] (q := 46) (ls' := [(2, 9), (0, a), (9, 0)]) (st' := [(0, 0)]) (by decide +kernel) rfl ?_
            refine zwW_ret (nx := 47) (a := 1) (b := 0) (by decide +kernel) rfl (Or.inr (Or.inl ⟨rfl, by omega⟩)) ?_
            exact ⟨Ch10, Xh10.le (by decide) (by decide), by omega⟩
          · refine zwW_p [(1, 0, 2), (0, -20, 0)] (q := 35) (ls' := [(2, 9), (0, a), (9, 0)]) (st' := [(0, -20), (2, 9)]) (by decide +kernel) rfl ?_
            refine zwW_cm Ch10.1 (op := 60) (k' := 243) (n := 1) (kd := 7) (m := 9) (nx := 38) (r := 9) (tl := [(0, -20)]) (st' := []) (by decide +kernel) rfl (by decide +kernel) (Nat.ble_eq_true_of_le (by omega)) (x243 h10 Ch10 (-20) (by omega)) ?_
            rintro v13 h14 ⟨Ch14, Qh14, f12⟩
            have Xh14 : zXR msxK (0) (0) h h14 := Xh10.tr (c2 := 0) (s2 := 0) Qh14 (by decide +kernel) (by decide) (by decide)
            refine zwif_eq (q := 45) (nx := 41) (by decide +kernel) (fun c15 => ?_) (fun c15 => ?_)
            · refine zwW_p [(0, 0, 0)] (q := 46) (ls' := [(2, 9), (0, a), (9, 0)]) (st' := [(0, 0)]) (by decide +kernel) rfl ?_
              refine zwW_ret (nx := 47) (a := 1) (b := 0) (by decide +kernel) rfl (Or.inr (Or.inl ⟨rfl, by omega⟩)) ?_
              exact ⟨Ch14, Xh14.le (by decide) (by decide), by omega⟩
            · refine zwW_p [(0, 1, 0), (24, 46, 0)] (q := 46) (ls' := [(2, 9), (0, a), (9, 0)]) (st' := [(0, 1)]) (by decide +kernel) rfl ?_
              refine zwW_ret (nx := 47) (a := 1) (b := 0) (by decide +kernel) rfl (Or.inr (Or.inl ⟨rfl, by omega⟩)) ?_
              exact ⟨Ch14, Xh14.le (by decide) (by decide), by omega⟩
  · refine zwif_eq (q := 47) (nx := 9) (by decide +kernel) (fun c16 => ?_) (fun c16 => ?_)
    · refine zwW_p [(1, 0, 2)] (q := 48) (ls' := [(2, 9), (0, a), (9, 0)]) (st' := [(2, 9)]) (by decide +kernel) rfl ?_
      refine zwW_gs C.1 (kd := 7) (bn := 4) (n := 9) (t := 0) (lo := -2147483648) (hi := 2147483647) (nx := 51) (by decide +kernel) ?_
      intro v17 ev17 lv17 uv17
      refine zwW_p [(0, 91, 0)] (q := 53) (ls' := [(2, 9), (0, a), (9, 0)]) (st' := [(0, 91), (0, v17)]) (by decide +kernel) rfl ?_
      refine zwic_ne (q := 101) (nx := 56) (by decide +kernel) (fun c18 => ?_) (fun c18 => ?_)
      · refine zwW_p [(1, 0, 2), (1, 1, 0)] (q := 103) (ls' := [(2, 9), (0, a), (9, 0)]) (st' := [(0, a), (2, 9)]) (by decide +kernel) rfl ?_
        refine zwW_cm C.1 (op := 60) (k' := 241) (n := 1) (kd := 7) (m := 9) (nx := 106) (r := 9) (tl := [(0, a)]) (st' := []) (by decide +kernel) rfl (by decide +kernel) (Nat.ble_eq_true_of_le (by omega)) (x241 a D0 pa HS h C) ?_
        rintro v20 h21 ⟨Ch21, Qh21, f19⟩
        have Xh21 : zXR msxK (0) (0) h h21 := X.tr (c2 := 0) (s2 := 0) Qh21 (by decide +kernel) (by decide) (by decide)
        refine zwif_ne (q := 111) (nx := 109) (by decide +kernel) (fun c22 => ?_) (fun c22 => ?_)
        · refine zwW_p [(1, 0, 2)] (q := 112) (ls' := [(2, 9), (0, a), (9, 0)]) (st' := [(2, 9)]) (by decide +kernel) rfl ?_
          refine zwW_gs Ch21.1 (kd := 7) (bn := 4) (n := 9) (t := 0) (lo := -2147483648) (hi := 2147483647) (nx := 115) (by decide +kernel) ?_
          intro v23 ev23 lv23 uv23
          refine zwW_p [(2, 2, 0), (1, 2, 0), (0, 60, 0)] (q := 119) (ls' := [(2, 9), (0, a), (0, v23)]) (st' := [(0, 60), (0, v23)]) (by decide +kernel) rfl ?_
          refine zwic_eq (q := 136) (nx := 122) (by decide +kernel) (fun c24 => ?_) (fun c24 => ?_)
          · refine zwW_p [(1, 0, 2)] (q := 137) (ls' := [(2, 9), (0, a), (0, v23)]) (st' := [(2, 9)]) (by decide +kernel) rfl ?_
            refine zwW_cm Ch21.1 (op := 60) (k' := 198) (n := 0) (kd := 7) (m := 9) (nx := 140) (r := 9) (tl := []) (st' := []) (by decide +kernel) rfl (by decide +kernel) (Nat.ble_eq_true_of_le (by omega)) (x198 h21 Ch21) ?_
            rintro v26 h27 ⟨Ch27, Qh27, f25⟩
            have Xh27 : zXR msxK (0) (0) h h27 := Xh21.tr (c2 := 0) (s2 := 0) Qh27 (by decide +kernel) (by decide) (by decide)
            refine zwif_eq (q := 164) (nx := 143) (by decide +kernel) (fun c28 => ?_) (fun c28 => ?_)
            · refine zwW_p [(0, 0, 0)] (q := 165) (ls' := [(2, 9), (0, a), (0, v23)]) (st' := [(0, 0)]) (by decide +kernel) rfl ?_
              refine zwW_ret (nx := 166) (a := 1) (b := 0) (by decide +kernel) rfl (Or.inr (Or.inl ⟨rfl, by omega⟩)) ?_
              exact ⟨Ch27, Xh27.le (by decide) (by decide), by omega⟩
            · refine zwW_p [(1, 0, 2), (1, 1, 0)] (q := 145) (ls' := [(2, 9), (0, a), (0, v23)]) (st' := [(0, a), (2, 9)]) (by decide +kernel) rfl ?_
              refine zwW_cm Ch27.1 (op := 60) (k' := 241) (n := 1) (kd := 7) (m := 9) (nx := 148) (r := 9) (tl := [(0, a)]) (st' := []) (by decide +kernel) rfl (by decide +kernel) (Nat.ble_eq_true_of_le (by omega)) (x241 a D0 pa HS h27 Ch27) ?_
              rintro v30 h31 ⟨Ch31, Qh31, f29⟩
              have Xh31 : zXR msxK (0) (0) h h31 := Xh27.tr (c2 := 0) (s2 := 0) Qh31 (by decide +kernel) (by decide) (by decide)
              refine zwif_eq (q := 164) (nx := 151) (by decide +kernel) (fun c32 => ?_) (fun c32 => ?_)
              · refine zwW_p [(0, 0, 0)] (q := 165) (ls' := [(2, 9), (0, a), (0, v23)]) (st' := [(0, 0)]) (by decide +kernel) rfl ?_
                refine zwW_ret (nx := 166) (a := 1) (b := 0) (by decide +kernel) rfl (Or.inr (Or.inl ⟨rfl, by omega⟩)) ?_
                exact ⟨Ch31, Xh31.le (by decide) (by decide), by omega⟩
              · refine zwW_p [(1, 0, 2), (1, 2, 0)] (q := 153) (ls' := [(2, 9), (0, a), (0, v23)]) (st' := [(0, v23), (2, 9)]) (by decide +kernel) rfl ?_
                refine zwW_neg (nx := 154) (by decide +kernel) ⟨by omega, by omega⟩ ?_
                refine zwW_cm Ch31.1 (op := 60) (k' := 243) (n := 1) (kd := 7) (m := 9) (nx := 157) (r := 9) (tl := [(0, (-v23))]) (st' := []) (by decide +kernel) rfl (by decide +kernel) (Nat.ble_eq_true_of_le (by omega)) (x243 h31 Ch31 (-v23) (by omega)) ?_
                rintro v34 h35 ⟨Ch35, Qh35, f33⟩
                have Xh35 : zXR msxK (0) (0) h h35 := Xh31.tr (c2 := 0) (s2 := 0) Qh35 (by decide +kernel) (by decide) (by decide)
                refine zwif_eq (q := 164) (nx := 160) (by decide +kernel) (fun c36 => ?_) (fun c36 => ?_)
                · refine zwW_p [(0, 0, 0)] (q := 165) (ls' := [(2, 9), (0, a), (0, v23)]) (st' := [(0, 0)]) (by decide +kernel) rfl ?_
                  refine zwW_ret (nx := 166) (a := 1) (b := 0) (by decide +kernel) rfl (Or.inr (Or.inl ⟨rfl, by omega⟩)) ?_
                  exact ⟨Ch35, Xh35.le (by decide) (by decide), by omega⟩
                · refine zwW_p [(0, 1, 0), (24, 165, 0)] (q := 165) (ls' := [(2, 9), (0, a), (0, v23)]) (st' := [(0, 1)]) (by decide +kernel) rfl ?_
                  refine zwW_ret (nx := 166) (a := 1) (b := 0) (by decide +kernel) rfl (Or.inr (Or.inl ⟨rfl, by omega⟩)) ?_
                  exact ⟨Ch35, Xh35.le (by decide) (by decide), by omega⟩
          · refine zwW_p [(1, 2, 0), (0, 62, 0)] (q := 125) (ls' := [(2, 9), (0, a), (0, v23)]) (st' := [(0, 62), (0, v23)]) (by decide +kernel) rfl ?_
            refine zwic_eq (q := 136) (nx := 128) (by decide +kernel) (fun c37 => ?_) (fun c37 => ?_)
            · refine zwW_p [(1, 0, 2)] (q := 137) (ls' := [(2, 9), (0, a), (0, v23)]) (st' := [(2, 9)]) (by decide +kernel) rfl ?_
              refine zwW_cm Ch21.1 (op := 60) (k' := 198) (n := 0) (kd := 7) (m := 9) (nx := 140) (r := 9) (tl := []) (st' := []) (by decide +kernel) rfl (by decide +kernel) (Nat.ble_eq_true_of_le (by omega)) (x198 h21 Ch21) ?_
              rintro v39 h40 ⟨Ch40, Qh40, f38⟩
              have Xh40 : zXR msxK (0) (0) h h40 := Xh21.tr (c2 := 0) (s2 := 0) Qh40 (by decide +kernel) (by decide) (by decide)
              refine zwif_eq (q := 164) (nx := 143) (by decide +kernel) (fun c41 => ?_) (fun c41 => ?_)
              · refine zwW_p [(0, 0, 0)] (q := 165) (ls' := [(2, 9), (0, a), (0, v23)]) (st' := [(0, 0)]) (by decide +kernel) rfl ?_
                refine zwW_ret (nx := 166) (a := 1) (b := 0) (by decide +kernel) rfl (Or.inr (Or.inl ⟨rfl, by omega⟩)) ?_
                exact ⟨Ch40, Xh40.le (by decide) (by decide), by omega⟩
              · refine zwW_p [(1, 0, 2), (1, 1, 0)] (q := 145) (ls' := [(2, 9), (0, a), (0, v23)]) (st' := [(0, a), (2, 9)]) (by decide +kernel) rfl ?_
                refine zwW_cm Ch40.1 (op := 60) (k' := 241) (n := 1) (kd := 7) (m := 9) (nx := 148) (r := 9) (tl := [(0, a)]) (st' := []) (by decide +kernel) rfl (by decide +kernel) (Nat.ble_eq_true_of_le (by omega)) (x241 a D0 pa HS h40 Ch40) ?_
                rintro v43 h44 ⟨Ch44, Qh44, f42⟩
                have Xh44 : zXR msxK (0) (0) h h44 := Xh40.tr (c2 := 0) (s2 := 0) Qh44 (by decide +kernel) (by decide) (by decide)
                refine zwif_eq (q := 164) (nx := 151) (by decide +kernel) (fun c45 => ?_) (fun c45 => ?_)
                · refine zwW_p [(0, 0, 0)] (q := 165) (ls' := [(2, 9), (0, a), (0, v23)]) (st' := [(0, 0)]) (by decide +kernel) rfl ?_
                  refine zwW_ret (nx := 166) (a := 1) (b := 0) (by decide +kernel) rfl (Or.inr (Or.inl ⟨rfl, by omega⟩)) ?_
                  exact ⟨Ch44, Xh44.le (by decide) (by decide), by omega⟩
                · refine zwW_p [(1, 0, 2), (1, 2, 0)] (q := 153) (ls' := [(2, 9), (0, a), (0, v23)]) (st' := [(0, v23), (2, 9)]) (by decide +kernel) rfl ?_
                  refine zwW_neg (nx := 154) (by decide +kernel) ⟨by omega, by omega⟩ ?_
                  refine zwW_cm Ch44.1 (op := 60) (k' := 243) (n := 1) (kd := 7) (m := 9) (nx := 157) (r := 9) (tl := [(0, (-v23))]) (st' := []) (by decide +kernel) rfl (by decide +kernel) (Nat.ble_eq_true_of_le (by omega)) (x243 h44 Ch44 (-v23) (by omega)) ?_
                  rintro v47 h48 ⟨Ch48, Qh48, f46⟩
                  have Xh48 : zXR msxK (0) (0) h h48 := Xh44.tr (c2 := 0) (s2 := 0) Qh48 (by decide +kernel) (by decide) (by decide)
                  refine zwif_eq (q := 164) (nx := 160) (by decide +kernel) (fun c49 => ?_) (fun c49 => ?_)
                  · refine zwW_p [(0, 0, 0)] (q := 165) (ls' := [(2, 9), (0, a), (0, v23)]) (st' := [(0, 0)]) (by decide +kernel) rfl ?_
                    refine zwW_ret (nx := 166) (a := 1) (b := 0) (by decide +kernel) rfl (Or.inr (Or.inl ⟨rfl, by omega⟩)) ?_
                    exact ⟨Ch48, Xh48.le (by decide) (by decide), by omega⟩
                  · refine zwW_p [(0, 1, 0), (24, 165, 0)] (q := 165) (ls' := [(2, 9), (0, a), (0, v23)]) (st' := [(0, 1)]) (by decide +kernel) rfl ?_
                    refine zwW_ret (nx := 166) (a := 1) (b := 0) (by decide +kernel) rfl (Or.inr (Or.inl ⟨rfl, by omega⟩)) ?_
                    exact ⟨Ch48, Xh48.le (by decide) (by decide), by omega⟩
            · refine zwW_p [(1, 2, 0), (0, 61, 0)] (q := 131) (ls' := [(2, 9), (0, a), (0, v23)]) (st' := [(0, 61), (0, v23)]) (by decide +kernel) rfl ?_
              refine zwic_eq (q := 136) (nx := 134) (by decide +kernel) (fun c50 => ?_) (fun c50 => ?_)
              · refine zwW_p [(1, 0, 2)] (q := 137) (ls' := [(2, 9), (0, a), (0, v23)]) (st' := [(2, 9)]) (by decide +kernel) rfl ?_
                refine zwW_cm Ch21.1 (op := 60) (k' := 198) (n := 0) (kd := 7) (m := 9) (nx := 140) (r := 9) (tl := []) (st' := []) (by decide +kernel) rfl (by decide +kernel) (Nat.ble_eq_true_of_le (by omega)) (x198 h21 Ch21) ?_
                rintro v52 h53 ⟨Ch53, Qh53, f51⟩
                have Xh53 : zXR msxK (0) (0) h h53 := Xh21.tr (c2 := 0) (s2 := 0) Qh53 (by decide +kernel) (by decide) (by decide)
                refine zwif_eq (q := 164) (nx := 143) (by decide +kernel) (fun c54 => ?_) (fun c54 => ?_)
                · refine zwW_p [(0, 0, 0)] (q := 165) (ls' := [(2, 9), (0, a), (0, v23)]) (st' := [(0, 0)]) (by decide +kernel) rfl ?_
                  refine zwW_ret (nx := 166) (a := 1) (b := 0) (by decide +kernel) rfl (Or.inr (Or.inl ⟨rfl, by omega⟩)) ?_
                  exact ⟨Ch53, Xh53.le (by decide) (by decide), by omega⟩
                · refine zwW_p [(1, 0, 2), (1, 1, 0)] (q := 145) (ls' := [(2, 9), (0, a), (0, v23)]) (st' := [(0, a), (2, 9)]) (by decide +kernel) rfl ?_
                  refine zwW_cm Ch53.1 (op := 60) (k' := 241) (n := 1) (kd := 7) (m := 9) (nx := 148) (r := 9) (tl := [(0, a)]) (st' := []) (by decide +kernel) rfl (by decide +kernel) (Nat.ble_eq_true_of_le (by omega)) (x241 a D0 pa HS h53 Ch53) ?_
                  rintro v56 h57 ⟨Ch57, Qh57, f55⟩
                  have Xh57 : zXR msxK (0) (0) h h57 := Xh53.tr (c2 := 0) (s2 := 0) Qh57 (by decide +kernel) (by decide) (by decide)
                  refine zwif_eq (q := 164) (nx := 151) (by decide +kernel) (fun c58 => ?_) (fun c58 => ?_)
                  · refine zwW_p [(0, 0, 0)] (q := 165) (ls' := [(2, 9), (0, a), (0, v23)]) (st' := [(0, 0)]) (by decide +kernel) rfl ?_
                    refine zwW_ret (nx := 166) (a := 1) (b := 0) (by decide +kernel) rfl (Or.inr (Or.inl ⟨rfl, by omega⟩)) ?_
                    exact ⟨Ch57, Xh57.le (by decide) (by decide), by omega⟩
                  · refine zwW_p [(1, 0, 2), (1, 2, 0)] (q := 153) (ls' := [(2, 9), (0, a), (0, v23)]) (st' := [(0, v23), (2, 9)]) (by decide +kernel) rfl ?_
                    refine zwW_neg (nx := 154) (by decide +kernel) ⟨by omega, by omega⟩ ?_
                    refine zwW_cm Ch57.1 (op := 60) (k' := 243) (n := 1) (kd := 7) (m := 9) (nx := 157) (r := 9) (tl := [(0, (-v23))]) (st' := []) (by decide +kernel) rfl (by decide +kernel) (Nat.ble_eq_true_of_le (by omega)) (x243 h57 Ch57 (-v23) (by omega)) ?_
                    rintro v60 h61 ⟨Ch61, Qh61, f59⟩
                    have Xh61 : zXR msxK (0) (0) h h61 := Xh57.tr (c2 := 0) (s2 := 0) Qh61 (by decide +kernel) (by decide) (by decide)
                    refine zwif_eq (q := 164) (nx := 160) (by decide +kernel) (fun c62 => ?_) (fun c62 => ?_)
                    · refine zwW_p [(0, 0, 0)] (q := 165) (ls' := [(2, 9), (0, a), (0, v23)]) (st' := [(0, 0)]) (by decide +kernel) rfl ?_
                      refine zwW_ret (nx := 166) (a := 1) (b := 0) (by decide +kernel) rfl (Or.inr (Or.inl ⟨rfl, by omega⟩)) ?_
                      exact ⟨Ch61, Xh61.le (by decide) (by decide), by omega⟩
                    · refine zwW_p [(0, 1, 0), (24, 165, 0)] (q := 165) (ls' := [(2, 9), (0, a), (0, v23)]) (st' := [(0, 1)]) (by decide +kernel) rfl ?_
                      refine zwW_ret (nx := 166) (a := 1) (b := 0) (by decide +kernel) rfl (Or.inr (Or.inl ⟨rfl, by omega⟩)) ?_
                      exact ⟨Ch61, Xh61.le (by decide) (by decide), by omega⟩
              · refine zwW_p [(0, 0, 0)] (q := 135) (ls' := [(2, 9), (0, a), (0, v23)]) (st' := [(0, 0)]) (by decide +kernel) rfl ?_
                refine zwW_ret (nx := 136) (a := 1) (b := 0) (by decide +kernel) rfl (Or.inr (Or.inl ⟨rfl, by omega⟩)) ?_
                exact ⟨Ch21, Xh21.le (by decide) (by decide), by omega⟩
        · refine zwW_p [(0, 0, 0)] (q := 110) (ls' := [(2, 9), (0, a), (9, 0)]) (st' := [(0, 0)]) (by decide +kernel) rfl ?_
          refine zwW_ret (nx := 111) (a := 1) (b := 0) (by decide +kernel) rfl (Or.inr (Or.inl ⟨rfl, by omega⟩)) ?_
          exact ⟨Ch21, Xh21.le (by decide) (by decide), by omega⟩
      · refine zwW_p [(1, 1, 0), (0, 8, 0)] (q := 59) (ls' := [(2, 9), (0, a), (9, 0)]) (st' := [(0, 8), (0, a)]) (by decide +kernel) rfl ?_
        refine zwic_ge (q := 99) (nx := 62) (by decide +kernel) (fun c63 => ?_) (fun c63 => ?_)
        · refine zwW_p [(0, 0, 0)] (q := 100) (ls' := [(2, 9), (0, a), (9, 0)]) (st' := [(0, 0)]) (by decide +kernel) rfl ?_
          refine zwW_ret (nx := 101) (a := 1) (b := 0) (by decide +kernel) rfl (Or.inr (Or.inl ⟨rfl, by omega⟩)) ?_
          exact ⟨C, X.le (by decide) (by decide), by omega⟩
        · refine zwW_p [(1, 0, 2)] (q := 63) (ls' := [(2, 9), (0, a), (9, 0)]) (st' := [(2, 9)]) (by decide +kernel) rfl ?_
          refine zwW_cm C.1 (op := 60) (k' := 198) (n := 0) (kd := 7) (m := 9) (nx := 66) (r := 9) (tl := []) (st' := []) (by decide +kernel) rfl (by decide +kernel) (Nat.ble_eq_true_of_le (by omega)) (x198 h C) ?_
          rintro v65 h66 ⟨Ch66, Qh66, f64⟩
          have Xh66 : zXR msxK (0) (0) h h66 := X.tr (c2 := 0) (s2 := 0) Qh66 (by decide +kernel) (by decide) (by decide)
          refine zwif_eq (q := 99) (nx := 69) (by decide +kernel) (fun c67 => ?_) (fun c67 => ?_)
          · refine zwW_p [(0, 0, 0)] (q := 100) (ls' := [(2, 9), (0, a), (9, 0)]) (st' := [(0, 0)]) (by decide +kernel) rfl ?_
            refine zwW_ret (nx := 101) (a := 1) (b := 0) (by decide +kernel) rfl (Or.inr (Or.inl ⟨rfl, by omega⟩)) ?_
            exact ⟨Ch66, Xh66.le (by decide) (by decide), by omega⟩
          · refine zwW_p [(1, 0, 2), (1, 1, 0), (0, 1, 0)] (q := 72) (ls' := [(2, 9), (0, a), (9, 0)]) (st' := [(0, 1), (0, a), (2, 9)]) (by decide +kernel) rfl ?_
            refine zwW_add (nx := 73) (by decide +kernel) ⟨by omega, by omega⟩ ?_
            refine zwW_cm Ch66.1 (op := 60) (k' := 242) (n := 1) (kd := 7) (m := 9) (nx := 76) (r := 9) (tl := [(0, (a + 1))]) (st' := []) (by decide +kernel) rfl (by decide +kernel) (Nat.ble_eq_true_of_le (by omega)) (HE (by omega) h66 Ch66) ?_
            rintro v69 h70 ⟨Ch70, Qh70, f68⟩
            have Xh70 : zXR msxK (0) (0) h h70 := Xh66.tr (c2 := 0) (s2 := 0) Qh70 (by decide +kernel) (by decide) (by decide)
            refine zwif_eq (q := 99) (nx := 79) (by decide +kernel) (fun c71 => ?_) (fun c71 => ?_)
            · refine zwW_p [(0, 0, 0)] (q := 100) (ls' := [(2, 9), (0, a), (9, 0)]) (st' := [(0, 0)]) (by decide +kernel) rfl ?_
              refine zwW_ret (nx := 101) (a := 1) (b := 0) (by decide +kernel) rfl (Or.inr (Or.inl ⟨rfl, by omega⟩)) ?_
              exact ⟨Ch70, Xh70.le (by decide) (by decide), by omega⟩
            · refine zwW_p [(1, 0, 2)] (q := 80) (ls' := [(2, 9), (0, a), (9, 0)]) (st' := [(2, 9)]) (by decide +kernel) rfl ?_
              refine zwW_gs Ch70.1 (kd := 7) (bn := 4) (n := 9) (t := 0) (lo := -2147483648) (hi := 2147483647) (nx := 83) (by decide +kernel) ?_
              intro v72 ev72 lv72 uv72
              refine zwW_p [(0, 93, 0)] (q := 85) (ls' := [(2, 9), (0, a), (9, 0)]) (st' := [(0, 93), (0, v72)]) (by decide +kernel) rfl ?_
              refine zwic_ne (q := 99) (nx := 88) (by decide +kernel) (fun c73 => ?_) (fun c73 => ?_)
              · refine zwW_p [(0, 0, 0)] (q := 100) (ls' := [(2, 9), (0, a), (9, 0)]) (st' := [(0, 0)]) (by decide +kernel) rfl ?_
                refine zwW_ret (nx := 101) (a := 1) (b := 0) (by decide +kernel) rfl (Or.inr (Or.inl ⟨rfl, by omega⟩)) ?_
                exact ⟨Ch70, Xh70.le (by decide) (by decide), by omega⟩
              · refine zwW_p [(1, 0, 2)] (q := 89) (ls' := [(2, 9), (0, a), (9, 0)]) (st' := [(2, 9)]) (by decide +kernel) rfl ?_
                refine zwW_cm Ch70.1 (op := 60) (k' := 198) (n := 0) (kd := 7) (m := 9) (nx := 92) (r := 9) (tl := []) (st' := []) (by decide +kernel) rfl (by decide +kernel) (Nat.ble_eq_true_of_le (by omega)) (x198 h70 Ch70) ?_
                rintro v75 h76 ⟨Ch76, Qh76, f74⟩
                have Xh76 : zXR msxK (0) (0) h h76 := Xh70.tr (c2 := 0) (s2 := 0) Qh76 (by decide +kernel) (by decide) (by decide)
                refine zwif_eq (q := 99) (nx := 95) (by decide +kernel) (fun c77 => ?_) (fun c77 => ?_)
                · refine zwW_p [(0, 0, 0)] (q := 100) (ls' := [(2, 9), (0, a), (9, 0)]) (st' := [(0, 0)]) (by decide +kernel) rfl ?_
                  refine zwW_ret (nx := 101) (a := 1) (b := 0) (by decide +kernel) rfl (Or.inr (Or.inl ⟨rfl, by omega⟩)) ?_
                  exact ⟨Ch76, Xh76.le (by decide) (by decide), by omega⟩
                · refine zwW_p [(0, 1, 0), (24, 100, 0)] (q := 100) (ls' := [(2, 9), (0, a), (9, 0)]) (st' := [(0, 1)]) (by decide +kernel) rfl ?_
                  refine zwW_ret (nx := 101) (a := 1) (b := 0) (by decide +kernel) rfl (Or.inr (Or.inl ⟨rfl, by omega⟩)) ?_
                  exact ⟨Ch76, Xh76.le (by decide) (by decide), by omega⟩
    · exfalso; omega
-- WheelLand$Reader.both(I)Z
theorem x263 {sc : List Int} (a : Int) (D0 : Nat) (pa : 0 ≤ a ∧ a ≤ 8) (HS : a < 8 → zKX sc D0 241 (a + 1)) (HT : a < 8 → zKX sc D0 281 (a + 1)) (HE : a < 8 → zKX sc D0 242 (a + 1)) : zKX sc (D0 + 24) 263 a := by
  intro h C
  refine zwC_of (D := D0 + 23) 4 (by decide +kernel) rfl (ls := [(2, 9), (0, a), (9, 0), (9, 0)]) rfl ?_
  have X : zXR msxK 0 0 h h := zXR.rf _ _
  refine zwW_p [(1, 0, 2), (1, 1, 0)] (q := 2) (ls' := [(2, 9), (0, a), (9, 0), (9, 0)]) (st' := [(0, a), (2, 9)]) (by decide +kernel) rfl ?_
  refine zwW_cm C.1 (op := 60) (k' := 281) (n := 1) (kd := 7) (m := 9) (nx := 5) (r := 9) (tl := [(0, a)]) (st' := []) (by decide +kernel) rfl (by decide +kernel) (Nat.ble_eq_true_of_le (by omega)) (x281 a D0 pa HS HT HE h C) ?_
  rintro v2 h3 ⟨Ch3, Qh3, f1⟩
  have Xh3 : zXR msxK (0) (0) h h3 := X.tr (c2 := 0) (s2 := 0) Qh3 (by decide +kernel) (by decide) (by decide)
  refine zwW_p [(2, 2, 0), (0, 0, 0), (2, 3, 0)] (q := 8) (ls' := [(2, 9), (0, a), (0, v2), (0, 0)]) (st' := []) (by decide +kernel) rfl ?_
  have L4 : ∀ (n : Nat) (v2L4 v3L4 : Int) (hL4 : Hp), n = ((1000 - v3L4)).toNat → (0 ≤ v2L4 ∧ v2L4 ≤ 1) → (0 ≤ v3L4 ∧ v3L4 ≤ 1000) → CI hL4 → zXR msxK (0) (0) h hL4 → zwW sc (D0 + 23) 263 8 [(2, 9), (0, a), (0, v2L4), (0, v3L4)] [] hL4 (zwRt 0 (fun x g => CI g ∧ zXR msxK (0) (0) h g ∧ (0 ≤ x ∧ x ≤ 1))) := by
    intro n
    induction n using Nat.strongRecOn with
    | ind n IHL4 =>
      intro v2L4 v3L4 hL4 hnL4 iL4_0 iL4_1 ChL4 XhL4
      refine zwW_p [(1, 3, 0), (0, 400, 0)] (q := 12) (ls' := [(2, 9), (0, a), (0, v2L4), (0, v3L4)]) (st' := [(0, 400), (0, v3L4)]) (by decide +kernel) rfl ?_
      refine zwic_ge (q := 62) (nx := 15) (by decide +kernel) (fun c5 => ?_) (fun c5 => ?_)
      · refine zwW_p [(1, 2, 0)] (q := 63) (ls' := [(2, 9), (0, a), (0, v2L4), (0, v3L4)]) (st' := [(0, v2L4)]) (by decide +kernel) rfl ?_
        refine zwW_ret (nx := 64) (a := 1) (b := 0) (by decide +kernel) rfl (Or.inr (Or.inl ⟨rfl, by omega⟩)) ?_
        exact ⟨ChL4, XhL4.le (by decide) (by decide), by omega⟩
      · refine zwW_p [(1, 2, 0)] (q := 16) (ls' := [(2, 9), (0, a), (0, v2L4), (0, v3L4)]) (st' := [(0, v2L4)]) (by decide +kernel) rfl ?_
        refine zwif_eq (q := 62) (nx := 19) (by decide +kernel) (fun c6 => ?_) (fun c6 => ?_)
        · refine zwW_p [(1, 2, 0)] (q := 63) (ls' := [(2, 9), (0, a), (0, v2L4), (0, v3L4)]) (st' := [(0, v2L4)]) (by decide +kernel) rfl ?_
          refine zwW_ret (nx := 64) (a := 1) (b := 0) (by decide +kernel) rfl (Or.inr (Or.inl ⟨rfl, by omega⟩)) ?_
          exact ⟨ChL4, XhL4.le (by decide) (by decide), by omega⟩
        · refine zwW_p [(1, 0, 2), (0, 19, 0)] (q := 22) (ls' := [(2, 9), (0, a), (0, v2L4), (0, v3L4)]) (st' := [(0, 19), (2, 9)]) (by decide +kernel) rfl ?_
          refine zwW_cm ChL4.1 (op := 60) (k' := 264) (n := 1) (kd := 7) (m := 9) (nx := 25) (r := 9) (tl := [(0, 19)]) (st' := []) (by decide +kernel) rfl (by decide +kernel) (Nat.ble_eq_true_of_le (by omega)) (x264 hL4 ChL4 19 (by omega)) ?_
          rintro x _ ⟨rfl, ⟨rfl, c7⟩ | ⟨rfl, c7⟩⟩
          · refine zwif_eq (q := 62) (nx := 28) (by decide +kernel) (fun c8 => ?_) (fun c8 => ?_)
            · exfalso; omega
            · refine zwW_p [(1, 0, 2)] (q := 29) (ls' := [(2, 9), (0, a), (0, v2L4), (0, v3L4)]) (st' := [(2, 9)]) (by decide +kernel) rfl ?_
              refine zwW_cm ChL4.1 (op := 60) (k' := 198) (n := 0) (kd := 7) (m := 9) (nx := 32) (r := 9) (tl := []) (st' := []) (by decide +kernel) rfl (by decide +kernel) (Nat.ble_eq_true_of_le (by omega)) (x198 hL4 ChL4) ?_
              rintro v10 h11 ⟨Ch11, Qh11, f9⟩
              have Xh11 : zXR msxK (0) (0) h h11 := XhL4.tr (c2 := 0) (s2 := 0) Qh11 (by decide +kernel) (by decide) (by decide)
              refine zwW_p [(15, 0, 0), (1, 0, 2), (1, 1, 0)] (q := 35) (ls' := [(2, 9), (0, a), (0, v2L4), (0, v3L4)]) (st' := [(0, a), (2, 9)]) (by decide +kernel) rfl ?_
              refine zwW_cm Ch11.1 (op := 60) (k' := 281) (n := 1) (kd := 7) (m := 9) (nx := 38) (r := 9) (tl := [(0, a)]) (st' := []) (by decide +kernel) rfl (by decide +kernel) (Nat.ble_eq_true_of_le (by omega)) (x281 a D0 pa HS HT HE h11 Ch11) ?_
              rintro v13 h14 ⟨Ch14, Qh14, f12⟩
              have Xh14 : zXR msxK (0) (0) h h14 := Xh11.tr (c2 := 0) (s2 := 0) Qh14 (by decide +kernel) (by decide) (by decide)
              refine zwif_eq (q := 54) (nx := 41) (by decide +kernel) (fun c15 => ?_) (fun c15 => ?_)
              · refine zwW_p [(0, 0, 0), (2, 2, 0)] (q := 56) (ls' := [(2, 9), (0, a), (0, 0), (0, v3L4)]) (st' := []) (by decide +kernel) rfl ?_
                refine zwW_inc (i := 3) (c := 1) (x := v3L4) (nx := 59) (by decide +kernel) rfl ⟨by omega, by omega⟩ (ls' := [(2, 9), (0, a), (0, 0), (0, (v3L4 + 1))]) rfl ?_
                refine zwW_p [(24, 8, 0)] (q := 8) (ls' := [(2, 9), (0, a), (0, 0), (0, (v3L4 + 1))]) (st' := []) (by decide +kernel) rfl ?_
                exact IHL4 ((1000 - (v3L4 + 1))).toNat (by omega) 0 (v3L4 + 1) h14 rfl (by omega) (by omega) Ch14 (Xh14.le (by decide) (by decide))
              · refine zwW_p [(1, 0, 2), (0, -19, 0)] (q := 44) (ls' := [(2, 9), (0, a), (0, v2L4), (0, v3L4)]) (st' := [(0, -19), (2, 9)]) (by decide +kernel) rfl ?_
                refine zwW_cm Ch14.1 (op := 60) (k' := 243) (n := 1) (kd := 7) (m := 9) (nx := 47) (r := 9) (tl := [(0, -19)]) (st' := []) (by decide +kernel) rfl (by decide +kernel) (Nat.ble_eq_true_of_le (by omega)) (x243 h14 Ch14 (-19) (by omega)) ?_
                rintro v17 h18 ⟨Ch18, Qh18, f16⟩
                have Xh18 : zXR msxK (0) (0) h h18 := Xh14.tr (c2 := 0) (s2 := 0) Qh18 (by decide +kernel) (by decide) (by decide)
                refine zwif_eq (q := 54) (nx := 50) (by decide +kernel) (fun c19 => ?_) (fun c19 => ?_)
                · refine zwW_p [(0, 0, 0), (2, 2, 0)] (q := 56) (ls' := [(2, 9), (0, a), (0, 0), (0, v3L4)]) (st' := []) (by decide +kernel) rfl ?_
                  refine zwW_inc (i := 3) (c := 1) (x := v3L4) (nx := 59) (by decide +kernel) rfl ⟨by omega, by omega⟩ (ls' := [(2, 9), (0, a), (0, 0), (0, (v3L4 + 1))]) rfl ?_
                  refine zwW_p [(24, 8, 0)] (q := 8) (ls' := [(2, 9), (0, a), (0, 0), (0, (v3L4 + 1))]) (st' := []) (by decide +kernel) rfl ?_
                  exact IHL4 ((1000 - (v3L4 + 1))).toNat (by omega) 0 (v3L4 + 1) h18 rfl (by omega) (by omega) Ch18 (Xh18.le (by decide) (by decide))
                · refine zwW_p [(0, 1, 0), (24, 55, 0), (2, 2, 0)] (q := 56) (ls' := [(2, 9), (0, a), (0, 1), (0, v3L4)]) (st' := []) (by decide +kernel) rfl ?_
                  refine zwW_inc (i := 3) (c := 1) (x := v3L4) (nx := 59) (by decide +kernel) rfl ⟨by omega, by omega⟩ (ls' := [(2, 9), (0, a), (0, 1), (0, (v3L4 + 1))]) rfl ?_
                  refine zwW_p [(24, 8, 0)] (q := 8) (ls' := [(2, 9), (0, a), (0, 1), (0, (v3L4 + 1))]) (st' := []) (by decide +kernel) rfl ?_
                  exact IHL4 ((1000 - (v3L4 + 1))).toNat (by omega) 1 (v3L4 + 1) h18 rfl (by omega) (by omega) Ch18 (Xh18.le (by decide) (by decide))
          · refine zwif_eq (q := 62) (nx := 28) (by decide +kernel) (fun c20 => ?_) (fun c20 => ?_)
            · refine zwW_p [(1, 2, 0)] (q := 63) (ls' := [(2, 9), (0, a), (0, v2L4), (0, v3L4)]) (st' := [(0, v2L4)]) (by decide +kernel) rfl ?_
              refine zwW_ret (nx := 64) (a := 1) (b := 0) (by decide +kernel) rfl (Or.inr (Or.inl ⟨rfl, by omega⟩)) ?_
              exact ⟨ChL4, XhL4.le (by decide) (by decide), by omega⟩
            · exfalso; omega
  exact L4 _ v2 0 h3 rfl (by omega) (by omega) Ch3 (Xh3.le (by decide) (by decide))
-- WheelLand$Reader.either(I)Z
theorem x242 {sc : List Int} (a : Int) (D0 : Nat) (pa : 0 ≤ a ∧ a ≤ 8) (HS : a < 8 → zKX sc D0 241 (a + 1)) (HT : a < 8 → zKX sc D0 281 (a + 1)) (HE : a < 8 → zKX sc D0 242 (a + 1)) : zKX sc (D0 + 25) 242 a := by
  intro h C
  refine zwC_of (D := D0 + 24) 4 (by decide +kernel) rfl (ls := [(2, 9), (0, a), (9, 0), (9, 0)]) rfl ?_
  have X : zXR msxK 0 0 h h := zXR.rf _ _
  refine zwW_p [(1, 0, 2), (1, 1, 0)] (q := 2) (ls' := [(2, 9), (0, a), (9, 0), (9, 0)]) (st' := [(0, a), (2, 9)]) (by decide +kernel) rfl ?_
  refine zwW_cm C.1 (op := 60) (k' := 263) (n := 1) (kd := 7) (m := 9) (nx := 5) (r := 9) (tl := [(0, a)]) (st' := []) (by decide +kernel) rfl (by decide +kernel) (Nat.ble_eq_true_of_le (by omega)) (x263 a D0 pa HS HT HE h C) ?_
  rintro v2 h3 ⟨Ch3, Qh3, f1⟩
  have Xh3 : zXR msxK (0) (0) h h3 := X.tr (c2 := 0) (s2 := 0) Qh3 (by decide +kernel) (by decide) (by decide)
  refine zwW_p [(2, 2, 0), (0, 0, 0), (2, 3, 0)] (q := 8) (ls' := [(2, 9), (0, a), (0, v2), (0, 0)]) (st' := []) (by decide +kernel) rfl ?_
  have L4 : ∀ (n : Nat) (v2L4 v3L4 : Int) (hL4 : Hp), n = ((1000 - v3L4)).toNat → (0 ≤ v2L4 ∧ v2L4 ≤ 1) → (0 ≤ v3L4 ∧ v3L4 ≤ 1000) → CI hL4 → zXR msxK (0) (0) h hL4 → zwW sc (D0 + 24) 242 8 [(2, 9), (0, a), (0, v2L4), (0, v3L4)] [] hL4 (zwRt 0 (fun x g => CI g ∧ zXR msxK (0) (0) h g ∧ (0 ≤ x ∧ x ≤ 1))) := by
    intro n
    induction n using Nat.strongRecOn with
    | ind n IHL4 =>
      intro v2L4 v3L4 hL4 hnL4 iL4_0 iL4_1 ChL4 XhL4
      refine zwW_p [(1, 3, 0), (0, 400, 0)] (q := 12) (ls' := [(2, 9), (0, a), (0, v2L4), (0, v3L4)]) (st' := [(0, 400), (0, v3L4)]) (by decide +kernel) rfl ?_
      refine zwic_ge (q := 62) (nx := 15) (by decide +kernel) (fun c5 => ?_) (fun c5 => ?_)
      · refine zwW_p [(1, 2, 0)] (q := 63) (ls' := [(2, 9), (0, a), (0, v2L4), (0, v3L4)]) (st' := [(0, v2L4)]) (by decide +kernel) rfl ?_
        refine zwW_ret (nx := 64) (a := 1) (b := 0) (by decide +kernel) rfl (Or.inr (Or.inl ⟨rfl, by omega⟩)) ?_
        exact ⟨ChL4, XhL4.le (by decide) (by decide), by omega⟩
      · refine zwW_p [(1, 2, 0)] (q := 16) (ls' := [(2, 9), (0, a), (0, v2L4), (0, v3L4)]) (st' := [(0, v2L4)]) (by decide +kernel) rfl ?_
        refine zwif_eq (q := 62) (nx := 19) (by decide +kernel) (fun c6 => ?_) (fun c6 => ?_)
        · refine zwW_p [(1, 2, 0)] (q := 63) (ls' := [(2, 9), (0, a), (0, v2L4), (0, v3L4)]) (st' := [(0, v2L4)]) (by decide +kernel) rfl ?_
          refine zwW_ret (nx := 64) (a := 1) (b := 0) (by decide +kernel) rfl (Or.inr (Or.inl ⟨rfl, by omega⟩)) ?_
          exact ⟨ChL4, XhL4.le (by decide) (by decide), by omega⟩
        · refine zwW_p [(1, 0, 2), (0, 18, 0)] (q := 22) (ls' := [(2, 9), (0, a), (0, v2L4), (0, v3L4)]) (st' := [(0, 18), (2, 9)]) (by decide +kernel) rfl ?_
          refine zwW_cm ChL4.1 (op := 60) (k' := 264) (n := 1) (kd := 7) (m := 9) (nx := 25) (r := 9) (tl := [(0, 18)]) (st' := []) (by decide +kernel) rfl (by decide +kernel) (Nat.ble_eq_true_of_le (by omega)) (x264 hL4 ChL4 18 (by omega)) ?_
          rintro x _ ⟨rfl, ⟨rfl, c7⟩ | ⟨rfl, c7⟩⟩
          · refine zwif_eq (q := 62) (nx := 28) (by decide +kernel) (fun c8 => ?_) (fun c8 => ?_)
            · exfalso; omega
            · refine zwW_p [(1, 0, 2)] (q := 29) (ls' := [(2, 9), (0, a), (0, v2L4), (0, v3L4)]) (st' := [(2, 9)]) (by decide +kernel) rfl ?_
              refine zwW_cm ChL4.1 (op := 60) (k' := 198) (n := 0) (kd := 7) (m := 9) (nx := 32) (r := 9) (tl := []) (st' := []) (by decide +kernel) rfl (by decide +kernel) (Nat.ble_eq_true_of_le (by omega)) (x198 hL4 ChL4) ?_
              rintro v10 h11 ⟨Ch11, Qh11, f9⟩
              have Xh11 : zXR msxK (0) (0) h h11 := XhL4.tr (c2 := 0) (s2 := 0) Qh11 (by decide +kernel) (by decide) (by decide)
              refine zwW_p [(15, 0, 0), (1, 0, 2), (1, 1, 0)] (q := 35) (ls' := [(2, 9), (0, a), (0, v2L4), (0, v3L4)]) (st' := [(0, a), (2, 9)]) (by decide +kernel) rfl ?_
              refine zwW_cm Ch11.1 (op := 60) (k' := 263) (n := 1) (kd := 7) (m := 9) (nx := 38) (r := 9) (tl := [(0, a)]) (st' := []) (by decide +kernel) rfl (by decide +kernel) (Nat.ble_eq_true_of_le (by omega)) (x263 a D0 pa HS HT HE h11 Ch11) ?_
              rintro v13 h14 ⟨Ch14, Qh14, f12⟩
              have Xh14 : zXR msxK (0) (0) h h14 := Xh11.tr (c2 := 0) (s2 := 0) Qh14 (by decide +kernel) (by decide) (by decide)
              refine zwif_eq (q := 54) (nx := 41) (by decide +kernel) (fun c15 => ?_) (fun c15 => ?_)
              · refine zwW_p [(0, 0, 0), (2, 2, 0)] (q := 56) (ls' := [(2, 9), (0, a), (0, 0), (0, v3L4)]) (st' := []) (by decide +kernel) rfl ?_
                refine zwW_inc (i := 3) (c := 1) (x := v3L4) (nx := 59) (by decide +kernel) rfl ⟨by omega, by omega⟩ (ls' := [(2, 9), (0, a), (0, 0), (0, (v3L4 + 1))]) rfl ?_
                refine zwW_p [(24, 8, 0)] (q := 8) (ls' := [(2, 9), (0, a), (0, 0), (0, (v3L4 + 1))]) (st' := []) (by decide +kernel) rfl ?_
                exact IHL4 ((1000 - (v3L4 + 1))).toNat (by omega) 0 (v3L4 + 1) h14 rfl (by omega) (by omega) Ch14 (Xh14.le (by decide) (by decide))
              · refine zwW_p [(1, 0, 2), (0, -18, 0)] (q := 44) (ls' := [(2, 9), (0, a), (0, v2L4), (0, v3L4)]) (st' := [(0, -18), (2, 9)]) (by decide +kernel) rfl ?_
                refine zwW_cm Ch14.1 (op := 60) (k' := 243) (n := 1) (kd := 7) (m := 9) (nx := 47) (r := 9) (tl := [(0, -18)]) (st' := []) (by decide +kernel) rfl (by decide +kernel) (Nat.ble_eq_true_of_le (by omega)) (x243 h14 Ch14 (-18) (by omega)) ?_
                rintro v17 h18 ⟨Ch18, Qh18, f16⟩
                have Xh18 : zXR msxK (0) (0) h h18 := Xh14.tr (c2 := 0) (s2 := 0) Qh18 (by decide +kernel) (by decide) (by decide)
                refine zwif_eq (q := 54) (nx := 50) (by decide +kernel) (fun c19 => ?_) (fun c19 => ?_)
                · refine zwW_p [(0, 0, 0), (2, 2, 0)] (q := 56) (ls' := [(2, 9), (0, a), (0, 0), (0, v3L4)]) (st' := []) (by decide +kernel) rfl ?_
                  refine zwW_inc (i := 3) (c := 1) (x := v3L4) (nx := 59) (by decide +kernel) rfl ⟨by omega, by omega⟩ (ls' := [(2, 9), (0, a), (0, 0), (0, (v3L4 + 1))]) rfl ?_
                  refine zwW_p [(24, 8, 0)] (q := 8) (ls' := [(2, 9), (0, a), (0, 0), (0, (v3L4 + 1))]) (st' := []) (by decide +kernel) rfl ?_
                  exact IHL4 ((1000 - (v3L4 + 1))).toNat (by omega) 0 (v3L4 + 1) h18 rfl (by omega) (by omega) Ch18 (Xh18.le (by decide) (by decide))
                · refine zwW_p [(0, 1, 0), (24, 55, 0), (2, 2, 0)] (q := 56) (ls' := [(2, 9), (0, a), (0, 1), (0, v3L4)]) (st' := []) (by decide +kernel) rfl ?_
                  refine zwW_inc (i := 3) (c := 1) (x := v3L4) (nx := 59) (by decide +kernel) rfl ⟨by omega, by omega⟩ (ls' := [(2, 9), (0, a), (0, 1), (0, (v3L4 + 1))]) rfl ?_
                  refine zwW_p [(24, 8, 0)] (q := 8) (ls' := [(2, 9), (0, a), (0, 1), (0, (v3L4 + 1))]) (st' := []) (by decide +kernel) rfl ?_
                  exact IHL4 ((1000 - (v3L4 + 1))).toNat (by omega) 1 (v3L4 + 1) h18 rfl (by omega) (by omega) Ch18 (Xh18.le (by decide) (by decide))
          · refine zwif_eq (q := 62) (nx := 28) (by decide +kernel) (fun c20 => ?_) (fun c20 => ?_)
            · refine zwW_p [(1, 2, 0)] (q := 63) (ls' := [(2, 9), (0, a), (0, v2L4), (0, v3L4)]) (st' := [(0, v2L4)]) (by decide +kernel) rfl ?_
              refine zwW_ret (nx := 64) (a := 1) (b := 0) (by decide +kernel) rfl (Or.inr (Or.inl ⟨rfl, by omega⟩)) ?_
              exact ⟨ChL4, XhL4.le (by decide) (by decide), by omega⟩
            · exfalso; omega
  exact L4 _ v2 0 h3 rfl (by omega) (by omega) Ch3 (Xh3.le (by decide) (by decide))
-- WheelLand$Handwork.search(II)V
theorem x212 {sc : List Int} (a : Int) (D0 : Nat) (pa : 0 ≤ a ∧ a ≤ 6) (HS : a < 6 → zKS sc D0 (a + 1)) : zKS sc (D0 + 9) a := by
  intro h C b q_b
  refine zwC_of (D := D0 + 8) 4 (by decide +kernel) rfl (ls := [(2, 19), (0, a), (0, b), (9, 0)]) rfl ?_
  have X : zXR msxT 0 0 h h := zXR.rf _ _
  refine zwW_p [(1, 2, 0), (1, 0, 2)] (q := 2) (ls' := [(2, 19), (0, a), (0, b), (9, 0)]) (st' := [(2, 19), (0, b)]) (by decide +kernel) rfl ?_
  refine zwW_gs C.1 (kd := 3) (bn := 4) (n := 10) (t := 0) (lo := -2147483648) (hi := 2147483647) (nx := 5) (by decide +kernel) ?_
  intro v1 ev1 lv1 uv1
  refine zwic_lt (q := 9) (nx := 8) (by decide +kernel) (fun c2 => ?_) (fun c2 => ?_)
  · refine zwW_p [(1, 1, 0), (1, 0, 2)] (q := 11) (ls' := [(2, 19), (0, a), (0, b), (9, 0)]) (st' := [(2, 19), (0, a)]) (by decide +kernel) rfl ?_
    refine zwW_gc C.1 (kd := 3) (bn := 0) (n := 10) (c := 20) (nx := 14) (by decide +kernel) ?_
    refine zwW_cm C.1 (op := 60) (k' := 96) (n := 0) (kd := 0) (m := 3) (nx := 17) (r := 20) (tl := []) (st' := [(0, a)]) (by decide +kernel) rfl (by decide +kernel) rfl (x96_20 C) ?_
    rintro v3 _ ⟨rfl, ev3⟩
    have bv3 := zLb_20 C
    refine zwic_ge (q := 26) (nx := 20) (by decide +kernel) (fun c4 => ?_) (fun c4 => ?_)
    · refine zwW_p [(1, 0, 2), (1, 2, 0)] (q := 28) (ls' := [(2, 19), (0, a), (0, b), (9, 0)]) (st' := [(0, b), (2, 19)]) (by decide +kernel) rfl ?_
      refine zwW_ps C.1 (kd := 3) (bn := 4) (n := 10) (lo := -2147483648) (hi := 2147483647) (nx := 31) (by decide +kernel) ⟨by omega, by omega⟩ ?_
      intro h5 eh5 Ih5
      have Ch5 : CI h5 := C.wc eh5 Ih5 (by decide) (by decide)
      have Qh5 : zXR [(19, 19, 4, 5)] 0 0 h h5 := zXR.wc eh5 rfl ⟨by decide, by decide, Or.inl (by decide)⟩ ⟨by decide, by decide⟩
      have Xh5 : zXR msxT (0) (0) h h5 := X.tr (c2 := 0) (s2 := 0) Qh5 (by decide +kernel) (by decide) (by decide)
      have th5_21_2 : fld h5 21 2 = fld h 21 2 := Qh5.f (a1 := 21) (a2 := 21) (j1 := 2) (j2 := 3) (by decide +kernel) ⟨by decide, by decide⟩ ⟨by decide, by decide⟩ ⟨by decide, by decide⟩
      refine zwW_p [(1, 0, 2)] (q := 32) (ls' := [(2, 19), (0, a), (0, b), (9, 0)]) (st' := [(2, 19)]) (by decide +kernel) rfl ?_
      refine zwW_gc Ch5.1 (kd := 3) (bn := 8) (n := 10) (c := 25) (nx := 35) (by decide +kernel) ?_
      refine zwW_p [(0, 0, 0), (1, 0, 2)] (q := 37) (ls' := [(2, 19), (0, a), (0, b), (9, 0)]) (st' := [(2, 19), (0, 0), (2, 25)]) (by decide +kernel) rfl ?_
      refine zwW_gc Ch5.1 (kd := 3) (bn := 9) (n := 10) (c := 26) (nx := 40) (by decide +kernel) ?_
      refine zwW_p [(0, 0, 0), (0, 6, 0)] (q := 43) (ls' := [(2, 19), (0, a), (0, b), (9, 0)]) (st' := [(0, 6), (0, 0), (2, 26), (0, 0), (2, 25)]) (by decide +kernel) rfl ?_
      refine zwX_copy Ch5 (A := 25) (B := 26) (n := 6) (nx := 46) (by decide +kernel) (by decide +kernel) (by decide +kernel) (Ch5.1.s (a1 := 25) (a2 := 25) (by decide +kernel) (by decide) (by decide)) (Ch5.1.s (a1 := 26) (a2 := 26) (by decide +kernel) (by decide) (by decide)) (by decide) rfl ?_
      rintro h6 Ch6 Qh6 fh6 oh6
      have Xh6 : zXR msxT (0) (0) h h6 := Xh5.tr (c2 := 0) (s2 := 0) Qh6 (by decide +kernel) (by decide) (by decide)
      have th6_21_2 : fld h6 21 2 = fld h5 21 2 := Qh6.f (a1 := 21) (a2 := 21) (j1 := 2) (j2 := 3) (by decide +kernel) ⟨by decide, by decide⟩ ⟨by decide, by decide⟩ ⟨by decide, by decide⟩
      refine zwW_retv (nx := 47) (a := 0) (b := 0) (by decide +kernel) ?_
      exact ⟨Ch6, Xh6.le (by decide) (by decide)⟩
    · refine zwW_p [(1, 1, 0), (0, 6, 0)] (q := 23) (ls' := [(2, 19), (0, a), (0, b), (9, 0)]) (st' := [(0, 6), (0, a)]) (by decide +kernel) rfl ?_
      refine zwic_lt (q := 47) (nx := 26) (by decide +kernel) (fun c7 => ?_) (fun c7 => ?_)
      · refine zwW_p [(1, 0, 2)] (q := 48) (ls' := [(2, 19), (0, a), (0, b), (9, 0)]) (st' := [(2, 19)]) (by decide +kernel) rfl ?_
        refine zwW_gc C.1 (kd := 3) (bn := 8) (n := 10) (c := 25) (nx := 51) (by decide +kernel) ?_
        refine zwW_p [(1, 1, 0), (0, -1, 0)] (q := 53) (ls' := [(2, 19), (0, a), (0, b), (9, 0)]) (st' := [(0, -1), (0, a), (2, 25)]) (by decide +kernel) rfl ?_
        refine zwW_as C.1 (a1 := 25) (a2 := 25) (n := 6) (lo := -2147483648) (hi := 2147483647) (nx := 54) (by decide +kernel) ⟨by decide, by decide⟩ ⟨by omega, by omega⟩ ⟨by decide, by decide⟩ ?_
        intro h8 eh8 Ih8
        have Ch8 : CI h8 := C.wc eh8 Ih8 (by decide) (by decide)
        have Qh8 : zXR [(25, 25, 0, 6)] 0 0 h h8 := zXR.wc eh8 rfl ⟨by decide, by decide, Or.inl (by decide)⟩ ⟨by omega, by omega⟩
        have Xh8 : zXR msxT (0) (0) h h8 := X.tr (c2 := 0) (s2 := 0) Qh8 (by decide +kernel) (by decide) (by decide)
        have th8_21_2 : fld h8 21 2 = fld h 21 2 := Qh8.f (a1 := 21) (a2 := 21) (j1 := 2) (j2 := 3) (by decide +kernel) ⟨by decide, by decide⟩ ⟨by decide, by decide⟩ ⟨by decide, by decide⟩
        refine zwW_p [(1, 0, 2)] (q := 55) (ls' := [(2, 19), (0, a), (0, b), (9, 0)]) (st' := [(2, 19)]) (by decide +kernel) rfl ?_
        refine zwW_gc Ch8.1 (kd := 3) (bn := 6) (n := 10) (c := 23) (nx := 58) (by decide +kernel) ?_
        refine zwW_p [(1, 1, 0)] (q := 59) (ls' := [(2, 19), (0, a), (0, b), (9, 0)]) (st' := [(0, a), (2, 23)]) (by decide +kernel) rfl ?_
        refine zwW_al Ch8.1 (a1 := 23) (a2 := 23) (kd := 20) (n := 6) (t := 0) (lo := -2147483648) (hi := 2147483647) (nx := 60) (by decide +kernel) ⟨by decide, by decide⟩ ⟨by omega, by omega⟩ ?_
        intro v9 ev9 lv9 uv9
        refine zwif_ne (q := 71) (nx := 63) (by decide +kernel) (fun c10 => ?_) (fun c10 => ?_)
        · refine zwW_p [(0, 0, 0), (2, 3, 0)] (q := 73) (ls' := [(2, 19), (0, a), (0, b), (0, 0)]) (st' := []) (by decide +kernel) rfl ?_
          have L11 : ∀ (n : Nat) (v3L11 : Int) (hL11 : Hp), n = ((1000 - v3L11)).toNat → (0 ≤ v3L11 ∧ v3L11 ≤ 1000) → CI hL11 → zXR msxT (0) (0) h hL11 → zwW sc (D0 + 8) 212 73 [(2, 19), (0, a), (0, b), (0, v3L11)] [] hL11 (zwRv (fun g => CI g ∧ zXR msxT (0) (0) h g)) := by
            intro n
            induction n using Nat.strongRecOn with
            | ind n IHL11 =>
              intro v3L11 hL11 hnL11 iL11_0 ChL11 XhL11
              refine zwW_p [(1, 3, 0), (1, 0, 2)] (q := 75) (ls' := [(2, 19), (0, a), (0, b), (0, v3L11)]) (st' := [(2, 19), (0, v3L11)]) (by decide +kernel) rfl ?_
              refine zwW_gc ChL11.1 (kd := 3) (bn := 1) (n := 10) (c := 21) (nx := 78) (by decide +kernel) ?_
              refine zwW_cm ChL11.1 (op := 60) (k' := 96) (n := 0) (kd := 0) (m := 3) (nx := 81) (r := 21) (tl := []) (st' := [(0, v3L11)]) (by decide +kernel) rfl (by decide +kernel) rfl (x96_21 ChL11) ?_
              rintro v12 _ ⟨rfl, ev12⟩
              have bv12 := zLb_21 ChL11
              refine zwic_ge (q := 180) (nx := 84) (by decide +kernel) (fun c13 => ?_) (fun c13 => ?_)
              · refine zwW_retv (nx := 181) (a := 0) (b := 0) (by decide +kernel) ?_
                exact ⟨ChL11, XhL11.le (by decide) (by decide)⟩
              · refine zwW_p [(1, 3, 0), (0, 6, 0)] (q := 87) (ls' := [(2, 19), (0, a), (0, b), (0, v3L11)]) (st' := [(0, 6), (0, v3L11)]) (by decide +kernel) rfl ?_
                refine zwic_ge (q := 180) (nx := 90) (by decide +kernel) (fun c14 => ?_) (fun c14 => ?_)
                · exfalso; omega
                · refine zwW_p [(1, 0, 2)] (q := 91) (ls' := [(2, 19), (0, a), (0, b), (0, v3L11)]) (st' := [(2, 19)]) (by decide +kernel) rfl ?_
                  refine zwW_gc ChL11.1 (kd := 3) (bn := 6) (n := 10) (c := 23) (nx := 94) (by decide +kernel) ?_
                  refine zwW_p [(1, 1, 0)] (q := 95) (ls' := [(2, 19), (0, a), (0, b), (0, v3L11)]) (st' := [(0, a), (2, 23)]) (by decide +kernel) rfl ?_
                  refine zwW_al ChL11.1 (a1 := 23) (a2 := 23) (kd := 20) (n := 6) (t := 0) (lo := -2147483648) (hi := 2147483647) (nx := 96) (by decide +kernel) ⟨by decide, by decide⟩ ⟨by omega, by omega⟩ ?_
                  intro v15 ev15 lv15 uv15
                  refine zwW_p [(1, 3, 0)] (q := 97) (ls' := [(2, 19), (0, a), (0, b), (0, v3L11)]) (st' := [(0, v3L11), (0, v15)]) (by decide +kernel) rfl ?_
                  refine zwW_any2 (a := 9) (nx := 98) (by decide +kernel) rfl ⟨by omega, by omega⟩ (Or.inr ⟨by decide, by decide⟩) ?_
                  intro v16 lv16 uv16
                  refine zwW_p [(0, 1, 0)] (q := 99) (ls' := [(2, 19), (0, a), (0, b), (0, v3L11)]) (st' := [(0, 1), (0, v16)]) (by decide +kernel) rfl ?_
                  refine zwW_any2 (a := 5) (nx := 100) (by decide +kernel) rfl ⟨by omega, by omega⟩ (Or.inr ⟨by decide, by decide⟩) ?_
                  intro v17 lv17 uv17
                  refine zwif_eq (q := 174) (nx := 103) (by decide +kernel) (fun c18 => ?_) (fun c18 => ?_)
                  · refine zwW_inc (i := 3) (c := 1) (x := v3L11) (nx := 177) (by decide +kernel) rfl ⟨by omega, by omega⟩ (ls' := [(2, 19), (0, a), (0, b), (0, (v3L11 + 1))]) rfl ?_
                    refine zwW_p [(24, 73, 0)] (q := 73) (ls' := [(2, 19), (0, a), (0, b), (0, (v3L11 + 1))]) (st' := []) (by decide +kernel) rfl ?_
                    exact IHL11 ((1000 - (v3L11 + 1))).toNat (by omega) (v3L11 + 1) hL11 rfl (by omega) ChL11 (XhL11.le (by decide) (by decide))
                  · refine zwW_p [(1, 0, 2)] (q := 104) (ls' := [(2, 19), (0, a), (0, b), (0, v3L11)]) (st' := [(2, 19)]) (by decide +kernel) rfl ?_
                    refine zwW_gc ChL11.1 (kd := 3) (bn := 8) (n := 10) (c := 25) (nx := 107) (by decide +kernel) ?_
                    refine zwW_p [(1, 1, 0), (1, 3, 0)] (q := 109) (ls' := [(2, 19), (0, a), (0, b), (0, v3L11)]) (st' := [(0, v3L11), (0, a), (2, 25)]) (by decide +kernel) rfl ?_
                    refine zwW_as ChL11.1 (a1 := 25) (a2 := 25) (n := 6) (lo := -2147483648) (hi := 2147483647) (nx := 110) (by decide +kernel) ⟨by decide, by decide⟩ ⟨by omega, by omega⟩ ⟨by omega, by omega⟩ ?_
                    intro h19 eh19 Ih19
                    have Ch19 : CI h19 := ChL11.wc eh19 Ih19 (by decide) (by decide)
                    have Qh19 : zXR [(25, 25, 0, 6)] 0 0 hL11 h19 := zXR.wc eh19 rfl ⟨by decide, by decide, Or.inl (by decide)⟩ ⟨by omega, by omega⟩
                    have Xh19 : zXR msxT (0) (0) h h19 := XhL11.tr (c2 := 0) (s2 := 0) Qh19 (by decide +kernel) (by decide) (by decide)
                    have th19_21_2 : fld h19 21 2 = fld hL11 21 2 := Qh19.f (a1 := 21) (a2 := 21) (j1 := 2) (j2 := 3) (by decide +kernel) ⟨by decide, by decide⟩ ⟨by decide, by decide⟩ ⟨by decide, by decide⟩
                    refine zwW_p [(1, 0, 2)] (q := 111) (ls' := [(2, 19), (0, a), (0, b), (0, v3L11)]) (st' := [(2, 19)]) (by decide +kernel) rfl ?_
                    refine zwW_gc Ch19.1 (kd := 3) (bn := 7) (n := 10) (c := 24) (nx := 114) (by decide +kernel) ?_
                    refine zwW_p [(1, 3, 0), (14, 0, 0)] (q := 116) (ls' := [(2, 19), (0, a), (0, b), (0, v3L11)]) (st' := [(0, v3L11), (2, 24), (0, v3L11), (2, 24)]) (by decide +kernel) rfl ?_
                    refine zwW_al Ch19.1 (a1 := 24) (a2 := 24) (kd := 20) (n := 6) (t := 0) (lo := -2147483648) (hi := 2147483647) (nx := 117) (by decide +kernel) ⟨by decide, by decide⟩ ⟨by omega, by omega⟩ ?_
                    intro v20 ev20 lv20 uv20
                    refine zwW_p [(1, 0, 2)] (q := 118) (ls' := [(2, 19), (0, a), (0, b), (0, v3L11)]) (st' := [(2, 19), (0, v20), (0, v3L11), (2, 24)]) (by decide +kernel) rfl ?_
                    refine zwW_gc Ch19.1 (kd := 3) (bn := 5) (n := 10) (c := 22) (nx := 121) (by decide +kernel) ?_
                    refine zwW_p [(1, 1, 0)] (q := 122) (ls' := [(2, 19), (0, a), (0, b), (0, v3L11)]) (st' := [(0, a), (2, 22), (0, v20), (0, v3L11), (2, 24)]) (by decide +kernel) rfl ?_
                    refine zwW_al Ch19.1 (a1 := 22) (a2 := 22) (kd := 20) (n := 6) (t := 0) (lo := -2147483648) (hi := 2147483647) (nx := 123) (by decide +kernel) ⟨by decide, by decide⟩ ⟨by omega, by omega⟩ ?_
                    intro v21 ev21 lv21 uv21
                    refine zwW_adw (nx := 124) (by decide +kernel) ?_
                    intro v22 ev22 lv22 uv22
                    refine zwW_as Ch19.1 (a1 := 24) (a2 := 24) (n := 6) (lo := -2147483648) (hi := 2147483647) (nx := 125) (by decide +kernel) ⟨by decide, by decide⟩ ⟨by omega, by omega⟩ ⟨by omega, by omega⟩ ?_
                    intro h23 eh23 Ih23
                    have Ch23 : CI h23 := Ch19.wc eh23 Ih23 (by decide) (by decide)
                    have Qh23 : zXR [(24, 24, 0, 6)] 0 0 h19 h23 := zXR.wc eh23 rfl ⟨by decide, by decide, Or.inl (by decide)⟩ ⟨by omega, by omega⟩
                    have Xh23 : zXR msxT (0) (0) h h23 := Xh19.tr (c2 := 0) (s2 := 0) Qh23 (by decide +kernel) (by decide) (by decide)
                    have th23_21_2 : fld h23 21 2 = fld h19 21 2 := Qh23.f (a1 := 21) (a2 := 21) (j1 := 2) (j2 := 3) (by decide +kernel) ⟨by decide, by decide⟩ ⟨by decide, by decide⟩ ⟨by decide, by decide⟩
                    refine zwW_p [(1, 0, 2), (1, 1, 0), (0, 1, 0)] (q := 128) (ls' := [(2, 19), (0, a), (0, b), (0, v3L11)]) (st' := [(0, 1), (0, a), (2, 19)]) (by decide +kernel) rfl ?_
                    refine zwW_add (nx := 129) (by decide +kernel) ⟨by omega, by omega⟩ ?_
                    refine zwW_p [(1, 2, 0), (1, 0, 2)] (q := 131) (ls' := [(2, 19), (0, a), (0, b), (0, v3L11)]) (st' := [(2, 19), (0, b), (0, (a + 1)), (2, 19)]) (by decide +kernel) rfl ?_
                    refine zwW_gc Ch23.1 (kd := 3) (bn := 7) (n := 10) (c := 24) (nx := 134) (by decide +kernel) ?_
                    refine zwW_p [(1, 3, 0)] (q := 135) (ls' := [(2, 19), (0, a), (0, b), (0, v3L11)]) (st' := [(0, v3L11), (2, 24), (0, b), (0, (a + 1)), (2, 19)]) (by decide +kernel) rfl ?_
                    refine zwW_al Ch23.1 (a1 := 24) (a2 := 24) (kd := 20) (n := 6) (t := 0) (lo := -2147483648) (hi := 2147483647) (nx := 136) (by decide +kernel) ⟨by decide, by decide⟩ ⟨by omega, by omega⟩ ?_
                    intro v24 ev24 lv24 uv24
                    refine zwW_p [(1, 0, 2)] (q := 137) (ls' := [(2, 19), (0, a), (0, b), (0, v3L11)]) (st' := [(2, 19), (0, v24), (0, b), (0, (a + 1)), (2, 19)]) (by decide +kernel) rfl ?_
                    refine zwW_gc Ch23.1 (kd := 3) (bn := 1) (n := 10) (c := 21) (nx := 140) (by decide +kernel) ?_
                    refine zwW_p [(1, 3, 0)] (q := 141) (ls' := [(2, 19), (0, a), (0, b), (0, v3L11)]) (st' := [(0, v3L11), (2, 21), (0, v24), (0, b), (0, (a + 1)), (2, 19)]) (by decide +kernel) rfl ?_
                    refine zwW_cm Ch23.1 (op := 60) (k' := 123) (n := 1) (kd := 0) (m := 3) (nx := 144) (r := 21) (tl := [(0, v3L11)]) (st' := [(0, v24), (0, b), (0, (a + 1)), (2, 19)]) (by decide +kernel) rfl (by decide +kernel) rfl (x123_21 Ch23 (i := v3L11) ⟨by omega, by omega⟩) ?_
                    rintro v25 _ ⟨rfl, Gv25, ev25⟩
                    have lv25 := Gv25.1
                    refine zwW_cast (a := 4) (kd := 4) (n := 19) (nx := 147) (by decide +kernel) rfl (Or.inr Gv25.2.1) ?_
                    refine zwX_gi Ch23 (kd := 4) (bn := 13) (n := 19) (nx := 150) (by decide +kernel) Gv25.2.1 Gv25.1 rfl ?_
                    intro v26 ev26 lv26 uv26
                    refine zwW_cs (k' := 151) (n := 2) (nx := 153) (as := [(0, v24), (0, v26)]) (st' := [(0, b), (0, (a + 1)), (2, 19)]) (by decide +kernel) rfl (x151 h23 Ch23 v24 v26 (by omega) (by omega)) (Nat.ble_eq_true_of_le (by omega)) ?_
                    rintro v27 _ ⟨rfl, f28⟩
                    refine zwW_max (nx := 156) (by decide +kernel) rfl ?_
                    intro v29 ev29
                    refine zwW_cmv Ch23.1 (op := 60) (k' := 212) (n := 2) (kd := 3) (m := 10) (nx := 159) (r := 19) (tl := [(0, (a + 1)), (0, v29)]) (st' := []) (by decide +kernel) rfl (by decide +kernel) (Nat.ble_eq_true_of_le (by omega)) (HS (by omega) h23 Ch23 v29 (by omega)) ?_
                    rintro h30 ⟨Ch30, Qh30⟩
                    have Xh30 : zXR msxT (0) (0) h h30 := Xh23.tr (c2 := 0) (s2 := 0) Qh30 (by decide +kernel) (by decide) (by decide)
                    have th30_21_2 : fld h30 21 2 = fld h23 21 2 := Qh30.f (a1 := 21) (a2 := 21) (j1 := 2) (j2 := 3) (by decide +kernel) ⟨by decide, by decide⟩ ⟨by decide, by decide⟩ ⟨by decide, by decide⟩
                    refine zwW_p [(1, 0, 2)] (q := 160) (ls' := [(2, 19), (0, a), (0, b), (0, v3L11)]) (st' := [(2, 19)]) (by decide +kernel) rfl ?_
                    refine zwW_gc Ch30.1 (kd := 3) (bn := 7) (n := 10) (c := 24) (nx := 163) (by decide +kernel) ?_
                    refine zwW_p [(1, 3, 0), (14, 0, 0)] (q := 165) (ls' := [(2, 19), (0, a), (0, b), (0, v3L11)]) (st' := [(0, v3L11), (2, 24), (0, v3L11), (2, 24)]) (by decide +kernel) rfl ?_
                    refine zwW_al Ch30.1 (a1 := 24) (a2 := 24) (kd := 20) (n := 6) (t := 0) (lo := -2147483648) (hi := 2147483647) (nx := 166) (by decide +kernel) ⟨by decide, by decide⟩ ⟨by omega, by omega⟩ ?_
                    intro v31 ev31 lv31 uv31
                    refine zwW_p [(1, 0, 2)] (q := 167) (ls' := [(2, 19), (0, a), (0, b), (0, v3L11)]) (st' := [(2, 19), (0, v31), (0, v3L11), (2, 24)]) (by decide +kernel) rfl ?_
                    refine zwW_gc Ch30.1 (kd := 3) (bn := 5) (n := 10) (c := 22) (nx := 170) (by decide +kernel) ?_
                    refine zwW_p [(1, 1, 0)] (q := 171) (ls' := [(2, 19), (0, a), (0, b), (0, v3L11)]) (st' := [(0, a), (2, 22), (0, v31), (0, v3L11), (2, 24)]) (by decide +kernel) rfl ?_
                    refine zwW_al Ch30.1 (a1 := 22) (a2 := 22) (kd := 20) (n := 6) (t := 0) (lo := -2147483648) (hi := 2147483647) (nx := 172) (by decide +kernel) ⟨by decide, by decide⟩ ⟨by omega, by omega⟩ ?_
                    intro v32 ev32 lv32 uv32
                    refine zwW_sbw (nx := 173) (by decide +kernel) ?_
                    intro v33 ev33 lv33 uv33
                    refine zwW_as Ch30.1 (a1 := 24) (a2 := 24) (n := 6) (lo := -2147483648) (hi := 2147483647) (nx := 174) (by decide +kernel) ⟨by decide, by decide⟩ ⟨by omega, by omega⟩ ⟨by omega, by omega⟩ ?_
                    intro h34 eh34 Ih34
                    have Ch34 : CI h34 := Ch30.wc eh34 Ih34 (by decide) (by decide)
                    have Qh34 : zXR [(24, 24, 0, 6)] 0 0 h30 h34 := zXR.wc eh34 rfl ⟨by decide, by decide, Or.inl (by decide)⟩ ⟨by omega, by omega⟩
                    have Xh34 : zXR msxT (0) (0) h h34 := Xh30.tr (c2 := 0) (s2 := 0) Qh34 (by decide +kernel) (by decide) (by decide)
                    have th34_21_2 : fld h34 21 2 = fld h30 21 2 := Qh34.f (a1 := 21) (a2 := 21) (j1 := 2) (j2 := 3) (by decide +kernel) ⟨by decide, by decide⟩ ⟨by decide, by decide⟩ ⟨by decide, by decide⟩
                    refine zwW_inc (i := 3) (c := 1) (x := v3L11) (nx := 177) (by decide +kernel) rfl ⟨by omega, by omega⟩ (ls' := [(2, 19), (0, a), (0, b), (0, (v3L11 + 1))]) rfl ?_
                    refine zwW_p [(24, 73, 0)] (q := 73) (ls' := [(2, 19), (0, a), (0, b), (0, (v3L11 + 1))]) (st' := []) (by decide +kernel) rfl ?_
                    exact IHL11 ((1000 - (v3L11 + 1))).toNat (by omega) (v3L11 + 1) h34 rfl (by omega) Ch34 (Xh34.le (by decide) (by decide))
          exact L11 _ 0 h8 rfl (by omega) Ch8 (Xh8.le (by decide) (by decide))
        · refine zwW_p [(1, 0, 2), (1, 1, 0), (0, 1, 0)] (q := 66) (ls' := [(2, 19), (0, a), (0, b), (9, 0)]) (st' := [(0, 1), (0, a), (2, 19)]) (by decide +kernel) rfl ?_
          refine zwW_add (nx := 67) (by decide +kernel) ⟨by omega, by omega⟩ ?_
          refine zwW_p [(1, 2, 0)] (q := 68) (ls' := [(2, 19), (0, a), (0, b), (9, 0)]) (st' := [(0, b), (0, (a + 1)), (2, 19)]) (by decide +kernel) rfl ?_
          refine zwW_cmv Ch8.1 (op := 60) (k' := 212) (n := 2) (kd := 3) (m := 10) (nx := 71) (r := 19) (tl := [(0, (a + 1)), (0, b)]) (st' := []) (by decide +kernel) rfl (by decide +kernel) (Nat.ble_eq_true_of_le (by omega)) (HS (by omega) h8 Ch8 b (by omega)) ?_
          rintro h35 ⟨Ch35, Qh35⟩
          have Xh35 : zXR msxT (0) (0) h h35 := Xh8.tr (c2 := 0) (s2 := 0) Qh35 (by decide +kernel) (by decide) (by decide)
          have th35_21_2 : fld h35 21 2 = fld h8 21 2 := Qh35.f (a1 := 21) (a2 := 21) (j1 := 2) (j2 := 3) (by decide +kernel) ⟨by decide, by decide⟩ ⟨by decide, by decide⟩ ⟨by decide, by decide⟩
          refine zwW_p [(0, 0, 0), (2, 3, 0)] (q := 73) (ls' := [(2, 19), (0, a), (0, b), (0, 0)]) (st' := []) (by decide +kernel) rfl ?_
          have L36 : ∀ (n : Nat) (v3L36 : Int) (hL36 : Hp), n = ((1000 - v3L36)).toNat → (0 ≤ v3L36 ∧ v3L36 ≤ 1000) → CI hL36 → zXR msxT (0) (0) h hL36 → zwW sc (D0 + 8) 212 73 [(2, 19), (0, a), (0, b), (0, v3L36)] [] hL36 (zwRv (fun g => CI g ∧ zXR msxT (0) (0) h g)) := by
            intro n
            induction n using Nat.strongRecOn with
            | ind n IHL36 =>
              intro v3L36 hL36 hnL36 iL36_0 ChL36 XhL36
              refine zwW_p [(1, 3, 0), (1, 0, 2)] (q := 75) (ls' := [(2, 19), (0, a), (0, b), (0, v3L36)]) (st' := [(2, 19), (0, v3L36)]) (by decide +kernel) rfl ?_
              refine zwW_gc ChL36.1 (kd := 3) (bn := 1) (n := 10) (c := 21) (nx := 78) (by decide +kernel) ?_
              refine zwW_cm ChL36.1 (op := 60) (k' := 96) (n := 0) (kd := 0) (m := 3) (nx := 81) (r := 21) (tl := []) (st' := [(0, v3L36)]) (by decide +kernel) rfl (by decide +kernel) rfl (x96_21 ChL36) ?_
              rintro v37 _ ⟨rfl, ev37⟩
              have bv37 := zLb_21 ChL36
              refine zwic_ge (q := 180) (nx := 84) (by decide +kernel) (fun c38 => ?_) (fun c38 => ?_)
              · refine zwW_retv (nx := 181) (a := 0) (b := 0) (by decide +kernel) ?_
                exact ⟨ChL36, XhL36.le (by decide) (by decide)⟩
              · refine zwW_p [(1, 3, 0), (0, 6, 0)] (q := 87) (ls' := [(2, 19), (0, a), (0, b), (0, v3L36)]) (st' := [(0, 6), (0, v3L36)]) (by decide +kernel) rfl ?_
                refine zwic_ge (q := 180) (nx := 90) (by decide +kernel) (fun c39 => ?_) (fun c39 => ?_)
                · exfalso; omega
                · refine zwW_p [(1, 0, 2)] (q := 91) (ls' := [(2, 19), (0, a), (0, b), (0, v3L36)]) (st' := [(2, 19)]) (by decide +kernel) rfl ?_
                  refine zwW_gc ChL36.1 (kd := 3) (bn := 6) (n := 10) (c := 23) (nx := 94) (by decide +kernel) ?_
                  refine zwW_p [(1, 1, 0)] (q := 95) (ls' := [(2, 19), (0, a), (0, b), (0, v3L36)]) (st' := [(0, a), (2, 23)]) (by decide +kernel) rfl ?_
                  refine zwW_al ChL36.1 (a1 := 23) (a2 := 23) (kd := 20) (n := 6) (t := 0) (lo := -2147483648) (hi := 2147483647) (nx := 96) (by decide +kernel) ⟨by decide, by decide⟩ ⟨by omega, by omega⟩ ?_
                  intro v40 ev40 lv40 uv40
                  refine zwW_p [(1, 3, 0)] (q := 97) (ls' := [(2, 19), (0, a), (0, b), (0, v3L36)]) (st' := [(0, v3L36), (0, v40)]) (by decide +kernel) rfl ?_
                  refine zwW_any2 (a := 9) (nx := 98) (by decide +kernel) rfl ⟨by omega, by omega⟩ (Or.inr ⟨by decide, by decide⟩) ?_
                  intro v41 lv41 uv41
                  refine zwW_p [(0, 1, 0)] (q := 99) (ls' := [(2, 19), (0, a), (0, b), (0, v3L36)]) (st' := [(0, 1), (0, v41)]) (by decide +kernel) rfl ?_
                  refine zwW_any2 (a := 5) (nx := 100) (by decide +kernel) rfl ⟨by omega, by omega⟩ (Or.inr ⟨by decide, by decide⟩) ?_
                  intro v42 lv42 uv42
                  refine zwif_eq (q := 174) (nx := 103) (by decide +kernel) (fun c43 => ?_) (fun c43 => ?_)
                  · refine zwW_inc (i := 3) (c := 1) (x := v3L36) (nx := 177) (by decide +kernel) rfl ⟨by omega, by omega⟩ (ls' := [(2, 19), (0, a), (0, b), (0, (v3L36 + 1))]) rfl ?_
                    refine zwW_p [(24, 73, 0)] (q := 73) (ls' := [(2, 19), (0, a), (0, b), (0, (v3L36 + 1))]) (st' := []) (by decide +kernel) rfl ?_
                    exact IHL36 ((1000 - (v3L36 + 1))).toNat (by omega) (v3L36 + 1) hL36 rfl (by omega) ChL36 (XhL36.le (by decide) (by decide))
                  · refine zwW_p [(1, 0, 2)] (q := 104) (ls' := [(2, 19), (0, a), (0, b), (0, v3L36)]) (st' := [(2, 19)]) (by decide +kernel) rfl ?_
                    refine zwW_gc ChL36.1 (kd := 3) (bn := 8) (n := 10) (c := 25) (nx := 107) (by decide +kernel) ?_
                    refine zwW_p [(1, 1, 0), (1, 3, 0)] (q := 109) (ls' := [(2, 19), (0, a), (0, b), (0, v3L36)]) (st' := [(0, v3L36), (0, a), (2, 25)]) (by decide +kernel) rfl ?_
                    refine zwW_as ChL36.1 (a1 := 25) (a2 := 25) (n := 6) (lo := -2147483648) (hi := 2147483647) (nx := 110) (by decide +kernel) ⟨by decide, by decide⟩ ⟨by omega, by omega⟩ ⟨by omega, by omega⟩ ?_
                    intro h44 eh44 Ih44
                    have Ch44 : CI h44 := ChL36.wc eh44 Ih44 (by decide) (by decide)
                    have Qh44 : zXR [(25, 25, 0, 6)] 0 0 hL36 h44 := zXR.wc eh44 rfl ⟨by decide, by decide, Or.inl (by decide)⟩ ⟨by omega, by omega⟩
                    have Xh44 : zXR msxT (0) (0) h h44 := XhL36.tr (c2 := 0) (s2 := 0) Qh44 (by decide +kernel) (by decide) (by decide)
                    have th44_21_2 : fld h44 21 2 = fld hL36 21 2 := Qh44.f (a1 := 21) (a2 := 21) (j1 := 2) (j2 := 3) (by decide +kernel) ⟨by decide, by decide⟩ ⟨by decide, by decide⟩ ⟨by decide, by decide⟩
                    refine zwW_p [(1, 0, 2)] (q := 111) (ls' := [(2, 19), (0, a), (0, b), (0, v3L36)]) (st' := [(2, 19)]) (by decide +kernel) rfl ?_
                    refine zwW_gc Ch44.1 (kd := 3) (bn := 7) (n := 10) (c := 24) (nx := 114) (by decide +kernel) ?_
                    refine zwW_p [(1, 3, 0), (14, 0, 0)] (q := 116) (ls' := [(2, 19), (0, a), (0, b), (0, v3L36)]) (st' := [(0, v3L36), (2, 24), (0, v3L36), (2, 24)]) (by decide +kernel) rfl ?_
                    refine zwW_al Ch44.1 (a1 := 24) (a2 := 24) (kd := 20) (n := 6) (t := 0) (lo := -2147483648) (hi := 2147483647) (nx := 117) (by decide +kernel) ⟨by decide, by decide⟩ ⟨by omega, by omega⟩ ?_
                    intro v45 ev45 lv45 uv45
                    refine zwW_p [(1, 0, 2)] (q := 118) (ls' := [(2, 19), (0, a), (0, b), (0, v3L36)]) (st' := [(2, 19), (0, v45), (0, v3L36), (2, 24)]) (by decide +kernel) rfl ?_
                    refine zwW_gc Ch44.1 (kd := 3) (bn := 5) (n := 10) (c := 22) (nx := 121) (by decide +kernel) ?_
                    refine zwW_p [(1, 1, 0)] (q := 122) (ls' := [(2, 19), (0, a), (0, b), (0, v3L36)]) (st' := [(0, a), (2, 22), (0, v45), (0, v3L36), (2, 24)]) (by decide +kernel) rfl ?_
                    refine zwW_al Ch44.1 (a1 := 22) (a2 := 22) (kd := 20) (n := 6) (t := 0) (lo := -2147483648) (hi := 2147483647) (nx := 123) (by decide +kernel) ⟨by decide, by decide⟩ ⟨by omega, by omega⟩ ?_
                    intro v46 ev46 lv46 uv46
                    refine zwW_adw (nx := 124) (by decide +kernel) ?_
                    intro v47 ev47 lv47 uv47
                    refine zwW_as Ch44.1 (a1 := 24) (a2 := 24) (n := 6) (lo := -2147483648) (hi := 2147483647) (nx := 125) (by decide +kernel) ⟨by decide, by decide⟩ ⟨by omega, by omega⟩ ⟨by omega, by omega⟩ ?_
                    intro h48 eh48 Ih48
                    have Ch48 : CI h48 := Ch44.wc eh48 Ih48 (by decide) (by decide)
                    have Qh48 : zXR [(24, 24, 0, 6)] 0 0 h44 h48 := zXR.wc eh48 rfl ⟨by decide, by decide, Or.inl (by decide)⟩ ⟨by omega, by omega⟩
                    have Xh48 : zXR msxT (0) (0) h h48 := Xh44.tr (c2 := 0) (s2 := 0) Qh48 (by decide +kernel) (by decide) (by decide)
                    have th48_21_2 : fld h48 21 2 = fld h44 21 2 := Qh48.f (a1 := 21) (a2 := 21) (j1 := 2) (j2 := 3) (by decide +kernel) ⟨by decide, by decide⟩ ⟨by decide, by decide⟩ ⟨by decide, by decide⟩
                    refine zwW_p [(1, 0, 2), (1, 1, 0), (0, 1, 0)] (q := 128) (ls' := [(2, 19), (0, a), (0, b), (0, v3L36)]) (st' := [(0, 1), (0, a), (2, 19)]) (by decide +kernel) rfl ?_
                    refine zwW_add (nx := 129) (by decide +kernel) ⟨by omega, by omega⟩ ?_
                    refine zwW_p [(1, 2, 0), (1, 0, 2)] (q := 131) (ls' := [(2, 19), (0, a), (0, b), (0, v3L36)]) (st' := [(2, 19), (0, b), (0, (a + 1)), (2, 19)]) (by decide +kernel) rfl ?_
                    refine zwW_gc Ch48.1 (kd := 3) (bn := 7) (n := 10) (c := 24) (nx := 134) (by decide +kernel) ?_
                    refine zwW_p [(1, 3, 0)] (q := 135) (ls' := [(2, 19), (0, a), (0, b), (0, v3L36)]) (st' := [(0, v3L36), (2, 24), (0, b), (0, (a + 1)), (2, 19)]) (by decide +kernel) rfl ?_
                    refine zwW_al Ch48.1 (a1 := 24) (a2 := 24) (kd := 20) (n := 6) (t := 0) (lo := -2147483648) (hi := 2147483647) (nx := 136) (by decide +kernel) ⟨by decide, by decide⟩ ⟨by omega, by omega⟩ ?_
                    intro v49 ev49 lv49 uv49
                    refine zwW_p [(1, 0, 2)] (q := 137) (ls' := [(2, 19), (0, a), (0, b), (0, v3L36)]) (st' := [(2, 19), (0, v49), (0, b), (0, (a + 1)), (2, 19)]) (by decide +kernel) rfl ?_
                    refine zwW_gc Ch48.1 (kd := 3) (bn := 1) (n := 10) (c := 21) (nx := 140) (by decide +kernel) ?_
                    refine zwW_p [(1, 3, 0)] (q := 141) (ls' := [(2, 19), (0, a), (0, b), (0, v3L36)]) (st' := [(0, v3L36), (2, 21), (0, v49), (0, b), (0, (a + 1)), (2, 19)]) (by decide +kernel) rfl ?_
                    refine zwW_cm Ch48.1 (op := 60) (k' := 123) (n := 1) (kd := 0) (m := 3) (nx := 144) (r := 21) (tl := [(0, v3L36)]) (st' := [(0, v49), (0, b), (0, (a + 1)), (2, 19)]) (by decide +kernel) rfl (by decide +kernel) rfl (x123_21 Ch48 (i := v3L36) ⟨by omega, by omega⟩) ?_
                    rintro v50 _ ⟨rfl, Gv50, ev50⟩
                    have lv50 := Gv50.1
                    refine zwW_cast (a := 4) (kd := 4) (n := 19) (nx := 147) (by decide +kernel) rfl (Or.inr Gv50.2.1) ?_
                    refine zwX_gi Ch48 (kd := 4) (bn := 13) (n := 19) (nx := 150) (by decide +kernel) Gv50.2.1 Gv50.1 rfl ?_
                    intro v51 ev51 lv51 uv51
                    refine zwW_cs (k' := 151) (n := 2) (nx := 153) (as := [(0, v49), (0, v51)]) (st' := [(0, b), (0, (a + 1)), (2, 19)]) (by decide +kernel) rfl (x151 h48 Ch48 v49 v51 (by omega) (by omega)) (Nat.ble_eq_true_of_le (by omega)) ?_
                    rintro v52 _ ⟨rfl, f53⟩
                    refine zwW_max (nx := 156) (by decide +kernel) rfl ?_
                    intro v54 ev54
                    refine zwW_cmv Ch48.1 (op := 60) (k' := 212) (n := 2) (kd := 3) (m := 10) (nx := 159) (r := 19) (tl := [(0, (a + 1)), (0, v54)]) (st' := []) (by decide +kernel) rfl (by decide +kernel) (Nat.ble_eq_true_of_le (by omega)) (HS (by omega) h48 Ch48 v54 (by omega)) ?_
                    rintro h55 ⟨Ch55, Qh55⟩
                    have Xh55 : zXR msxT (0) (0) h h55 := Xh48.tr (c2 := 0) (s2 := 0) Qh55 (by decide +kernel) (by decide) (by decide)
                    have th55_21_2 : fld h55 21 2 = fld h48 21 2 := Qh55.f (a1 := 21) (a2 := 21) (j1 := 2) (j2 := 3) (by decide +kernel) ⟨by decide, by decide⟩ ⟨by decide, by decide⟩ ⟨by decide, by decide⟩
                    refine zwW_p [(1, 0, 2)] (q := 160) (ls' := [(2, 19), (0, a), (0, b), (0, v3L36)]) (st' := [(2, 19)]) (by decide +kernel) rfl ?_
                    refine zwW_gc Ch55.1 (kd := 3) (bn := 7) (n := 10) (c := 24) (nx := 163) (by decide +kernel) ?_
                    refine zwW_p [(1, 3, 0), (14, 0, 0)] (q := 165) (ls' := [(2, 19), (0, a), (0, b), (0, v3L36)]) (st' := [(0, v3L36), (2, 24), (0, v3L36), (2, 24)]) (by decide +kernel) rfl ?_
                    refine zwW_al Ch55.1 (a1 := 24) (a2 := 24) (kd := 20) (n := 6) (t := 0) (lo := -2147483648) (hi := 2147483647) (nx := 166) (by decide +kernel) ⟨by decide, by decide⟩ ⟨by omega, by omega⟩ ?_
                    intro v56 ev56 lv56 uv56
                    refine zwW_p [(1, 0, 2)] (q := 167) (ls' := [(2, 19), (0, a), (0, b), (0, v3L36)]) (st' := [(2, 19), (0, v56), (0, v3L36), (2, 24)]) (by decide +kernel) rfl ?_
                    refine zwW_gc Ch55.1 (kd := 3) (bn := 5) (n := 10) (c := 22) (nx := 170) (by decide +kernel) ?_
                    refine zwW_p [(1, 1, 0)] (q := 171) (ls' := [(2, 19), (0, a), (0, b), (0, v3L36)]) (st' := [(0, a), (2, 22), (0, v56), (0, v3L36), (2, 24)]) (by decide +kernel) rfl ?_
                    refine zwW_al Ch55.1 (a1 := 22) (a2 := 22) (kd := 20) (n := 6) (t := 0) (lo := -2147483648) (hi := 2147483647) (nx := 172) (by decide +kernel) ⟨by decide, by decide⟩ ⟨by omega, by omega⟩ ?_
                    intro v57 ev57 lv57 uv57
                    refine zwW_sbw (nx := 173) (by decide +kernel) ?_
                    intro v58 ev58 lv58 uv58
                    refine zwW_as Ch55.1 (a1 := 24) (a2 := 24) (n := 6) (lo := -2147483648) (hi := 2147483647) (nx := 174) (by decide +kernel) ⟨by decide, by decide⟩ ⟨by omega, by omega⟩ ⟨by omega, by omega⟩ ?_
                    intro h59 eh59 Ih59
                    have Ch59 : CI h59 := Ch55.wc eh59 Ih59 (by decide) (by decide)
                    have Qh59 : zXR [(24, 24, 0, 6)] 0 0 h55 h59 := zXR.wc eh59 rfl ⟨by decide, by decide, Or.inl (by decide)⟩ ⟨by omega, by omega⟩
                    have Xh59 : zXR msxT (0) (0) h h59 := Xh55.tr (c2 := 0) (s2 := 0) Qh59 (by decide +kernel) (by decide) (by decide)
                    have th59_21_2 : fld h59 21 2 = fld h55 21 2 := Qh59.f (a1 := 21) (a2 := 21) (j1 := 2) (j2 := 3) (by decide +kernel) ⟨by decide, by decide⟩ ⟨by decide, by decide⟩ ⟨by decide, by decide⟩
                    refine zwW_inc (i := 3) (c := 1) (x := v3L36) (nx := 177) (by decide +kernel) rfl ⟨by omega, by omega⟩ (ls' := [(2, 19), (0, a), (0, b), (0, (v3L36 + 1))]) rfl ?_
                    refine zwW_p [(24, 73, 0)] (q := 73) (ls' := [(2, 19), (0, a), (0, b), (0, (v3L36 + 1))]) (st' := []) (by decide +kernel) rfl ?_
                    exact IHL36 ((1000 - (v3L36 + 1))).toNat (by omega) (v3L36 + 1) h59 rfl (by omega) Ch59 (Xh59.le (by decide) (by decide))
          exact L36 _ 0 h35 rfl (by omega) Ch35 (Xh35.le (by decide) (by decide))
      · exfalso; omega
  · refine zwW_retv (nx := 9) (a := 0) (b := 0) (by decide +kernel) ?_
    exact ⟨C, X.le (by decide) (by decide)⟩
