/-! joined: 72.x5 73.x6 74.x7 75.mcheck 76.x8 76.zadd 76.zbell -/
section
/-! contracts of the class -/
def msx199 : Zms := [(9, 9, 2, 7), (11, 11, 0, 400), (12, 12, 0, 5)]
-- WheelLand$Reader.clause()Z
theorem x199 {sc : List Int} (h : Hp) (C : CI h) : zwC sc 231 199 [(2, 9)] h (zwRt 0 (fun x g => CI g ∧ zXR msx199 (0) (0) h g ∧ (0 ≤ x ∧ x ≤ 1))) := by
  refine zwC_of (D := 230) 3 (by decide +kernel) rfl (ls := [(2, 9), (9, 0), (9, 0)]) rfl ?_
  have X : zXR msx199 0 0 h h := zXR.rf _ _
  refine zwW_p [(1, 0, 2)] (q := 1) (ls' := [(2, 9), (9, 0), (9, 0)]) (st' := [(2, 9)]) (by decide +kernel) rfl ?_
  refine zwW_gs C.1 (kd := 7) (bn := 4) (n := 9) (t := 0) (lo := -2147483648) (hi := 2147483647) (nx := 4) (by decide +kernel) ?_
  intro v1 ev1 lv1 uv1
  refine zwW_p [(0, 1, 0)] (q := 5) (ls' := [(2, 9), (9, 0), (9, 0)]) (st' := [(0, 1), (0, v1)]) (by decide +kernel) rfl ?_
  refine zwic_ne (q := 18) (nx := 8) (by decide +kernel) (fun c2 => ?_) (fun c2 => ?_)
  · refine zwW_p [(0, -1, 0), (2, 1, 0), (1, 1, 0), (0, 0, 0), (0, 4, 0)] (q := 23) (ls' := [(2, 9), (0, -1), (9, 0)]) (st' := [(0, 4), (0, 0), (0, -1)]) (by decide +kernel) rfl ?_
    refine zwW_cs (k' := 98) (n := 3) (nx := 26) (as := [(0, -1), (0, 0), (0, 4)]) (st' := []) (by decide +kernel) rfl (x98 h C (-1) 0 4 (by omega) (by omega) (by omega)) rfl ?_
    rintro x _ ⟨rfl, ⟨rfl, c3⟩ | ⟨rfl, c3⟩⟩
    · refine zwif_ne (q := 39) (nx := 29) (by decide +kernel) (fun c4 => ?_) (fun c4 => ?_)
      · refine zwW_p [(0, 0, 0)] (q := 40) (ls' := [(2, 9), (0, -1), (9, 0)]) (st' := [(0, 0)]) (by decide +kernel) rfl ?_
        refine zwW_ret (nx := 41) (a := 1) (b := 0) (by decide +kernel) rfl (Or.inr (Or.inl ⟨rfl, Or.inl rfl⟩)) ?_
        exact ⟨C, X.le (by decide) (by decide), by omega⟩
      · exfalso; omega
    · exfalso; omega
  · refine zwW_p [(1, 0, 2)] (q := 9) (ls' := [(2, 9), (9, 0), (9, 0)]) (st' := [(2, 9)]) (by decide +kernel) rfl ?_
    refine zwW_gs C.1 (kd := 7) (bn := 5) (n := 9) (t := 0) (lo := -2147483648) (hi := 2147483647) (nx := 12) (by decide +kernel) ?_
    intro v5 ev5 lv5 uv5
    refine zwW_p [(0, 13, 0)] (q := 14) (ls' := [(2, 9), (9, 0), (9, 0)]) (st' := [(0, 13), (0, v5)]) (by decide +kernel) rfl ?_
    refine zwW_sbw (nx := 15) (by decide +kernel) ?_
    intro v6 ev6 lv6 uv6
    refine zwW_p [(24, 19, 0), (2, 1, 0), (1, 1, 0), (0, 0, 0), (0, 4, 0)] (q := 23) (ls' := [(2, 9), (0, v6), (9, 0)]) (st' := [(0, 4), (0, 0), (0, v6)]) (by decide +kernel) rfl ?_
    refine zwW_cs (k' := 98) (n := 3) (nx := 26) (as := [(0, v6), (0, 0), (0, 4)]) (st' := []) (by decide +kernel) rfl (x98 h C v6 0 4 (by omega) (by omega) (by omega)) rfl ?_
    rintro x _ ⟨rfl, ⟨rfl, c7⟩ | ⟨rfl, c7⟩⟩
    · refine zwif_ne (q := 39) (nx := 29) (by decide +kernel) (fun c8 => ?_) (fun c8 => ?_)
      · refine zwW_p [(0, 0, 0)] (q := 40) (ls' := [(2, 9), (0, v6), (9, 0)]) (st' := [(0, 0)]) (by decide +kernel) rfl ?_
        refine zwW_ret (nx := 41) (a := 1) (b := 0) (by decide +kernel) rfl (Or.inr (Or.inl ⟨rfl, Or.inl rfl⟩)) ?_
        exact ⟨C, X.le (by decide) (by decide), by omega⟩
      · exfalso; omega
    · refine zwif_ne (q := 39) (nx := 29) (by decide +kernel) (fun c9 => ?_) (fun c9 => ?_)
      · exfalso; omega
      · refine zwW_p [(1, 0, 2)] (q := 30) (ls' := [(2, 9), (0, v6), (9, 0)]) (st' := [(2, 9)]) (by decide +kernel) rfl ?_
        refine zwW_gc C.1 (kd := 7) (bn := 8) (n := 9) (c := 12) (nx := 33) (by decide +kernel) ?_
        refine zwW_p [(1, 1, 0)] (q := 34) (ls' := [(2, 9), (0, v6), (9, 0)]) (st' := [(0, v6), (2, 12)]) (by decide +kernel) rfl ?_
        refine zwW_al C.1 (a1 := 12) (a2 := 12) (kd := 20) (n := 5) (t := 0) (lo := -2147483648) (hi := 2147483647) (nx := 35) (by decide +kernel) (by first | decide | exact ⟨by decide, by decide⟩) (by first | omega | exact ⟨by omega, by omega⟩) ?_
        intro v10 ev10 lv10 uv10
        refine zwW_p [(0, -1, 0)] (q := 36) (ls' := [(2, 9), (0, v6), (9, 0)]) (st' := [(0, -1), (0, v10)]) (by decide +kernel) rfl ?_
        refine zwic_eq (q := 41) (nx := 39) (by decide +kernel) (fun c11 => ?_) (fun c11 => ?_)
        · refine zwW_p [(1, 0, 2)] (q := 42) (ls' := [(2, 9), (0, v6), (9, 0)]) (st' := [(2, 9)]) (by decide +kernel) rfl ?_
          refine zwW_gc C.1 (kd := 7) (bn := 8) (n := 9) (c := 12) (nx := 45) (by decide +kernel) ?_
          refine zwW_p [(1, 1, 0), (1, 0, 2)] (q := 47) (ls' := [(2, 9), (0, v6), (9, 0)]) (st' := [(2, 9), (0, v6), (2, 12)]) (by decide +kernel) rfl ?_
          refine zwW_gs C.1 (kd := 7) (bn := 6) (n := 9) (t := 0) (lo := 0) (hi := 400) (nx := 50) (by decide +kernel) ?_
          intro v12 ev12 lv12 uv12
          refine zwW_as C.1 (a1 := 12) (a2 := 12) (n := 5) (lo := -2147483648) (hi := 2147483647) (nx := 51) (by decide +kernel) (by first | decide | exact ⟨by decide, by decide⟩) (by first | omega | exact ⟨by omega, by omega⟩) (by first | omega | exact ⟨by omega, by omega⟩) ?_
          intro h13 eh13 Ih13
          have Ch13 : CI h13 := C.wc eh13 Ih13 (by decide) (by decide)
          have Qh13 : zXR [(12, 12, 0, 5)] 0 0 h h13 := zXR.wc eh13 rfl ⟨by decide, by decide, Or.inl (by decide)⟩ (by first | omega | exact ⟨by omega, by omega⟩)
          have Xh13 : zXR msx199 (0) (0) h h13 := X.tr (c2 := 0) (s2 := 0) Qh13 (by decide +kernel) (by decide) (by decide)
          refine zwW_p [(1, 0, 2)] (q := 52) (ls' := [(2, 9), (0, v6), (9, 0)]) (st' := [(2, 9)]) (by decide +kernel) rfl ?_
          refine zwW_cm Ch13.1 (op := 60) (k' := 198) (n := 0) (kd := 7) (m := 9) (nx := 55) (r := 9) (tl := []) (st' := []) (by decide +kernel) rfl (by decide +kernel) rfl (x198 h13 Ch13) ?_
          rintro v15 h16 ⟨Ch16, Qh16, f14⟩
          have Xh16 : zXR msx199 (0) (0) h h16 := Xh13.tr (c2 := 0) (s2 := 0) Qh16 (by decide +kernel) (by decide) (by decide)
          refine zwW_p [(15, 0, 0), (1, 1, 0), (0, 3, 0)] (q := 58) (ls' := [(2, 9), (0, v6), (9, 0)]) (st' := [(0, 3), (0, v6)]) (by decide +kernel) rfl ?_
          refine zwic_ge (q := 69) (nx := 61) (by decide +kernel) (fun c17 => ?_) (fun c17 => ?_)
          · refine zwW_p [(1, 0, 2), (0, 0, 0)] (q := 71) (ls' := [(2, 9), (0, v6), (9, 0)]) (st' := [(0, 0), (2, 9)]) (by decide +kernel) rfl ?_
            refine zwW_cm Ch16.1 (op := 60) (k' := 242) (n := 1) (kd := 7) (m := 9) (nx := 74) (r := 9) (tl := [(0, 0)]) (st' := []) (by decide +kernel) rfl (by decide +kernel) rfl (zk_either sc h16 Ch16) ?_
            rintro v19 h20 ⟨Ch20, Qh20, f18⟩
            have Xh20 : zXR msx199 (0) (0) h h20 := Xh16.tr (c2 := 0) (s2 := 0) Qh20 (by decide +kernel) (by decide) (by decide)
            refine zwW_p [(2, 2, 0), (1, 2, 0)] (q := 76) (ls' := [(2, 9), (0, v6), (0, v19)]) (st' := [(0, v19)]) (by decide +kernel) rfl ?_
            refine zwif_eq (q := 108) (nx := 79) (by decide +kernel) (fun c21 => ?_) (fun c21 => ?_)
            · refine zwW_p [(0, 0, 0)] (q := 109) (ls' := [(2, 9), (0, v6), (0, v19)]) (st' := [(0, 0)]) (by decide +kernel) rfl ?_
              refine zwW_ret (nx := 110) (a := 1) (b := 0) (by decide +kernel) rfl (Or.inr (Or.inl ⟨rfl, Or.inl rfl⟩)) ?_
              exact ⟨Ch20, Xh20.le (by decide) (by decide), by omega⟩
            · refine zwW_p [(1, 0, 2)] (q := 80) (ls' := [(2, 9), (0, v6), (0, v19)]) (st' := [(2, 9)]) (by decide +kernel) rfl ?_
              refine zwW_gs Ch20.1 (kd := 7) (bn := 4) (n := 9) (t := 0) (lo := -2147483648) (hi := 2147483647) (nx := 83) (by decide +kernel) ?_
              intro v22 ev22 lv22 uv22
              refine zwW_p [(0, 59, 0)] (q := 85) (ls' := [(2, 9), (0, v6), (0, v19)]) (st' := [(0, 59), (0, v22)]) (by decide +kernel) rfl ?_
              refine zwic_ne (q := 108) (nx := 88) (by decide +kernel) (fun c23 => ?_) (fun c23 => ?_)
              · refine zwW_p [(0, 0, 0)] (q := 109) (ls' := [(2, 9), (0, v6), (0, v19)]) (st' := [(0, 0)]) (by decide +kernel) rfl ?_
                refine zwW_ret (nx := 110) (a := 1) (b := 0) (by decide +kernel) rfl (Or.inr (Or.inl ⟨rfl, Or.inl rfl⟩)) ?_
                exact ⟨Ch20, Xh20.le (by decide) (by decide), by omega⟩
              · refine zwW_p [(1, 0, 2)] (q := 89) (ls' := [(2, 9), (0, v6), (0, v19)]) (st' := [(2, 9)]) (by decide +kernel) rfl ?_
                refine zwW_cm Ch20.1 (op := 60) (k' := 198) (n := 0) (kd := 7) (m := 9) (nx := 92) (r := 9) (tl := []) (st' := []) (by decide +kernel) rfl (by decide +kernel) rfl (x198 h20 Ch20) ?_
                rintro v25 h26 ⟨Ch26, Qh26, f24⟩
                have Xh26 : zXR msx199 (0) (0) h h26 := Xh20.tr (c2 := 0) (s2 := 0) Qh26 (by decide +kernel) (by decide) (by decide)
                refine zwif_eq (q := 108) (nx := 95) (by decide +kernel) (fun c27 => ?_) (fun c27 => ?_)
                · refine zwW_p [(0, 0, 0)] (q := 109) (ls' := [(2, 9), (0, v6), (0, v19)]) (st' := [(0, 0)]) (by decide +kernel) rfl ?_
                  refine zwW_ret (nx := 110) (a := 1) (b := 0) (by decide +kernel) rfl (Or.inr (Or.inl ⟨rfl, Or.inl rfl⟩)) ?_
                  exact ⟨Ch26, Xh26.le (by decide) (by decide), by omega⟩
                · refine zwW_p [(1, 0, 2), (0, -21, 0)] (q := 98) (ls' := [(2, 9), (0, v6), (0, v19)]) (st' := [(0, -21), (2, 9)]) (by decide +kernel) rfl ?_
                  refine zwW_cm Ch26.1 (op := 60) (k' := 243) (n := 1) (kd := 7) (m := 9) (nx := 101) (r := 9) (tl := [(0, -21)]) (st' := []) (by decide +kernel) rfl (by decide +kernel) rfl (x243 h26 Ch26 (-21) (by omega)) ?_
                  rintro v29 h30 ⟨Ch30, Qh30, f28⟩
                  have Xh30 : zXR msx199 (0) (0) h h30 := Xh26.tr (c2 := 0) (s2 := 0) Qh30 (by decide +kernel) (by decide) (by decide)
                  refine zwif_eq (q := 108) (nx := 104) (by decide +kernel) (fun c31 => ?_) (fun c31 => ?_)
                  · refine zwW_p [(0, 0, 0)] (q := 109) (ls' := [(2, 9), (0, v6), (0, v19)]) (st' := [(0, 0)]) (by decide +kernel) rfl ?_
                    refine zwW_ret (nx := 110) (a := 1) (b := 0) (by decide +kernel) rfl (Or.inr (Or.inl ⟨rfl, Or.inl rfl⟩)) ?_
                    exact ⟨Ch30, Xh30.le (by decide) (by decide), by omega⟩
                  · refine zwW_p [(0, 1, 0), (24, 109, 0)] (q := 109) (ls' := [(2, 9), (0, v6), (0, v19)]) (st' := [(0, 1)]) (by decide +kernel) rfl ?_
                    refine zwW_ret (nx := 110) (a := 1) (b := 0) (by decide +kernel) rfl (Or.inr (Or.inl ⟨rfl, Or.inr rfl⟩)) ?_
                    exact ⟨Ch30, Xh30.le (by decide) (by decide), by omega⟩
          · refine zwW_p [(1, 0, 2), (0, 0, 0)] (q := 63) (ls' := [(2, 9), (0, v6), (9, 0)]) (st' := [(0, 0), (2, 9)]) (by decide +kernel) rfl ?_
            refine zwW_cm Ch16.1 (op := 60) (k' := 241) (n := 1) (kd := 7) (m := 9) (nx := 66) (r := 9) (tl := [(0, 0)]) (st' := []) (by decide +kernel) rfl (by decide +kernel) rfl (zk_sum sc h16 Ch16) ?_
            rintro v33 h34 ⟨Ch34, Qh34, f32⟩
            have Xh34 : zXR msx199 (0) (0) h h34 := Xh16.tr (c2 := 0) (s2 := 0) Qh34 (by decide +kernel) (by decide) (by decide)
            refine zwW_p [(24, 74, 0), (2, 2, 0), (1, 2, 0)] (q := 76) (ls' := [(2, 9), (0, v6), (0, v33)]) (st' := [(0, v33)]) (by decide +kernel) rfl ?_
            refine zwif_eq (q := 108) (nx := 79) (by decide +kernel) (fun c35 => ?_) (fun c35 => ?_)
            · refine zwW_p [(0, 0, 0)] (q := 109) (ls' := [(2, 9), (0, v6), (0, v33)]) (st' := [(0, 0)]) (by decide +kernel) rfl ?_
              refine zwW_ret (nx := 110) (a := 1) (b := 0) (by decide +kernel) rfl (Or.inr (Or.inl ⟨rfl, Or.inl rfl⟩)) ?_
              exact ⟨Ch34, Xh34.le (by decide) (by decide), by omega⟩
            · refine zwW_p [(1, 0, 2)] (q := 80) (ls' := [(2, 9), (0, v6), (0, v33)]) (st' := [(2, 9)]) (by decide +kernel) rfl ?_
              refine zwW_gs Ch34.1 (kd := 7) (bn := 4) (n := 9) (t := 0) (lo := -2147483648) (hi := 2147483647) (nx := 83) (by decide +kernel) ?_
              intro v36 ev36 lv36 uv36
              refine zwW_p [(0, 59, 0)] (q := 85) (ls' := [(2, 9), (0, v6), (0, v33)]) (st' := [(0, 59), (0, v36)]) (by decide +kernel) rfl ?_
              refine zwic_ne (q := 108) (nx := 88) (by decide +kernel) (fun c37 => ?_) (fun c37 => ?_)
              · refine zwW_p [(0, 0, 0)] (q := 109) (ls' := [(2, 9), (0, v6), (0, v33)]) (st' := [(0, 0)]) (by decide +kernel) rfl ?_
                refine zwW_ret (nx := 110) (a := 1) (b := 0) (by decide +kernel) rfl (Or.inr (Or.inl ⟨rfl, Or.inl rfl⟩)) ?_
                exact ⟨Ch34, Xh34.le (by decide) (by decide), by omega⟩
              · refine zwW_p [(1, 0, 2)] (q := 89) (ls' := [(2, 9), (0, v6), (0, v33)]) (st' := [(2, 9)]) (by decide +kernel) rfl ?_
                refine zwW_cm Ch34.1 (op := 60) (k' := 198) (n := 0) (kd := 7) (m := 9) (nx := 92) (r := 9) (tl := []) (st' := []) (by decide +kernel) rfl (by decide +kernel) rfl (x198 h34 Ch34) ?_
                rintro v39 h40 ⟨Ch40, Qh40, f38⟩
                have Xh40 : zXR msx199 (0) (0) h h40 := Xh34.tr (c2 := 0) (s2 := 0) Qh40 (by decide +kernel) (by decide) (by decide)
                refine zwif_eq (q := 108) (nx := 95) (by decide +kernel) (fun c41 => ?_) (fun c41 => ?_)
                · refine zwW_p [(0, 0, 0)] (q := 109) (ls' := [(2, 9), (0, v6), (0, v33)]) (st' := [(0, 0)]) (by decide +kernel) rfl ?_
                  refine zwW_ret (nx := 110) (a := 1) (b := 0) (by decide +kernel) rfl (Or.inr (Or.inl ⟨rfl, Or.inl rfl⟩)) ?_
                  exact ⟨Ch40, Xh40.le (by decide) (by decide), by omega⟩
                · refine zwW_p [(1, 0, 2), (0, -21, 0)] (q := 98) (ls' := [(2, 9), (0, v6), (0, v33)]) (st' := [(0, -21), (2, 9)]) (by decide +kernel) rfl ?_
                  refine zwW_cm Ch40.1 (op := 60) (k' := 243) (n := 1) (kd := 7) (m := 9) (nx := 101) (r := 9) (tl := [(0, -21)]) (st' := []) (by decide +kernel) rfl (by decide +kernel) rfl (x243 h40 Ch40 (-21) (by omega)) ?_
                  rintro v43 h44 ⟨Ch44, Qh44, f42⟩
                  have Xh44 : zXR msx199 (0) (0) h h44 := Xh40.tr (c2 := 0) (s2 := 0) Qh44 (by decide +kernel) (by decide) (by decide)
                  refine zwif_eq (q := 108) (nx := 104) (by decide +kernel) (fun c45 => ?_) (fun c45 => ?_)
                  · refine zwW_p [(0, 0, 0)] (q := 109) (ls' := [(2, 9), (0, v6), (0, v33)]) (st' := [(0, 0)]) (by decide +kernel) rfl ?_
                    refine zwW_ret (nx := 110) (a := 1) (b := 0) (by decide +kernel) rfl (Or.inr (Or.inl ⟨rfl, Or.inl rfl⟩)) ?_
                    exact ⟨Ch44, Xh44.le (by decide) (by decide), by omega⟩
                  · refine zwW_p [(0, 1, 0), (24, 109, 0)] (q := 109) (ls' := [(2, 9), (0, v6), (0, v33)]) (st' := [(0, 1)]) (by decide +kernel) rfl ?_
                    refine zwW_ret (nx := 110) (a := 1) (b := 0) (by decide +kernel) rfl (Or.inr (Or.inl ⟨rfl, Or.inr rfl⟩)) ?_
                    exact ⟨Ch44, Xh44.le (by decide) (by decide), by omega⟩
        · refine zwW_p [(0, 0, 0)] (q := 40) (ls' := [(2, 9), (0, v6), (9, 0)]) (st' := [(0, 0)]) (by decide +kernel) rfl ?_
          refine zwW_ret (nx := 41) (a := 1) (b := 0) (by decide +kernel) rfl (Or.inr (Or.inl ⟨rfl, Or.inl rfl⟩)) ?_
          exact ⟨C, X.le (by decide) (by decide), by omega⟩
def msx120 : Zms := [(9, 9, 2, 7), (11, 11, 0, 400), (12, 12, 0, 5)]
-- WheelLand$Reader.read()I
theorem x120 {sc : List Int} (h : Hp) (C : CI h) : zwC sc 232 120 [(2, 9)] h (zwRt 0 (fun x g => CI g ∧ zXR msx120 (0) (0) h g ∧ (-2147483648 ≤ x ∧ x ≤ 2147483647))) := by
  refine zwC_of (D := 231) 2 (by decide +kernel) rfl (ls := [(2, 9), (9, 0)]) rfl ?_
  have X : zXR msx120 0 0 h h := zXR.rf _ _
  refine zwW_p [(1, 0, 2), (0, 0, 0)] (q := 2) (ls' := [(2, 9), (9, 0)]) (st' := [(0, 0), (2, 9)]) (by decide +kernel) rfl ?_
  refine zwW_ps C.1 (kd := 7) (bn := 2) (n := 9) (lo := 0) (hi := 400) (nx := 5) (by decide +kernel) (by first | decide | exact ⟨by decide, by decide⟩) ?_
  intro h1 eh1 Ih1
  have Ch1 : CI h1 := C.wc eh1 Ih1 (by decide) (by decide)
  have Qh1 : zXR [(9, 9, 2, 3)] 0 0 h h1 := zXR.wc eh1 rfl ⟨by decide, by decide, Or.inl (by decide)⟩ (by first | decide | exact ⟨by decide, by decide⟩)
  have Xh1 : zXR msx120 (0) (0) h h1 := X.tr (c2 := 0) (s2 := 0) Qh1 (by decide +kernel) (by decide) (by decide)
  have th1_9_2 : fld h1 9 2 = 0 := by rw [eh1]; exact fld_wr_eq (C.1.s (a1 := 9) (a2 := 9) (k := 7) (n := 9) (by decide +kernel) (by decide) (by decide)) (by decide)
  refine zwW_p [(1, 0, 2), (0, 0, 0)] (q := 7) (ls' := [(2, 9), (9, 0)]) (st' := [(0, 0), (2, 9)]) (by decide +kernel) rfl ?_
  refine zwW_ps Ch1.1 (kd := 7) (bn := 6) (n := 9) (lo := 0) (hi := 400) (nx := 10) (by decide +kernel) (by first | decide | exact ⟨by decide, by decide⟩) ?_
  intro h2 eh2 Ih2
  have Ch2 : CI h2 := Ch1.wc eh2 Ih2 (by decide) (by decide)
  have Qh2 : zXR [(9, 9, 6, 7)] 0 0 h1 h2 := zXR.wc eh2 rfl ⟨by decide, by decide, Or.inl (by decide)⟩ (by first | decide | exact ⟨by decide, by decide⟩)
  have Xh2 : zXR msx120 (0) (0) h h2 := Xh1.tr (c2 := 0) (s2 := 0) Qh2 (by decide +kernel) (by decide) (by decide)
  have th2_9_2 : fld h2 9 2 = fld h1 9 2 := Qh2.f (a1 := 9) (a2 := 9) (j1 := 2) (j2 := 3) (by decide +kernel) (by first | decide | exact ⟨by decide, by decide⟩) (by first | decide | exact ⟨by decide, by decide⟩) (by first | decide | exact ⟨by decide, by decide⟩)
  refine zwW_p [(1, 0, 2)] (q := 11) (ls' := [(2, 9), (9, 0)]) (st' := [(2, 9)]) (by decide +kernel) rfl ?_
  refine zwW_gc Ch2.1 (kd := 7) (bn := 8) (n := 9) (c := 12) (nx := 14) (by decide +kernel) ?_
  refine zwW_p [(0, -1, 0)] (q := 15) (ls' := [(2, 9), (9, 0)]) (st' := [(0, -1), (2, 12)]) (by decide +kernel) rfl ?_
  refine zwW_csv (k' := 180) (n := 2) (nx := 18) (as := [(2, 12), (0, -1)]) (st' := []) (by decide +kernel) rfl (x180_12 Ch2 (by first | omega | exact ⟨by omega, by omega⟩)) rfl ?_
  rintro h3 ⟨Ch3, Qh3, fh3⟩
  have Xh3 : zXR msx120 (0) (0) h h3 := Xh2.tr (c2 := 0) (s2 := 0) Qh3 (by decide +kernel) (by decide) (by decide)
  have th3_9_2 : fld h3 9 2 = fld h2 9 2 := Qh3.f (a1 := 9) (a2 := 9) (j1 := 2) (j2 := 3) (by decide +kernel) (by first | decide | exact ⟨by decide, by decide⟩) (by first | decide | exact ⟨by decide, by decide⟩) (by first | decide | exact ⟨by decide, by decide⟩)
  refine zwW_p [(1, 0, 2)] (q := 19) (ls' := [(2, 9), (9, 0)]) (st' := [(2, 9)]) (by decide +kernel) rfl ?_
  refine zwW_cm Ch3.1 (op := 60) (k' := 198) (n := 0) (kd := 7) (m := 9) (nx := 22) (r := 9) (tl := []) (st' := []) (by decide +kernel) rfl (by decide +kernel) rfl (x198 h3 Ch3) ?_
  rintro v5 h6 ⟨Ch6, Qh6, f4⟩
  have Xh6 : zXR msx120 (0) (0) h h6 := Xh3.tr (c2 := 0) (s2 := 0) Qh6 (by decide +kernel) (by decide) (by decide)
  refine zwW_p [(15, 0, 0), (0, 0, 0), (2, 1, 0)] (q := 25) (ls' := [(2, 9), (0, 0)]) (st' := []) (by decide +kernel) rfl ?_
  have L7 : ∀ (n : Nat) (v1L7 : Int) (hL7 : Hp), n = ((1000 - v1L7)).toNat → (0 ≤ v1L7 ∧ v1L7 ≤ 1000) → CI hL7 → zXR msx120 (0) (0) h hL7 → zwW sc (231) 120 25 [(2, 9), (0, v1L7)] [] hL7 (zwRt 0 (fun x g => CI g ∧ zXR msx120 (0) (0) h g ∧ (-2147483648 ≤ x ∧ x ≤ 2147483647))) := by
    intro n
    induction n using Nat.strongRecOn with
    | ind n IHL7 =>
      intro v1L7 hL7 hnL7 iL7_0 ChL7 XhL7
      refine zwW_p [(1, 1, 0), (0, 400, 0)] (q := 29) (ls' := [(2, 9), (0, v1L7)]) (st' := [(0, 400), (0, v1L7)]) (by decide +kernel) rfl ?_
      refine zwic_ge (q := 57) (nx := 32) (by decide +kernel) (fun c8 => ?_) (fun c8 => ?_)
      · refine zwW_p [(0, -1, 0)] (q := 58) (ls' := [(2, 9), (0, v1L7)]) (st' := [(0, -1)]) (by decide +kernel) rfl ?_
        refine zwW_ret (nx := 59) (a := 0) (b := 0) (by decide +kernel) rfl (Or.inl rfl) ?_
        exact ⟨ChL7, XhL7.le (by decide) (by decide), by omega⟩
      · refine zwW_p [(1, 0, 2)] (q := 33) (ls' := [(2, 9), (0, v1L7)]) (st' := [(2, 9)]) (by decide +kernel) rfl ?_
        refine zwW_gs ChL7.1 (kd := 7) (bn := 4) (n := 9) (t := 0) (lo := -2147483648) (hi := 2147483647) (nx := 36) (by decide +kernel) ?_
        intro v9 ev9 lv9 uv9
        refine zwif_eq (q := 57) (nx := 39) (by decide +kernel) (fun c10 => ?_) (fun c10 => ?_)
        · refine zwW_p [(0, -1, 0)] (q := 58) (ls' := [(2, 9), (0, v1L7)]) (st' := [(0, -1)]) (by decide +kernel) rfl ?_
          refine zwW_ret (nx := 59) (a := 0) (b := 0) (by decide +kernel) rfl (Or.inl rfl) ?_
          exact ⟨ChL7, XhL7.le (by decide) (by decide), by omega⟩
        · refine zwW_p [(1, 0, 2)] (q := 40) (ls' := [(2, 9), (0, v1L7)]) (st' := [(2, 9)]) (by decide +kernel) rfl ?_
          refine zwW_cm ChL7.1 (op := 60) (k' := 199) (n := 0) (kd := 7) (m := 9) (nx := 43) (r := 9) (tl := []) (st' := []) (by decide +kernel) rfl (by decide +kernel) rfl (x199 hL7 ChL7) ?_
          rintro v12 h13 ⟨Ch13, Qh13, f11⟩
          have Xh13 : zXR msx120 (0) (0) h h13 := XhL7.tr (c2 := 0) (s2 := 0) Qh13 (by decide +kernel) (by decide) (by decide)
          refine zwif_ne (q := 51) (nx := 46) (by decide +kernel) (fun c14 => ?_) (fun c14 => ?_)
          · refine zwW_inc (i := 1) (c := 1) (x := v1L7) (nx := 54) (by decide +kernel) rfl (by first | omega | exact ⟨by omega, by omega⟩) (ls' := [(2, 9), (0, (v1L7 + 1))]) rfl ?_
            refine zwW_p [(24, 25, 0)] (q := 25) (ls' := [(2, 9), (0, (v1L7 + 1))]) (st' := []) (by decide +kernel) rfl ?_
            exact IHL7 ((1000 - (v1L7 + 1))).toNat (by omega) (v1L7 + 1) h13 rfl (by omega) Ch13 (Xh13.le (by decide) (by decide))
          · refine zwW_p [(1, 0, 2)] (q := 47) (ls' := [(2, 9), (0, v1L7)]) (st' := [(2, 9)]) (by decide +kernel) rfl ?_
            refine zwW_gs Ch13.1 (kd := 7) (bn := 3) (n := 9) (t := 0) (lo := 0) (hi := 400) (nx := 50) (by decide +kernel) ?_
            intro v15 ev15 lv15 uv15
            refine zwW_ret (nx := 51) (a := 0) (b := 0) (by decide +kernel) rfl (Or.inl rfl) ?_
            exact ⟨Ch13, Xh13.le (by decide) (by decide), by omega⟩
  exact L7 _ 0 h6 rfl (by omega) Ch6 (Xh6.le (by decide) (by decide))
def msx146 : Zms := [(19, 19, 4, 5), (24, 24, 0, 6), (25, 25, 0, 6), (26, 26, 0, 6)]
-- WheelLand$Handwork.find()V
theorem x146 {sc : List Int} (h : Hp) (C : CI h) : zwC sc 71 146 [(2, 19)] h (zwRv (fun g => CI g ∧ zXR msx146 (0) (0) h g)) := by
  refine zwC_of (D := 70) 1 (by decide +kernel) rfl (ls := [(2, 19)]) rfl ?_
  have X : zXR msx146 0 0 h h := zXR.rf _ _
  refine zwW_p [(1, 0, 2), (0, 1000000, 0)] (q := 3) (ls' := [(2, 19)]) (st' := [(0, 1000000), (2, 19)]) (by decide +kernel) rfl ?_
  refine zwW_ps C.1 (kd := 3) (bn := 4) (n := 10) (lo := -2147483648) (hi := 2147483647) (nx := 6) (by decide +kernel) (by first | decide | exact ⟨by decide, by decide⟩) ?_
  intro h1 eh1 Ih1
  have Ch1 : CI h1 := C.wc eh1 Ih1 (by decide) (by decide)
  have Qh1 : zXR [(19, 19, 4, 5)] 0 0 h h1 := zXR.wc eh1 rfl ⟨by decide, by decide, Or.inl (by decide)⟩ (by first | decide | exact ⟨by decide, by decide⟩)
  have Xh1 : zXR msx146 (0) (0) h h1 := X.tr (c2 := 0) (s2 := 0) Qh1 (by decide +kernel) (by decide) (by decide)
  refine zwW_p [(1, 0, 2), (0, 0, 0), (0, 0, 0)] (q := 9) (ls' := [(2, 19)]) (st' := [(0, 0), (0, 0), (2, 19)]) (by decide +kernel) rfl ?_
  refine zwW_cmv Ch1.1 (op := 60) (k' := 212) (n := 2) (kd := 3) (m := 10) (nx := 12) (r := 19) (tl := [(0, 0), (0, 0)]) (st' := []) (by decide +kernel) rfl (by decide +kernel) rfl (zk_search sc h1 Ch1 0 (by omega)) ?_
  rintro h2 ⟨Ch2, Qh2⟩
  have Xh2 : zXR msx146 (0) (0) h h2 := Xh1.tr (c2 := 0) (s2 := 0) Qh2 (by decide +kernel) (by decide) (by decide)
  refine zwW_retv (nx := 13) (a := 0) (b := 0) (by decide +kernel) ?_
  exact ⟨Ch2, Xh2.le (by decide) (by decide)⟩
-- WheelLand.wouldSpin(LWheelLand$House;)I
theorem x170 {sc : List Int} (h : Hp) (C : CI h) (r : Int) (G_r : gH h r) : zwC sc 3 170 [(2, 1), (2, r)] h (zwRt 0 (fun x g => h = g ∧ (-2147483648 ≤ x ∧ x ≤ 2147483647) ∧ (x ≤ 0 ∨ fld h 4 2 < 300))) := by
  refine zwC_of (D := 2) 3 (by decide +kernel) rfl (ls := [(2, 1), (2, r), (9, 0)]) rfl ?_
  have lw_r := G_r.1
  refine zwW_p [(1, 0, 2)] (q := 1) (ls' := [(2, 1), (2, r), (9, 0)]) (st' := [(2, 1)]) (by decide +kernel) rfl ?_
  refine zwW_gc C.1 (kd := 12) (bn := 4) (n := 13) (c := 4) (nx := 4) (by decide +kernel) ?_
  refine zwW_cm C.1 (op := 60) (k' := 96) (n := 0) (kd := 0) (m := 3) (nx := 7) (r := 4) (tl := []) (st' := []) (by decide +kernel) rfl (by decide +kernel) rfl (x96_4 C) ?_
  rintro v1 _ ⟨rfl, ev1⟩
  have bv1 := zLb_4 C
  refine zwW_p [(0, 300, 0)] (q := 10) (ls' := [(2, 1), (2, r), (9, 0)]) (st' := [(0, 300), (0, v1)]) (by decide +kernel) rfl ?_
  refine zwic_lt (q := 15) (nx := 13) (by decide +kernel) (fun c2 => ?_) (fun c2 => ?_)
  · refine zwW_p [(1, 1, 2)] (q := 16) (ls' := [(2, 1), (2, r), (9, 0)]) (st' := [(2, r)]) (by decide +kernel) rfl ?_
    refine zwX_gi C (kd := 4) (bn := 2) (n := 19) (nx := 19) (by decide +kernel) G_r.2.1 G_r.1 rfl ?_
    intro v3 ev3 lv3 uv3
    refine zwW_p [(1, 1, 2)] (q := 20) (ls' := [(2, 1), (2, r), (9, 0)]) (st' := [(2, r), (0, v3)]) (by decide +kernel) rfl ?_
    refine zwW_get (kd := 4) (bn := 1) (t := 2) (n := 19) (nx := 23) (by decide +kernel) G_r.2.1 rfl ?_
    obtain ⟨v4, ev4⟩ : ∃ z, z = fld h r 1 := ⟨_, rfl⟩
    rw [← ev4]
    have Gv4 : gV h v4 := by rw [ev4]; exact G_r.2.2
    have lv4 := Gv4.1
    refine zwW_p [(1, 0, 2)] (q := 24) (ls' := [(2, 1), (2, r), (9, 0)]) (st' := [(2, 1), (2, v4), (0, v3)]) (by decide +kernel) rfl ?_
    refine zwW_gs C.1 (kd := 12) (bn := 0) (n := 13) (t := 0) (lo := 0) (hi := 156) (nx := 27) (by decide +kernel) ?_
    intro v5 ev5 lv5 uv5
    refine zwW_cs (k' := 162) (n := 1) (nx := 30) (as := [(0, v5)]) (st' := [(2, v4), (0, v3)]) (by decide +kernel) rfl (x162 h C v5 (by omega) (by omega)) rfl ?_
    rintro v6 _ ⟨rfl, f7, f8, f9⟩
    refine zwW_cv (op := 60) (k' := 222) (n := 1) (kd := 11) (m := 17) (nx := 33) (r := v4) (tl := [(0, v6)]) (st' := [(0, v3)]) (by decide +kernel) rfl (by decide +kernel) Gv4.2.1 (x222 h C v4 v6 Gv4 (by omega)) rfl ?_
    rintro v10 _ ⟨rfl, f11⟩
    refine zwW_mlw (nx := 34) (by decide +kernel) ?_
    intro v12 ev12 lv12 uv12
    have Ev12 : v12 = w32 ((fld h r 2) * v10) := by rw [ev12, ev3]
    refine zwW_p [(2, 2, 0), (1, 2, 0), (1, 1, 2)] (q := 37) (ls' := [(2, 1), (2, r), (0, v12)]) (st' := [(2, r), (0, v12)]) (by decide +kernel) rfl ?_
    refine zwX_gi C (kd := 4) (bn := 3) (n := 19) (nx := 40) (by decide +kernel) G_r.2.1 G_r.1 rfl ?_
    intro v13 ev13 lv13 uv13
    refine zwW_p [(1, 1, 2)] (q := 41) (ls' := [(2, 1), (2, r), (0, v12)]) (st' := [(2, r), (0, v13), (0, v12)]) (by decide +kernel) rfl ?_
    refine zwX_gi C (kd := 4) (bn := 7) (n := 19) (nx := 44) (by decide +kernel) G_r.2.1 G_r.1 rfl ?_
    intro v14 ev14 lv14 uv14
    refine zwW_p [(1, 1, 2)] (q := 45) (ls' := [(2, 1), (2, r), (0, v12)]) (st' := [(2, r), (0, v14), (0, v13), (0, v12)]) (by decide +kernel) rfl ?_
    refine zwW_get (kd := 4) (bn := 1) (t := 2) (n := 19) (nx := 48) (by decide +kernel) G_r.2.1 rfl ?_
    rw [← ev4]
    refine zwX_gi C (kd := 11) (bn := 3) (n := 17) (nx := 51) (by decide +kernel) Gv4.2.1 Gv4.1 rfl ?_
    intro v16 ev16 lv16 uv16
    refine zwW_cs (k' := 223) (n := 4) (nx := 54) (as := [(0, v12), (0, v13), (0, v14), (0, v16)]) (st' := []) (by decide +kernel) rfl (x223 h C v12 v13 v14 v16 (by omega) (by omega) (by omega) (by omega)) rfl ?_
    rintro v17 _ ⟨rfl, f18⟩
    refine zwW_ret (nx := 55) (a := 0) (b := 0) (by decide +kernel) rfl (Or.inl rfl) ?_
    exact ⟨rfl, by omega, by omega⟩
  · refine zwW_p [(0, 0, 0)] (q := 14) (ls' := [(2, 1), (2, r), (9, 0)]) (st' := [(0, 0)]) (by decide +kernel) rfl ?_
    refine zwW_ret (nx := 15) (a := 0) (b := 0) (by decide +kernel) rfl (Or.inl rfl) ?_
    exact ⟨rfl, by omega, by omega⟩
def msx232 : Zms := [(1, 1, 1, 2), (1004, 1004, 6, 7), (1004, 1004, 8, 9), (1004, 1004, 9, 10), (1004, 1004, 10, 11), (1011, 1011, 5, 6), (1011, 1011, 6, 7), (1011, 1011, 7, 8), (1011, 1011, 10, 11), (1011, 1011, 13, 14), (1011, 1011, 14, 15)]
-- WheelLand.buyYard(LWheelLand$House;I)V
theorem x232 {sc : List Int} (h : Hp) (C : CI h) (r a : Int) (G_r : gH h r) (q_a : -2147483648 ≤ a ∧ a ≤ 2147483647) : zwC sc 2 232 [(2, 1), (2, r), (0, a)] h (zwRv (fun g => CI g ∧ zXR msx232 (0) (0) h g)) := by
  refine zwC_of (D := 1) 5 (by decide +kernel) rfl (ls := [(2, 1), (2, r), (0, a), (9, 0), (9, 0)]) rfl ?_
  have lw_r := G_r.1
  have X : zXR msx232 0 0 h h := zXR.rf _ _
  refine zwW_p [(1, 1, 2)] (q := 1) (ls' := [(2, 1), (2, r), (0, a), (9, 0), (9, 0)]) (st' := [(2, r)]) (by decide +kernel) rfl ?_
  refine zwW_get (kd := 4) (bn := 1) (t := 2) (n := 19) (nx := 4) (by decide +kernel) G_r.2.1 rfl ?_
  obtain ⟨v1, ev1⟩ : ∃ z, z = fld h r 1 := ⟨_, rfl⟩
  rw [← ev1]
  have Gv1 : gV h v1 := by rw [ev1]; exact G_r.2.2
  have lv1 := Gv1.1
  refine zwW_p [(2, 3, 2), (1, 3, 2), (1, 1, 2)] (q := 7) (ls' := [(2, 1), (2, r), (0, a), (2, v1), (9, 0)]) (st' := [(2, r), (2, v1)]) (by decide +kernel) rfl ?_
  refine zwX_gi C (kd := 4) (bn := 6) (n := 19) (nx := 10) (by decide +kernel) G_r.2.1 G_r.1 rfl ?_
  intro v2 ev2 lv2 uv2
  refine zwW_p [(1, 2, 0)] (q := 11) (ls' := [(2, 1), (2, r), (0, a), (2, v1), (9, 0)]) (st' := [(0, a), (0, v2), (2, v1)]) (by decide +kernel) rfl ?_
  refine zwW_cv (op := 60) (k' := 154) (n := 2) (kd := 11) (m := 17) (nx := 14) (r := v1) (tl := [(0, v2), (0, a)]) (st' := []) (by decide +kernel) rfl (by decide +kernel) Gv1.2.1 (x154 h C v1 v2 a Gv1 (by omega) (by omega)) rfl ?_
  rintro v3 _ ⟨rfl, f4⟩
  refine zwW_p [(2, 4, 0), (1, 4, 0)] (q := 18) (ls' := [(2, 1), (2, r), (0, a), (2, v1), (0, v3)]) (st' := [(0, v3)]) (by decide +kernel) rfl ?_
  refine zwif_ne (q := 51) (nx := 21) (by decide +kernel) (fun c5 => ?_) (fun c5 => ?_)
  · refine zwW_p [(1, 4, 0), (0, 1, 0)] (q := 54) (ls' := [(2, 1), (2, r), (0, a), (2, v1), (0, v3)]) (st' := [(0, 1), (0, v3)]) (by decide +kernel) rfl ?_
    refine zwic_ne (q := 99) (nx := 57) (by decide +kernel) (fun c6 => ?_) (fun c6 => ?_)
    · refine zwW_p [(1, 1, 2), (12, 0, 0)] (q := 101) (ls' := [(2, 1), (2, r), (0, a), (2, v1), (0, v3)]) (st' := [(2, r), (2, r)]) (by decide +kernel) rfl ?_
      refine zwX_gi C (kd := 4) (bn := 8) (n := 19) (nx := 104) (by decide +kernel) G_r.2.1 G_r.1 rfl ?_
      intro v7 ev7 lv7 uv7
      refine zwW_p [(0, 1, 0)] (q := 105) (ls' := [(2, 1), (2, r), (0, a), (2, v1), (0, v3)]) (st' := [(0, 1), (0, v7), (2, r)]) (by decide +kernel) rfl ?_
      refine zwW_adw (nx := 106) (by decide +kernel) ?_
      intro v8 ev8 lv8 uv8
      have Ev8 : v8 = w32 ((fld h r 8) + 1) := by rw [ev8, ev7]
      refine zwX_pi C (kd := 4) (bn := 8) (n := 19) (nx := 109) (by decide +kernel) G_r.2.1 G_r.1 (by first | omega | exact ⟨by omega, by omega⟩) ?_
      rintro h9 eh9 Ch9 Qh9
      have Xh9 : zXR msx232 (0) (0) h h9 := X.tr (c2 := 0) (s2 := 0) Qh9 (by decide +kernel) (by decide) (by decide)
      have Gh9_0 : gH h9 r := G_r.x Qh9
      have Gh9_1 : gV h9 v1 := Gv1.x Qh9
      refine zwW_retv (nx := 110) (a := 0) (b := 0) (by decide +kernel) ?_
      exact ⟨Ch9, Xh9.le (by decide) (by decide)⟩
    · refine zwW_p [(1, 3, 2)] (q := 58) (ls' := [(2, 1), (2, r), (0, a), (2, v1), (0, v3)]) (st' := [(2, v1)]) (by decide +kernel) rfl ?_
      refine zwW_cvv (op := 60) (k' := 259) (n := 0) (kd := 11) (m := 17) (nx := 61) (r := v1) (tl := []) (st' := []) (by decide +kernel) rfl (by decide +kernel) Gv1.2.1 (x259 h C v1 Gv1) rfl ?_
      rintro h10 ⟨Ch10, Qh10⟩
      have Xh10 : zXR msx232 (0) (0) h h10 := X.tr (c2 := 0) (s2 := 0) Qh10 (by decide +kernel) (by decide) (by decide)
      have Gh10_0 : gH h10 r := G_r.x Qh10
      have Gh10_1 : gV h10 v1 := Gv1.x Qh10
      refine zwW_p [(1, 1, 2), (12, 0, 0)] (q := 63) (ls' := [(2, 1), (2, r), (0, a), (2, v1), (0, v3)]) (st' := [(2, r), (2, r)]) (by decide +kernel) rfl ?_
      refine zwX_gi Ch10 (kd := 4) (bn := 10) (n := 19) (nx := 66) (by decide +kernel) Gh10_0.2.1 Gh10_0.1 rfl ?_
      intro v11 ev11 lv11 uv11
      refine zwW_p [(0, 1, 0)] (q := 67) (ls' := [(2, 1), (2, r), (0, a), (2, v1), (0, v3)]) (st' := [(0, 1), (0, v11), (2, r)]) (by decide +kernel) rfl ?_
      refine zwW_adw (nx := 68) (by decide +kernel) ?_
      intro v12 ev12 lv12 uv12
      have Ev12 : v12 = w32 ((fld h10 r 10) + 1) := by rw [ev12, ev11]
      refine zwX_pi Ch10 (kd := 4) (bn := 10) (n := 19) (nx := 71) (by decide +kernel) Gh10_0.2.1 Gh10_0.1 (by first | omega | exact ⟨by omega, by omega⟩) ?_
      rintro h13 eh13 Ch13 Qh13
      have Xh13 : zXR msx232 (0) (0) h h13 := Xh10.tr (c2 := 0) (s2 := 0) Qh13 (by decide +kernel) (by decide) (by decide)
      have Gh13_0 : gH h13 r := Gh10_0.x Qh13
      have Gh13_1 : gV h13 v1 := Gh10_1.x Qh13
      refine zwW_p [(1, 1, 2), (12, 0, 0)] (q := 73) (ls' := [(2, 1), (2, r), (0, a), (2, v1), (0, v3)]) (st' := [(2, r), (2, r)]) (by decide +kernel) rfl ?_
      refine zwX_gi Ch13 (kd := 4) (bn := 6) (n := 19) (nx := 76) (by decide +kernel) Gh13_0.2.1 Gh13_0.1 rfl ?_
      intro v14 ev14 lv14 uv14
      refine zwW_p [(1, 3, 2)] (q := 77) (ls' := [(2, 1), (2, r), (0, a), (2, v1), (0, v3)]) (st' := [(2, v1), (0, v14), (2, r)]) (by decide +kernel) rfl ?_
      refine zwX_gi Ch13 (kd := 11) (bn := 9) (n := 17) (nx := 80) (by decide +kernel) Gh13_1.2.1 Gh13_1.1 rfl ?_
      intro v15 ev15 lv15 uv15
      refine zwW_p [(1, 2, 0)] (q := 81) (ls' := [(2, 1), (2, r), (0, a), (2, v1), (0, v3)]) (st' := [(0, a), (0, v15), (0, v14), (2, r)]) (by decide +kernel) rfl ?_
      refine zwW_adw (nx := 82) (by decide +kernel) ?_
      intro v16 ev16 lv16 uv16
      have Ev16 : v16 = w32 ((fld h13 v1 9) + a) := by rw [ev16, ev15]
      refine zwW_sbw (nx := 83) (by decide +kernel) ?_
      intro v17 ev17 lv17 uv17
      have Ev17 : v17 = w32 ((fld h13 r 6) - (w32 ((fld h13 v1 9) + a))) := by rw [ev17, ev14, Ev16]
      refine zwX_pi Ch13 (kd := 4) (bn := 6) (n := 19) (nx := 86) (by decide +kernel) Gh13_0.2.1 Gh13_0.1 (by first | omega | exact ⟨by omega, by omega⟩) ?_
      rintro h18 eh18 Ch18 Qh18
      have Xh18 : zXR msx232 (0) (0) h h18 := Xh13.tr (c2 := 0) (s2 := 0) Qh18 (by decide +kernel) (by decide) (by decide)
      have Gh18_0 : gH h18 r := Gh13_0.x Qh18
      have Gh18_1 : gV h18 v1 := Gh13_1.x Qh18
      refine zwW_p [(1, 0, 2), (12, 0, 0)] (q := 88) (ls' := [(2, 1), (2, r), (0, a), (2, v1), (0, v3)]) (st' := [(2, 1), (2, 1)]) (by decide +kernel) rfl ?_
      refine zwW_gs Ch18.1 (kd := 12) (bn := 1) (n := 13) (t := 0) (lo := -2147483648) (hi := 2147483647) (nx := 91) (by decide +kernel) ?_
      intro v19 ev19 lv19 uv19
      refine zwW_p [(1, 2, 0)] (q := 92) (ls' := [(2, 1), (2, r), (0, a), (2, v1), (0, v3)]) (st' := [(0, a), (0, v19), (2, 1)]) (by decide +kernel) rfl ?_
      refine zwW_adw (nx := 93) (by decide +kernel) ?_
      intro v20 ev20 lv20 uv20
      refine zwW_ps Ch18.1 (kd := 12) (bn := 1) (n := 13) (lo := -2147483648) (hi := 2147483647) (nx := 96) (by decide +kernel) (by first | omega | exact ⟨by omega, by omega⟩) ?_
      intro h21 eh21 Ih21
      have Ch21 : CI h21 := Ch18.wc eh21 Ih21 (by decide) (by decide)
      have Qh21 : zXR [(1, 1, 1, 2)] 0 0 h18 h21 := zXR.wc eh21 rfl ⟨by decide, by decide, Or.inl (by decide)⟩ (by first | decide | exact ⟨by decide, by decide⟩)
      have Xh21 : zXR msx232 (0) (0) h h21 := Xh18.tr (c2 := 0) (s2 := 0) Qh21 (by decide +kernel) (by decide) (by decide)
      have Gh21_0 : gH h21 r := Gh18_0.x Qh21
      have Gh21_1 : gV h21 v1 := Gh18_1.x Qh21
      refine zwW_p [(24, 109, 0)] (q := 109) (ls' := [(2, 1), (2, r), (0, a), (2, v1), (0, v3)]) (st' := []) (by decide +kernel) rfl ?_
      refine zwW_retv (nx := 110) (a := 0) (b := 0) (by decide +kernel) ?_
      exact ⟨Ch21, Xh21.le (by decide) (by decide)⟩
  · refine zwW_p [(1, 3, 2)] (q := 22) (ls' := [(2, 1), (2, r), (0, a), (2, v1), (0, v3)]) (st' := [(2, v1)]) (by decide +kernel) rfl ?_
    refine zwW_cvv (op := 60) (k' := 258) (n := 0) (kd := 11) (m := 17) (nx := 25) (r := v1) (tl := []) (st' := []) (by decide +kernel) rfl (by decide +kernel) Gv1.2.1 (x258 h C v1 Gv1) rfl ?_
    rintro h22 ⟨Ch22, Qh22⟩
    have Xh22 : zXR msx232 (0) (0) h h22 := X.tr (c2 := 0) (s2 := 0) Qh22 (by decide +kernel) (by decide) (by decide)
    have Gh22_0 : gH h22 r := G_r.x Qh22
    have Gh22_1 : gV h22 v1 := Gv1.x Qh22
    refine zwW_p [(1, 1, 2), (12, 0, 0)] (q := 27) (ls' := [(2, 1), (2, r), (0, a), (2, v1), (0, v3)]) (st' := [(2, r), (2, r)]) (by decide +kernel) rfl ?_
    refine zwX_gi Ch22 (kd := 4) (bn := 9) (n := 19) (nx := 30) (by decide +kernel) Gh22_0.2.1 Gh22_0.1 rfl ?_
    intro v23 ev23 lv23 uv23
    refine zwW_p [(0, 1, 0)] (q := 31) (ls' := [(2, 1), (2, r), (0, a), (2, v1), (0, v3)]) (st' := [(0, 1), (0, v23), (2, r)]) (by decide +kernel) rfl ?_
    refine zwW_adw (nx := 32) (by decide +kernel) ?_
    intro v24 ev24 lv24 uv24
    have Ev24 : v24 = w32 ((fld h22 r 9) + 1) := by rw [ev24, ev23]
    refine zwX_pi Ch22 (kd := 4) (bn := 9) (n := 19) (nx := 35) (by decide +kernel) Gh22_0.2.1 Gh22_0.1 (by first | omega | exact ⟨by omega, by omega⟩) ?_
    rintro h25 eh25 Ch25 Qh25
    have Xh25 : zXR msx232 (0) (0) h h25 := Xh22.tr (c2 := 0) (s2 := 0) Qh25 (by decide +kernel) (by decide) (by decide)
    have Gh25_0 : gH h25 r := Gh22_0.x Qh25
    have Gh25_1 : gV h25 v1 := Gh22_1.x Qh25
    refine zwW_p [(1, 1, 2), (12, 0, 0)] (q := 37) (ls' := [(2, 1), (2, r), (0, a), (2, v1), (0, v3)]) (st' := [(2, r), (2, r)]) (by decide +kernel) rfl ?_
    refine zwX_gi Ch25 (kd := 4) (bn := 6) (n := 19) (nx := 40) (by decide +kernel) Gh25_0.2.1 Gh25_0.1 rfl ?_
    intro v26 ev26 lv26 uv26
    refine zwW_p [(1, 3, 2)] (q := 41) (ls' := [(2, 1), (2, r), (0, a), (2, v1), (0, v3)]) (st' := [(2, v1), (0, v26), (2, r)]) (by decide +kernel) rfl ?_
    refine zwX_gi Ch25 (kd := 11) (bn := 8) (n := 17) (nx := 44) (by decide +kernel) Gh25_1.2.1 Gh25_1.1 rfl ?_
    intro v27 ev27 lv27 uv27
    refine zwW_sbw (nx := 45) (by decide +kernel) ?_
    intro v28 ev28 lv28 uv28
    have Ev28 : v28 = w32 ((fld h25 r 6) - (fld h25 v1 8)) := by rw [ev28, ev26, ev27]
    refine zwX_pi Ch25 (kd := 4) (bn := 6) (n := 19) (nx := 48) (by decide +kernel) Gh25_0.2.1 Gh25_0.1 (by first | omega | exact ⟨by omega, by omega⟩) ?_
    rintro h29 eh29 Ch29 Qh29
    have Xh29 : zXR msx232 (0) (0) h h29 := Xh25.tr (c2 := 0) (s2 := 0) Qh29 (by decide +kernel) (by decide) (by decide)
    have Gh29_0 : gH h29 r := Gh25_0.x Qh29
    have Gh29_1 : gV h29 v1 := Gh25_1.x Qh29
    refine zwW_p [(24, 109, 0)] (q := 109) (ls' := [(2, 1), (2, r), (0, a), (2, v1), (0, v3)]) (st' := []) (by decide +kernel) rfl ?_
    refine zwW_retv (nx := 110) (a := 0) (b := 0) (by decide +kernel) ?_
    exact ⟨Ch29, Xh29.le (by decide) (by decide)⟩
def msx185 : Zms := [(4, 4, 0, 3), (1004, 1004, 18, 19), (1011, 1011, 3, 4)]
-- WheelLand.spinAll()I
theorem x185 {sc : List Int} (h : Hp) (C : CI h) (hl : h.length ≤ 999930000) : zwC sc 7 185 [(2, 1)] h (zwRt 0 (fun x g => CI g ∧ zXR msx185 (0) (0) h g ∧ (-2147483648 ≤ x ∧ x ≤ 2147483647))) := by
  refine zwC_of (D := 6) 6 (by decide +kernel) rfl (ls := [(2, 1), (9, 0), (9, 0), (9, 0), (9, 0), (9, 0)]) rfl ?_
  have X : zXR msx185 0 0 h h := zXR.rf _ _
  refine zwW_p [(1, 0, 2)] (q := 1) (ls' := [(2, 1), (9, 0), (9, 0), (9, 0), (9, 0), (9, 0)]) (st' := [(2, 1)]) (by decide +kernel) rfl ?_
  refine zwW_gs C.1 (kd := 12) (bn := 0) (n := 13) (t := 0) (lo := 0) (hi := 156) (nx := 4) (by decide +kernel) ?_
  intro v1 ev1 lv1 uv1
  refine zwW_cs (k' := 162) (n := 1) (nx := 7) (as := [(0, v1)]) (st' := []) (by decide +kernel) rfl (x162 h C v1 (by omega) (by omega)) rfl ?_
  rintro v2 _ ⟨rfl, f3, f4, f5⟩
  refine zwW_p [(2, 1, 0), (0, 0, 0), (2, 2, 0), (0, 0, 0), (2, 3, 0)] (q := 12) (ls' := [(2, 1), (0, v2), (0, 0), (0, 0), (9, 0), (9, 0)]) (st' := []) (by decide +kernel) rfl ?_
  have L6 : ∀ (n : Nat) (v2L6 v3L6 : Int) (w4L6 w5L6 : Vl) (hL6 : Hp), n = ((1000 - v3L6)).toNat → (-2147483648 ≤ v2L6 ∧ v2L6 ≤ 2147483647) → (0 ≤ v3L6 ∧ v3L6 ≤ 1000) → CI hL6 → zXR msx185 (0) (0) h hL6 → zwW sc (6) 185 12 [(2, 1), (0, v2), (0, v2L6), (0, v3L6), w4L6, w5L6] [] hL6 (zwRt 0 (fun x g => CI g ∧ zXR msx185 (0) (0) h g ∧ (-2147483648 ≤ x ∧ x ≤ 2147483647))) := by
    intro n
    induction n using Nat.strongRecOn with
    | ind n IHL6 =>
      intro v2L6 v3L6 w4L6 w5L6 hL6 hnL6 iL6_0 iL6_1 ChL6 XhL6
      refine zwW_p [(1, 3, 0), (1, 0, 2)] (q := 14) (ls' := [(2, 1), (0, v2), (0, v2L6), (0, v3L6), w4L6, w5L6]) (st' := [(2, 1), (0, v3L6)]) (by decide +kernel) rfl ?_
      refine zwW_gc ChL6.1 (kd := 12) (bn := 3) (n := 13) (c := 3) (nx := 17) (by decide +kernel) ?_
      refine zwW_cm ChL6.1 (op := 60) (k' := 96) (n := 0) (kd := 0) (m := 3) (nx := 20) (r := 3) (tl := []) (st' := [(0, v3L6)]) (by decide +kernel) rfl (by decide +kernel) rfl (x96_3 ChL6) ?_
      rintro v7 _ ⟨rfl, ev7⟩
      have bv7 := zLb_3 ChL6
      refine zwic_ge (q := 129) (nx := 23) (by decide +kernel) (fun c8 => ?_) (fun c8 => ?_)
      · refine zwW_p [(1, 2, 0)] (q := 130) (ls' := [(2, 1), (0, v2), (0, v2L6), (0, v3L6), w4L6, w5L6]) (st' := [(0, v2L6)]) (by decide +kernel) rfl ?_
        refine zwW_ret (nx := 131) (a := 0) (b := 0) (by decide +kernel) rfl (Or.inl rfl) ?_
        exact ⟨ChL6, XhL6.le (by decide) (by decide), by omega⟩
      · refine zwW_p [(1, 0, 2)] (q := 24) (ls' := [(2, 1), (0, v2), (0, v2L6), (0, v3L6), w4L6, w5L6]) (st' := [(2, 1)]) (by decide +kernel) rfl ?_
        refine zwW_gc ChL6.1 (kd := 12) (bn := 3) (n := 13) (c := 3) (nx := 27) (by decide +kernel) ?_
        refine zwW_p [(1, 3, 0)] (q := 28) (ls' := [(2, 1), (0, v2), (0, v2L6), (0, v3L6), w4L6, w5L6]) (st' := [(0, v3L6), (2, 3)]) (by decide +kernel) rfl ?_
        refine zwW_cm ChL6.1 (op := 60) (k' := 123) (n := 1) (kd := 0) (m := 3) (nx := 31) (r := 3) (tl := [(0, v3L6)]) (st' := []) (by decide +kernel) rfl (by decide +kernel) rfl (x123_3 ChL6 (i := v3L6) (by first | omega | exact ⟨by omega, by omega⟩)) ?_
        rintro v9 _ ⟨rfl, Gv9, ev9⟩
        have lv9 := Gv9.1
        refine zwW_cast (a := 4) (kd := 4) (n := 19) (nx := 34) (by decide +kernel) rfl (Or.inr Gv9.2.1) ?_
        refine zwW_p [(2, 4, 2), (1, 4, 2), (12, 0, 0)] (q := 39) (ls' := [(2, 1), (0, v2), (0, v2L6), (0, v3L6), (2, v9), w5L6]) (st' := [(2, v9), (2, v9)]) (by decide +kernel) rfl ?_
        refine zwX_gi ChL6 (kd := 4) (bn := 18) (n := 19) (nx := 42) (by decide +kernel) Gv9.2.1 Gv9.1 rfl ?_
        intro v10 ev10 lv10 uv10
        refine zwW_p [(1, 4, 2), (1, 1, 0)] (q := 45) (ls' := [(2, 1), (0, v2), (0, v2L6), (0, v3L6), (2, v9), w5L6]) (st' := [(0, v2), (2, v9), (0, v10), (2, v9)]) (by decide +kernel) rfl ?_
        refine zwW_cv (op := 60) (k' := 230) (n := 1) (kd := 4) (m := 19) (nx := 48) (r := v9) (tl := [(0, v2)]) (st' := [(0, v10), (2, v9)]) (by decide +kernel) rfl (by decide +kernel) Gv9.2.1 (x230 hL6 ChL6 v9 v2 Gv9 (by omega)) rfl ?_
        rintro v11 _ ⟨rfl, f12⟩
        refine zwW_adw (nx := 49) (by decide +kernel) ?_
        intro v13 ev13 lv13 uv13
        have Ev13 : v13 = w32 ((fld hL6 v9 18) + v11) := by rw [ev13, ev10]
        refine zwX_pi ChL6 (kd := 4) (bn := 18) (n := 19) (nx := 52) (by decide +kernel) Gv9.2.1 Gv9.1 (by first | omega | exact ⟨by omega, by omega⟩) ?_
        rintro h14 eh14 Ch14 Qh14
        have Xh14 : zXR msx185 (0) (0) h h14 := XhL6.tr (c2 := 0) (s2 := 0) Qh14 (by decide +kernel) (by decide) (by decide)
        have Gh14_0 : gH h14 v9 := Gv9.x Qh14
        have th14_4_2 : fld h14 4 2 = fld hL6 4 2 := Qh14.f (a1 := 4) (a2 := 4) (j1 := 2) (j2 := 3) (by decide +kernel) (by first | decide | exact ⟨by decide, by decide⟩) (by first | decide | exact ⟨by decide, by decide⟩) (by first | decide | exact ⟨by decide, by decide⟩)
        refine zwW_p [(1, 0, 2), (1, 4, 2)] (q := 55) (ls' := [(2, 1), (0, v2), (0, v2L6), (0, v3L6), (2, v9), w5L6]) (st' := [(2, v9), (2, 1)]) (by decide +kernel) rfl ?_
        refine zwW_cm Ch14.1 (op := 60) (k' := 170) (n := 1) (kd := 12) (m := 13) (nx := 58) (r := 1) (tl := [(2, v9)]) (st' := []) (by decide +kernel) rfl (by decide +kernel) rfl (x170 h14 Ch14 v9 Gh14_0) ?_
        rintro v15 _ ⟨rfl, f16, f17⟩
        refine zwW_p [(2, 5, 0), (1, 5, 0)] (q := 62) (ls' := [(2, 1), (0, v2), (0, v2L6), (0, v3L6), (2, v9), (0, v15)]) (st' := [(0, v15)]) (by decide +kernel) rfl ?_
        refine zwif_le (q := 123) (nx := 65) (by decide +kernel) (fun c18 => ?_) (fun c18 => ?_)
        · refine zwW_inc (i := 3) (c := 1) (x := v3L6) (nx := 126) (by decide +kernel) rfl (by first | omega | exact ⟨by omega, by omega⟩) (ls' := [(2, 1), (0, v2), (0, v2L6), (0, (v3L6 + 1)), (2, v9), (0, v15)]) rfl ?_
          refine zwW_p [(24, 12, 0)] (q := 12) (ls' := [(2, 1), (0, v2), (0, v2L6), (0, (v3L6 + 1)), (2, v9), (0, v15)]) (st' := []) (by decide +kernel) rfl ?_
          exact IHL6 ((1000 - (v3L6 + 1))).toNat (by omega) v2L6 (v3L6 + 1) (2, v9) (0, v15) h14 rfl (by omega) (by omega) Ch14 (Xh14.le (by decide) (by decide))
        · refine zwW_p [(1, 4, 2)] (q := 67) (ls' := [(2, 1), (0, v2), (0, v2L6), (0, v3L6), (2, v9), (0, v15)]) (st' := [(2, v9)]) (by decide +kernel) rfl ?_
          refine zwW_get (kd := 4) (bn := 1) (t := 2) (n := 19) (nx := 70) (by decide +kernel) Gh14_0.2.1 rfl ?_
          obtain ⟨v19, ev19⟩ : ∃ z, z = fld h14 v9 1 := ⟨_, rfl⟩
          rw [← ev19]
          have Gv19 : gV h14 v19 := by rw [ev19]; exact Gh14_0.2.2
          have lv19 := Gv19.1
          refine zwW_p [(12, 0, 0)] (q := 71) (ls' := [(2, 1), (0, v2), (0, v2L6), (0, v3L6), (2, v9), (0, v15)]) (st' := [(2, v19), (2, v19)]) (by decide +kernel) rfl ?_
          refine zwX_gi Ch14 (kd := 11) (bn := 3) (n := 17) (nx := 74) (by decide +kernel) Gv19.2.1 Gv19.1 rfl ?_
          intro v20 ev20 lv20 uv20
          refine zwW_p [(1, 5, 0), (1, 4, 2)] (q := 78) (ls' := [(2, 1), (0, v2), (0, v2L6), (0, v3L6), (2, v9), (0, v15)]) (st' := [(2, v9), (0, v15), (0, v20), (2, v19)]) (by decide +kernel) rfl ?_
          refine zwX_gi Ch14 (kd := 4) (bn := 7) (n := 19) (nx := 81) (by decide +kernel) Gh14_0.2.1 Gh14_0.1 rfl ?_
          intro v21 ev21 lv21 uv21
          refine zwW_cs (k' := 151) (n := 2) (nx := 84) (as := [(0, v15), (0, v21)]) (st' := [(0, v20), (2, v19)]) (by decide +kernel) rfl (x151 h14 Ch14 v15 v21 (by omega) (by omega)) rfl ?_
          rintro v22 _ ⟨rfl, f23⟩
          refine zwW_sbw (nx := 85) (by decide +kernel) ?_
          intro v24 ev24 lv24 uv24
          have Ev24 : v24 = w32 ((fld h14 v19 3) - v22) := by rw [ev24, ev20]
          refine zwX_pi Ch14 (kd := 11) (bn := 3) (n := 17) (nx := 88) (by decide +kernel) Gv19.2.1 Gv19.1 (by first | omega | exact ⟨by omega, by omega⟩) ?_
          rintro h25 eh25 Ch25 Qh25
          have Xh25 : zXR msx185 (0) (0) h h25 := Xh14.tr (c2 := 0) (s2 := 0) Qh25 (by decide +kernel) (by decide) (by decide)
          have Gh25_0 : gH h25 v9 := Gh14_0.x Qh25
          have th25_4_2 : fld h25 4 2 = fld h14 4 2 := Qh25.f (a1 := 4) (a2 := 4) (j1 := 2) (j2 := 3) (by decide +kernel) (by first | decide | exact ⟨by decide, by decide⟩) (by first | decide | exact ⟨by decide, by decide⟩) (by first | decide | exact ⟨by decide, by decide⟩)
          refine zwW_p [(1, 0, 2)] (q := 89) (ls' := [(2, 1), (0, v2), (0, v2L6), (0, v3L6), (2, v9), (0, v15)]) (st' := [(2, 1)]) (by decide +kernel) rfl ?_
          refine zwW_gc Ch25.1 (kd := 12) (bn := 4) (n := 13) (c := 4) (nx := 92) (by decide +kernel) ?_
          refine zwW_new (kd := 6) (n := 7) (nx := 95) (by decide +kernel) rfl rfl ?_
          rintro h26 r27 eh26 er27
          have Oh26 : zOld h25 h26 := by rw [eh26]; exact zOld.app _
          have Yh26 : zDy h26 := by rw [eh26]; exact Ch25.2.1.app (fun x hx => by rw [List.eq_of_mem_replicate hx]; decide)
          have Ch26 : CI h26 := Ch25.old Oh26 Yh26
          have Xh26 := Oh26.X Ch25
          have th26_4_2 : fld h26 4 2 = fld h25 4 2 := Xh26.f (a1 := 4) (a2 := 4) (j1 := 2) (j2 := 3) (by decide +kernel) (by first | decide | exact ⟨by decide, by decide⟩) (by first | decide | exact ⟨by decide, by decide⟩) (by first | decide | exact ⟨by decide, by decide⟩)
          have Gh26_0 : gH h26 v9 := Gh25_0.x Xh26
          refine zwW_p [(12, 0, 0), (1, 0, 2)] (q := 97) (ls' := [(2, 1), (0, v2), (0, v2L6), (0, v3L6), (2, v9), (0, v15)]) (st' := [(2, 1), (2, r27), (2, r27), (2, 4)]) (by decide +kernel) rfl ?_
          refine zwW_gc Ch26.1 (kd := 12) (bn := 4) (n := 13) (c := 4) (nx := 100) (by decide +kernel) ?_
          refine zwW_cm Ch26.1 (op := 60) (k' := 96) (n := 0) (kd := 0) (m := 3) (nx := 103) (r := 4) (tl := []) (st' := [(2, r27), (2, r27), (2, 4)]) (by decide +kernel) rfl (by decide +kernel) rfl (x96_4 Ch26) ?_
          rintro v28 _ ⟨rfl, ev28⟩
          have bv28 := zLb_4 Ch26
          refine zwW_p [(1, 4, 2), (1, 0, 2)] (q := 106) (ls' := [(2, 1), (0, v2), (0, v2L6), (0, v3L6), (2, v9), (0, v15)]) (st' := [(2, 1), (2, v9), (0, v28), (2, r27), (2, r27), (2, 4)]) (by decide +kernel) rfl ?_
          refine zwW_gs Ch26.1 (kd := 12) (bn := 0) (n := 13) (t := 0) (lo := 0) (hi := 156) (nx := 109) (by decide +kernel) ?_
          intro v29 ev29 lv29 uv29
          refine zwW_p [(1, 5, 0)] (q := 111) (ls' := [(2, 1), (0, v2), (0, v2L6), (0, v3L6), (2, v9), (0, v15)]) (st' := [(0, v15), (0, v29), (2, v9), (0, v28), (2, r27), (2, r27), (2, 4)]) (by decide +kernel) rfl ?_
          subst er27 eh26
          refine zwW_cvv (op := 62) (k' := 231) (n := 4) (kd := 6) (m := 7) (nx := 114) (r := ((h25.length + 1 : Nat) : Int)) (tl := [(0, v28), (2, v9), (0, v29), (0, v15)]) (st' := [(2, ((h25.length + 1 : Nat) : Int)), (2, 4)]) (by decide +kernel) rfl (by decide +kernel) (sh_new _ _) (x231 h25 Ch25 v28 v9 v29 v15 (by omega) (by omega) (by omega) Gh25_0 (fun g O Cg => x169 g Cg v9 (Gh25_0.x (O.X Ch25)))) rfl ?_
          rintro h30 ⟨Ch30, Qh30, Nh30, Fh30_0⟩
          obtain ⟨nr27, err27⟩ : ∃ z, z = ((h25.length + 1 : Nat) : Int) := ⟨_, rfl⟩
          rw [← err27] at Nh30 ⊢
          try rw [← err27] at Fh30_0
          have Xh30 : zXR msx185 (1) (7) h h30 := Xh25.tr (c2 := 1) (s2 := 7) Qh30 (by decide +kernel) (by decide) (by decide)
          have Gh30_0 : gH h30 v9 := Gh25_0.x Qh30
          have th30_4_2 : fld h30 4 2 = fld h25 4 2 := Qh30.f (a1 := 4) (a2 := 4) (j1 := 2) (j2 := 3) (by decide +kernel) (by first | decide | exact ⟨by decide, by decide⟩) (by first | decide | exact ⟨by decide, by decide⟩) (by first | decide | exact ⟨by decide, by decide⟩)
          have lnr27 := Nh30.1
          refine zwW_cm Ch30.1 (op := 60) (k' := 100) (n := 1) (kd := 0) (m := 3) (nx := 117) (r := 4) (tl := [(2, nr27)]) (st' := []) (by decide +kernel) rfl (by decide +kernel) rfl (x100_4 Ch30 Nh30 (by omega) (by have := Xh30.hl C Ch30 (by decide) hl; omega)) ?_
          rintro x h32 ⟨rfl, Ah32⟩
          have Ch32 := Ah32.1
          have Qh32 : zXR [(4, 4, 0, 3)] (-1) (-7) h30 h32 := Ah32.2.1
          have zh32 : fld h32 4 2 = fld h30 4 2 + 1 := Ah32.2.2.1
          have Xh32 : zXR msx185 (0) (0) h h32 := Xh30.tr (c2 := 0) (s2 := 0) Qh32 (by decide +kernel) (by decide) (by decide)
          have Gh32_0 : gH h32 v9 := Gh30_0.x Qh32
          refine zwW_p [(15, 0, 0), (1, 2, 0), (1, 5, 0)] (q := 121) (ls' := [(2, 1), (0, v2), (0, v2L6), (0, v3L6), (2, v9), (0, v15)]) (st' := [(0, v15), (0, v2L6)]) (by decide +kernel) rfl ?_
          refine zwW_adw (nx := 122) (by decide +kernel) ?_
          intro v33 ev33 lv33 uv33
          refine zwW_p [(2, 2, 0)] (q := 123) (ls' := [(2, 1), (0, v2), (0, v33), (0, v3L6), (2, v9), (0, v15)]) (st' := []) (by decide +kernel) rfl ?_
          refine zwW_inc (i := 3) (c := 1) (x := v3L6) (nx := 126) (by decide +kernel) rfl (by first | omega | exact ⟨by omega, by omega⟩) (ls' := [(2, 1), (0, v2), (0, v33), (0, (v3L6 + 1)), (2, v9), (0, v15)]) rfl ?_
          refine zwW_p [(24, 12, 0)] (q := 12) (ls' := [(2, 1), (0, v2), (0, v33), (0, (v3L6 + 1)), (2, v9), (0, v15)]) (st' := []) (by decide +kernel) rfl ?_
          exact IHL6 ((1000 - (v3L6 + 1))).toNat (by omega) v33 (v3L6 + 1) (2, v9) (0, v15) h32 rfl (by omega) (by omega) Ch32 (Xh32.le (by decide) (by decide))
  exact L6 _ 0 0 (9, 0) (9, 0) h rfl (by omega) (by omega) C (X.le (by decide) (by decide))
def msx186 : Zms := [(1, 1, 1, 2), (17, 17, 0, 13), (18, 18, 0, 400), (1004, 1004, 6, 7), (1004, 1004, 8, 9), (1004, 1004, 9, 10), (1004, 1004, 10, 11), (1011, 1011, 5, 6), (1011, 1011, 6, 7), (1011, 1011, 7, 8), (1011, 1011, 10, 11), (1011, 1011, 13, 14), (1011, 1011, 14, 15)]
-- WheelLand.buyAll()V
theorem x186 {sc : List Int} (h : Hp) (C : CI h) : zwC sc 5 186 [(2, 1)] h (zwRv (fun g => CI g ∧ zXR msx186 (0) (0) h g)) := by
  refine zwC_of (D := 4) 3 (by decide +kernel) rfl (ls := [(2, 1), (9, 0), (9, 0)]) rfl ?_
  have X : zXR msx186 0 0 h h := zXR.rf _ _
  refine zwW_p [(0, 0, 0), (2, 1, 0)] (q := 2) (ls' := [(2, 1), (0, 0), (9, 0)]) (st' := []) (by decide +kernel) rfl ?_
  have L1 : ∀ (n : Nat) (v1L1 : Int) (w2L1 : Vl) (hL1 : Hp), n = ((1000 - v1L1)).toNat → (0 ≤ v1L1 ∧ v1L1 ≤ 1000) → CI hL1 → zXR msx186 (0) (0) h hL1 → zwW sc (4) 186 2 [(2, 1), (0, v1L1), w2L1] [] hL1 (zwRv (fun g => CI g ∧ zXR msx186 (0) (0) h g)) := by
    intro n
    induction n using Nat.strongRecOn with
    | ind n IHL1 =>
      intro v1L1 w2L1 hL1 hnL1 iL1_0 ChL1 XhL1
      refine zwW_p [(1, 1, 0), (1, 0, 2)] (q := 4) (ls' := [(2, 1), (0, v1L1), w2L1]) (st' := [(2, 1), (0, v1L1)]) (by decide +kernel) rfl ?_
      refine zwW_gc ChL1.1 (kd := 12) (bn := 3) (n := 13) (c := 3) (nx := 7) (by decide +kernel) ?_
      refine zwW_cm ChL1.1 (op := 60) (k' := 96) (n := 0) (kd := 0) (m := 3) (nx := 10) (r := 3) (tl := []) (st' := [(0, v1L1)]) (by decide +kernel) rfl (by decide +kernel) rfl (x96_3 ChL1) ?_
      rintro v2 _ ⟨rfl, ev2⟩
      have bv2 := zLb_3 ChL1
      refine zwic_ge (q := 58) (nx := 13) (by decide +kernel) (fun c3 => ?_) (fun c3 => ?_)
      · refine zwW_retv (nx := 59) (a := 0) (b := 0) (by decide +kernel) ?_
        exact ⟨ChL1, XhL1.le (by decide) (by decide)⟩
      · refine zwW_p [(1, 0, 2)] (q := 14) (ls' := [(2, 1), (0, v1L1), w2L1]) (st' := [(2, 1)]) (by decide +kernel) rfl ?_
        refine zwW_gc ChL1.1 (kd := 12) (bn := 3) (n := 13) (c := 3) (nx := 17) (by decide +kernel) ?_
        refine zwW_p [(1, 1, 0)] (q := 18) (ls' := [(2, 1), (0, v1L1), w2L1]) (st' := [(0, v1L1), (2, 3)]) (by decide +kernel) rfl ?_
        refine zwW_cm ChL1.1 (op := 60) (k' := 123) (n := 1) (kd := 0) (m := 3) (nx := 21) (r := 3) (tl := [(0, v1L1)]) (st' := []) (by decide +kernel) rfl (by decide +kernel) rfl (x123_3 ChL1 (i := v1L1) (by first | omega | exact ⟨by omega, by omega⟩)) ?_
        rintro v4 _ ⟨rfl, Gv4, ev4⟩
        have lv4 := Gv4.1
        refine zwW_cast (a := 4) (kd := 4) (n := 19) (nx := 24) (by decide +kernel) rfl (Or.inr Gv4.2.1) ?_
        refine zwW_p [(2, 2, 2), (1, 0, 2)] (q := 26) (ls' := [(2, 1), (0, v1L1), (2, v4)]) (st' := [(2, 1)]) (by decide +kernel) rfl ?_
        refine zwW_gs ChL1.1 (kd := 12) (bn := 0) (n := 13) (t := 0) (lo := 0) (hi := 156) (nx := 29) (by decide +kernel) ?_
        intro v5 ev5 lv5 uv5
        refine zwW_p [(1, 2, 2)] (q := 30) (ls' := [(2, 1), (0, v1L1), (2, v4)]) (st' := [(2, v4), (0, v5)]) (by decide +kernel) rfl ?_
        refine zwX_gi ChL1 (kd := 4) (bn := 5) (n := 19) (nx := 33) (by decide +kernel) Gv4.2.1 Gv4.1 rfl ?_
        intro v6 ev6 lv6 uv6
        refine zwW_adw (nx := 34) (by decide +kernel) ?_
        intro v7 ev7 lv7 uv7
        have Ev7 : v7 = w32 (v5 + (fld hL1 v4 5)) := by rw [ev7, ev6]
        refine zwW_p [(0, 4, 0)] (q := 35) (ls' := [(2, 1), (0, v1L1), (2, v4)]) (st' := [(0, 4), (0, v7)]) (by decide +kernel) rfl ?_
        refine zwW_tmw (nx := 36) (by decide +kernel) (by first | omega | exact ⟨by omega, by omega⟩) (by omega) ?_
        intro v8 ev8 lv8 uv8
        refine zwif_ne (q := 52) (nx := 39) (by decide +kernel) (fun c9 => ?_) (fun c9 => ?_)
        · refine zwW_inc (i := 1) (c := 1) (x := v1L1) (nx := 55) (by decide +kernel) rfl (by first | omega | exact ⟨by omega, by omega⟩) (ls' := [(2, 1), (0, (v1L1 + 1)), (2, v4)]) rfl ?_
          refine zwW_p [(24, 2, 0)] (q := 2) (ls' := [(2, 1), (0, (v1L1 + 1)), (2, v4)]) (st' := []) (by decide +kernel) rfl ?_
          exact IHL1 ((1000 - (v1L1 + 1))).toNat (by omega) (v1L1 + 1) (2, v4) hL1 rfl (by omega) ChL1 (XhL1.le (by decide) (by decide))
        · refine zwW_p [(1, 0, 2), (1, 2, 2), (1, 0, 2), (1, 2, 2)] (q := 43) (ls' := [(2, 1), (0, v1L1), (2, v4)]) (st' := [(2, v4), (2, 1), (2, v4), (2, 1)]) (by decide +kernel) rfl ?_
          refine zwW_get (kd := 4) (bn := 1) (t := 2) (n := 19) (nx := 46) (by decide +kernel) Gv4.2.1 rfl ?_
          obtain ⟨v10, ev10⟩ : ∃ z, z = fld hL1 v4 1 := ⟨_, rfl⟩
          rw [← ev10]
          have Gv10 : gV hL1 v10 := by rw [ev10]; exact Gv4.2.2
          have lv10 := Gv10.1
          refine zwW_cm ChL1.1 (op := 60) (k' := 153) (n := 1) (kd := 12) (m := 13) (nx := 49) (r := 1) (tl := [(2, v10)]) (st' := [(2, v4), (2, 1)]) (by decide +kernel) rfl (by decide +kernel) rfl (x153 hL1 ChL1 v10 Gv10) ?_
          rintro v12 h13 ⟨Ch13, Qh13, f11⟩
          have Xh13 : zXR msx186 (0) (0) h h13 := XhL1.tr (c2 := 0) (s2 := 0) Qh13 (by decide +kernel) (by decide) (by decide)
          have Gh13_0 : gH h13 v4 := Gv4.x Qh13
          refine zwW_cmv Ch13.1 (op := 60) (k' := 232) (n := 2) (kd := 12) (m := 13) (nx := 52) (r := 1) (tl := [(2, v4), (0, v12)]) (st' := []) (by decide +kernel) rfl (by decide +kernel) rfl (x232 h13 Ch13 v4 v12 Gh13_0 (by omega)) ?_
          rintro h14 ⟨Ch14, Qh14⟩
          have Xh14 : zXR msx186 (0) (0) h h14 := Xh13.tr (c2 := 0) (s2 := 0) Qh14 (by decide +kernel) (by decide) (by decide)
          have Gh14_0 : gH h14 v4 := Gh13_0.x Qh14
          refine zwW_inc (i := 1) (c := 1) (x := v1L1) (nx := 55) (by decide +kernel) rfl (by first | omega | exact ⟨by omega, by omega⟩) (ls' := [(2, 1), (0, (v1L1 + 1)), (2, v4)]) rfl ?_
          refine zwW_p [(24, 2, 0)] (q := 2) (ls' := [(2, 1), (0, (v1L1 + 1)), (2, v4)]) (st' := []) (by decide +kernel) rfl ?_
          exact IHL1 ((1000 - (v1L1 + 1))).toNat (by omega) (v1L1 + 1) (2, v4) h14 rfl (by omega) Ch14 (Xh14.le (by decide) (by decide))
  exact L1 _ 0 (9, 0) h rfl (by omega) C (X.le (by decide) (by decide))
def msx187 : Zms := [(36, 36, 0, 8), (1011, 1011, 4, 5)]
-- WheelLand.spreadWord()V
theorem x187 {sc : List Int} (h : Hp) (C : CI h) : zwC sc 5 187 [(2, 1)] h (zwRv (fun g => CI g ∧ zXR msx187 (0) (0) h g)) := by
  refine zwC_of (D := 4) 5 (by decide +kernel) rfl (ls := [(2, 1), (9, 0), (9, 0), (9, 0), (9, 0)]) rfl ?_
  have X : zXR msx187 0 0 h h := zXR.rf _ _
  refine zwW_p [(1, 0, 2)] (q := 1) (ls' := [(2, 1), (9, 0), (9, 0), (9, 0), (9, 0)]) (st' := [(2, 1)]) (by decide +kernel) rfl ?_
  refine zwW_gc C.1 (kd := 12) (bn := 2) (n := 13) (c := 2) (nx := 4) (by decide +kernel) ?_
  refine zwW_cm C.1 (op := 60) (k' := 96) (n := 0) (kd := 0) (m := 3) (nx := 7) (r := 2) (tl := []) (st' := []) (by decide +kernel) rfl (by decide +kernel) rfl (x96_2 C) ?_
  rintro v1 _ ⟨rfl, ev1⟩
  have bv1 := zLb_2 C
  refine zwW_p [(1, 0, 2)] (q := 8) (ls' := [(2, 1), (9, 0), (9, 0), (9, 0), (9, 0)]) (st' := [(2, 1), (0, v1)]) (by decide +kernel) rfl ?_
  refine zwW_gc C.1 (kd := 12) (bn := 12) (n := 13) (c := 36) (nx := 11) (by decide +kernel) ?_
  refine zwW_len (kd := 20) (n := 8) (nx := 12) (by decide +kernel) (C.1.s (a1 := 36) (a2 := 36) (by decide +kernel) (by omega) (by omega)) rfl ?_
  refine zwW_min (nx := 15) (by decide +kernel) rfl ?_
  intro v2 ev2
  refine zwW_p [(2, 1, 0), (0, 0, 0), (2, 2, 0)] (q := 18) (ls' := [(2, 1), (0, v2), (0, 0), (9, 0), (9, 0)]) (st' := []) (by decide +kernel) rfl ?_
  have L3 : ∀ (n : Nat) (v2L3 : Int) (hL3 : Hp), n = ((1000 - v2L3)).toNat → (fld hL3 2 2 = fld h 2 2) → (0 ≤ v2L3 ∧ v2L3 ≤ 1000) → CI hL3 → zXR msx187 (0) (0) h hL3 → zwW sc (4) 187 18 [(2, 1), (0, v2), (0, v2L3), (9, 0), (9, 0)] [] hL3 (zwRv (fun g => CI g ∧ zXR msx187 (0) (0) h g)) := by
    intro n
    induction n using Nat.strongRecOn with
    | ind n IHL3 =>
      intro v2L3 hL3 hnL3 iL3_0 iL3_1 ChL3 XhL3
      refine zwW_p [(1, 2, 0), (1, 1, 0)] (q := 20) (ls' := [(2, 1), (0, v2), (0, v2L3), (9, 0), (9, 0)]) (st' := [(0, v2), (0, v2L3)]) (by decide +kernel) rfl ?_
      refine zwic_ge (q := 49) (nx := 23) (by decide +kernel) (fun c4 => ?_) (fun c4 => ?_)
      · refine zwW_p [(0, 0, 0), (2, 2, 0)] (q := 51) (ls' := [(2, 1), (0, v2), (0, 0), (9, 0), (9, 0)]) (st' := []) (by decide +kernel) rfl ?_
        have L5 : ∀ (n : Nat) (v2L5 : Int) (w3L5 w4L5 : Vl) (hL5 : Hp), n = ((1000 - v2L5)).toNat → (fld hL5 2 2 = fld h 2 2) → (0 ≤ v2L5 ∧ v2L5 ≤ 1000) → CI hL5 → zXR msx187 (0) (0) h hL5 → zwW sc (4) 187 51 [(2, 1), (0, v2), (0, v2L5), w3L5, w4L5] [] hL5 (zwRv (fun g => CI g ∧ zXR msx187 (0) (0) h g)) := by
          intro n
          induction n using Nat.strongRecOn with
          | ind n IHL5 =>
            intro v2L5 w3L5 w4L5 hL5 hnL5 iL5_0 iL5_1 ChL5 XhL5
            refine zwW_p [(1, 2, 0), (1, 1, 0)] (q := 53) (ls' := [(2, 1), (0, v2), (0, v2L5), w3L5, w4L5]) (st' := [(0, v2), (0, v2L5)]) (by decide +kernel) rfl ?_
            refine zwic_ge (q := 132) (nx := 56) (by decide +kernel) (fun c6 => ?_) (fun c6 => ?_)
            · refine zwW_retv (nx := 133) (a := 0) (b := 0) (by decide +kernel) ?_
              exact ⟨ChL5, XhL5.le (by decide) (by decide)⟩
            · refine zwW_p [(1, 0, 2)] (q := 57) (ls' := [(2, 1), (0, v2), (0, v2L5), w3L5, w4L5]) (st' := [(2, 1)]) (by decide +kernel) rfl ?_
              refine zwW_gc ChL5.1 (kd := 12) (bn := 12) (n := 13) (c := 36) (nx := 60) (by decide +kernel) ?_
              refine zwW_p [(1, 2, 0)] (q := 61) (ls' := [(2, 1), (0, v2), (0, v2L5), w3L5, w4L5]) (st' := [(0, v2L5), (2, 36)]) (by decide +kernel) rfl ?_
              refine zwW_al ChL5.1 (a1 := 36) (a2 := 36) (kd := 20) (n := 8) (t := 0) (lo := -2147483648) (hi := 2147483647) (nx := 62) (by decide +kernel) (by first | decide | exact ⟨by decide, by decide⟩) (by first | omega | exact ⟨by omega, by omega⟩) ?_
              intro v7 ev7 lv7 uv7
              refine zwW_p [(0, 1, 0)] (q := 63) (ls' := [(2, 1), (0, v2), (0, v2L5), w3L5, w4L5]) (st' := [(0, 1), (0, v7)]) (by decide +kernel) rfl ?_
              refine zwW_sbw (nx := 64) (by decide +kernel) ?_
              intro v8 ev8 lv8 uv8
              refine zwW_p [(0, 0, 0)] (q := 65) (ls' := [(2, 1), (0, v2), (0, v2L5), w3L5, w4L5]) (st' := [(0, 0), (0, v8)]) (by decide +kernel) rfl ?_
              refine zwW_max (nx := 68) (by decide +kernel) rfl ?_
              intro v9 ev9
              refine zwW_p [(2, 3, 0), (0, 0, 0), (2, 4, 0)] (q := 72) (ls' := [(2, 1), (0, v2), (0, v2L5), (0, v9), (0, 0)]) (st' := []) (by decide +kernel) rfl ?_
              have L10 : ∀ (n : Nat) (v3L10 v4L10 : Int) (hL10 : Hp), n = ((1000 - v4L10)).toNat → (fld hL10 2 2 = fld h 2 2) → (-2147483648 ≤ v3L10 ∧ v3L10 ≤ 2147483647) → (0 ≤ v4L10 ∧ v4L10 ≤ 1000) → CI hL10 → zXR msx187 (0) (0) h hL10 → zwW sc (4) 187 72 [(2, 1), (0, v2), (0, v2L5), (0, v3L10), (0, v4L10)] [] hL10 (zwRv (fun g => CI g ∧ zXR msx187 (0) (0) h g)) := by
                intro n
                induction n using Nat.strongRecOn with
                | ind n IHL10 =>
                  intro v3L10 v4L10 hL10 hnL10 iL10_0 iL10_1 iL10_2 ChL10 XhL10
                  refine zwW_p [(1, 4, 0), (1, 1, 0)] (q := 75) (ls' := [(2, 1), (0, v2), (0, v2L5), (0, v3L10), (0, v4L10)]) (st' := [(0, v2), (0, v4L10)]) (by decide +kernel) rfl ?_
                  refine zwic_ge (q := 111) (nx := 78) (by decide +kernel) (fun c11 => ?_) (fun c11 => ?_)
                  · refine zwW_p [(1, 0, 2)] (q := 112) (ls' := [(2, 1), (0, v2), (0, v2L5), (0, v3L10), (0, v4L10)]) (st' := [(2, 1)]) (by decide +kernel) rfl ?_
                    refine zwW_gc ChL10.1 (kd := 12) (bn := 2) (n := 13) (c := 2) (nx := 115) (by decide +kernel) ?_
                    refine zwW_p [(1, 2, 0)] (q := 116) (ls' := [(2, 1), (0, v2), (0, v2L5), (0, v3L10), (0, v4L10)]) (st' := [(0, v2L5), (2, 2)]) (by decide +kernel) rfl ?_
                    refine zwW_cm ChL10.1 (op := 60) (k' := 123) (n := 1) (kd := 0) (m := 3) (nx := 119) (r := 2) (tl := [(0, v2L5)]) (st' := []) (by decide +kernel) rfl (by decide +kernel) rfl (x123_2 ChL10 (i := v2L5) (by first | omega | exact ⟨by omega, by omega⟩)) ?_
                    rintro v12 _ ⟨rfl, Gv12, ev12⟩
                    have lv12 := Gv12.1
                    refine zwW_cast (a := 11) (kd := 11) (n := 17) (nx := 122) (by decide +kernel) rfl (Or.inr Gv12.2.1) ?_
                    refine zwW_p [(1, 3, 0)] (q := 123) (ls' := [(2, 1), (0, v2), (0, v2L5), (0, v3L10), (0, v4L10)]) (st' := [(0, v3L10), (2, v12)]) (by decide +kernel) rfl ?_
                    refine zwX_pi ChL10 (kd := 11) (bn := 4) (n := 17) (nx := 126) (by decide +kernel) Gv12.2.1 Gv12.1 (by first | omega | exact ⟨by omega, by omega⟩) ?_
                    rintro h13 eh13 Ch13 Qh13
                    have Xh13 : zXR msx187 (0) (0) h h13 := XhL10.tr (c2 := 0) (s2 := 0) Qh13 (by decide +kernel) (by decide) (by decide)
                    have th13_2_2 : fld h13 2 2 = fld hL10 2 2 := Qh13.f (a1 := 2) (a2 := 2) (j1 := 2) (j2 := 3) (by decide +kernel) (by first | decide | exact ⟨by decide, by decide⟩) (by first | decide | exact ⟨by decide, by decide⟩) (by first | decide | exact ⟨by decide, by decide⟩)
                    refine zwW_inc (i := 2) (c := 1) (x := v2L5) (nx := 129) (by decide +kernel) rfl (by first | omega | exact ⟨by omega, by omega⟩) (ls' := [(2, 1), (0, v2), (0, (v2L5 + 1)), (0, v3L10), (0, v4L10)]) rfl ?_
                    refine zwW_p [(24, 51, 0)] (q := 51) (ls' := [(2, 1), (0, v2), (0, (v2L5 + 1)), (0, v3L10), (0, v4L10)]) (st' := []) (by decide +kernel) rfl ?_
                    exact IHL5 ((1000 - (v2L5 + 1))).toNat (by omega) (v2L5 + 1) (0, v3L10) (0, v4L10) h13 rfl (by omega) (by omega) Ch13 (Xh13.le (by decide) (by decide))
                  · refine zwW_p [(1, 0, 2)] (q := 79) (ls' := [(2, 1), (0, v2), (0, v2L5), (0, v3L10), (0, v4L10)]) (st' := [(2, 1)]) (by decide +kernel) rfl ?_
                    refine zwW_gc ChL10.1 (kd := 12) (bn := 6) (n := 13) (c := 6) (nx := 82) (by decide +kernel) ?_
                    refine zwW_p [(1, 2, 0), (1, 4, 0)] (q := 85) (ls' := [(2, 1), (0, v2), (0, v2L5), (0, v3L10), (0, v4L10)]) (st' := [(0, v4L10), (0, v2L5), (2, 6)]) (by decide +kernel) rfl ?_
                    refine zwW_cm ChL10.1 (op := 60) (k' := 233) (n := 2) (kd := 8) (m := 2) (nx := 88) (r := 6) (tl := [(0, v2L5), (0, v4L10)]) (st' := []) (by decide +kernel) rfl (by decide +kernel) rfl (x233 hL10 ChL10 v2L5 v4L10 (by omega) (by omega)) ?_
                    rintro x _ ⟨rfl, ⟨rfl, c14⟩ | ⟨rfl, c14⟩⟩
                    · refine zwif_eq (q := 105) (nx := 91) (by decide +kernel) (fun c15 => ?_) (fun c15 => ?_)
                      · exfalso; omega
                      · refine zwW_p [(1, 3, 0), (1, 0, 2)] (q := 93) (ls' := [(2, 1), (0, v2), (0, v2L5), (0, v3L10), (0, v4L10)]) (st' := [(2, 1), (0, v3L10)]) (by decide +kernel) rfl ?_
                        refine zwW_gc ChL10.1 (kd := 12) (bn := 12) (n := 13) (c := 36) (nx := 96) (by decide +kernel) ?_
                        refine zwW_p [(1, 4, 0)] (q := 98) (ls' := [(2, 1), (0, v2), (0, v2L5), (0, v3L10), (0, v4L10)]) (st' := [(0, v4L10), (2, 36), (0, v3L10)]) (by decide +kernel) rfl ?_
                        refine zwW_al ChL10.1 (a1 := 36) (a2 := 36) (kd := 20) (n := 8) (t := 0) (lo := -2147483648) (hi := 2147483647) (nx := 99) (by decide +kernel) (by first | decide | exact ⟨by decide, by decide⟩) (by first | omega | exact ⟨by omega, by omega⟩) ?_
                        intro v16 ev16 lv16 uv16
                        refine zwW_p [(0, 2, 0)] (q := 100) (ls' := [(2, 1), (0, v2), (0, v2L5), (0, v3L10), (0, v4L10)]) (st' := [(0, 2), (0, v16), (0, v3L10)]) (by decide +kernel) rfl ?_
                        refine zwW_sbw (nx := 101) (by decide +kernel) ?_
                        intro v17 ev17 lv17 uv17
                        refine zwW_max (nx := 104) (by decide +kernel) rfl ?_
                        intro v18 ev18
                        refine zwW_p [(2, 3, 0)] (q := 105) (ls' := [(2, 1), (0, v2), (0, v2L5), (0, v18), (0, v4L10)]) (st' := []) (by decide +kernel) rfl ?_
                        refine zwW_inc (i := 4) (c := 1) (x := v4L10) (nx := 108) (by decide +kernel) rfl (by first | omega | exact ⟨by omega, by omega⟩) (ls' := [(2, 1), (0, v2), (0, v2L5), (0, v18), (0, (v4L10 + 1))]) rfl ?_
                        refine zwW_p [(24, 72, 0)] (q := 72) (ls' := [(2, 1), (0, v2), (0, v2L5), (0, v18), (0, (v4L10 + 1))]) (st' := []) (by decide +kernel) rfl ?_
                        exact IHL10 ((1000 - (v4L10 + 1))).toNat (by omega) v18 (v4L10 + 1) hL10 rfl (by omega) (by omega) (by omega) ChL10 (XhL10.le (by decide) (by decide))
                    · refine zwif_eq (q := 105) (nx := 91) (by decide +kernel) (fun c19 => ?_) (fun c19 => ?_)
                      · refine zwW_inc (i := 4) (c := 1) (x := v4L10) (nx := 108) (by decide +kernel) rfl (by first | omega | exact ⟨by omega, by omega⟩) (ls' := [(2, 1), (0, v2), (0, v2L5), (0, v3L10), (0, (v4L10 + 1))]) rfl ?_
                        refine zwW_p [(24, 72, 0)] (q := 72) (ls' := [(2, 1), (0, v2), (0, v2L5), (0, v3L10), (0, (v4L10 + 1))]) (st' := []) (by decide +kernel) rfl ?_
                        exact IHL10 ((1000 - (v4L10 + 1))).toNat (by omega) v3L10 (v4L10 + 1) hL10 rfl (by omega) (by omega) (by omega) ChL10 (XhL10.le (by decide) (by decide))
                      · exfalso; omega
              exact L10 _ v9 0 hL5 rfl (by omega) (by omega) (by omega) ChL5 (XhL5.le (by decide) (by decide))
        exact L5 _ 0 (9, 0) (9, 0) hL3 rfl (by omega) (by omega) ChL3 (XhL3.le (by decide) (by decide))
      · refine zwW_p [(1, 0, 2)] (q := 24) (ls' := [(2, 1), (0, v2), (0, v2L3), (9, 0), (9, 0)]) (st' := [(2, 1)]) (by decide +kernel) rfl ?_
        refine zwW_gc ChL3.1 (kd := 12) (bn := 12) (n := 13) (c := 36) (nx := 27) (by decide +kernel) ?_
        refine zwW_p [(1, 2, 0), (1, 0, 2)] (q := 29) (ls' := [(2, 1), (0, v2), (0, v2L3), (9, 0), (9, 0)]) (st' := [(2, 1), (0, v2L3), (2, 36)]) (by decide +kernel) rfl ?_
        refine zwW_gc ChL3.1 (kd := 12) (bn := 2) (n := 13) (c := 2) (nx := 32) (by decide +kernel) ?_
        refine zwW_p [(1, 2, 0)] (q := 33) (ls' := [(2, 1), (0, v2), (0, v2L3), (9, 0), (9, 0)]) (st' := [(0, v2L3), (2, 2), (0, v2L3), (2, 36)]) (by decide +kernel) rfl ?_
        refine zwW_cm ChL3.1 (op := 60) (k' := 123) (n := 1) (kd := 0) (m := 3) (nx := 36) (r := 2) (tl := [(0, v2L3)]) (st' := [(0, v2L3), (2, 36)]) (by decide +kernel) rfl (by decide +kernel) rfl (x123_2 ChL3 (i := v2L3) (by first | omega | exact ⟨by omega, by omega⟩)) ?_
        rintro v20 _ ⟨rfl, Gv20, ev20⟩
        have lv20 := Gv20.1
        refine zwW_cast (a := 11) (kd := 11) (n := 17) (nx := 39) (by decide +kernel) rfl (Or.inr Gv20.2.1) ?_
        refine zwX_gi ChL3 (kd := 11) (bn := 4) (n := 17) (nx := 42) (by decide +kernel) Gv20.2.1 Gv20.1 rfl ?_
        intro v21 ev21 lv21 uv21
        refine zwW_as ChL3.1 (a1 := 36) (a2 := 36) (n := 8) (lo := -2147483648) (hi := 2147483647) (nx := 43) (by decide +kernel) (by first | decide | exact ⟨by decide, by decide⟩) (by first | omega | exact ⟨by omega, by omega⟩) (by first | omega | exact ⟨by omega, by omega⟩) ?_
        intro h22 eh22 Ih22
        have Ch22 : CI h22 := ChL3.wc eh22 Ih22 (by decide) (by decide)
        have Qh22 : zXR [(36, 36, 0, 8)] 0 0 hL3 h22 := zXR.wc eh22 rfl ⟨by decide, by decide, Or.inl (by decide)⟩ (by first | omega | exact ⟨by omega, by omega⟩)
        have Xh22 : zXR msx187 (0) (0) h h22 := XhL3.tr (c2 := 0) (s2 := 0) Qh22 (by decide +kernel) (by decide) (by decide)
        have th22_2_2 : fld h22 2 2 = fld hL3 2 2 := Qh22.f (a1 := 2) (a2 := 2) (j1 := 2) (j2 := 3) (by decide +kernel) (by first | decide | exact ⟨by decide, by decide⟩) (by first | decide | exact ⟨by decide, by decide⟩) (by first | decide | exact ⟨by decide, by decide⟩)
        refine zwW_inc (i := 2) (c := 1) (x := v2L3) (nx := 46) (by decide +kernel) rfl (by first | omega | exact ⟨by omega, by omega⟩) (ls' := [(2, 1), (0, v2), (0, (v2L3 + 1)), (9, 0), (9, 0)]) rfl ?_
        refine zwW_p [(24, 18, 0)] (q := 18) (ls' := [(2, 1), (0, v2), (0, (v2L3 + 1)), (9, 0), (9, 0)]) (st' := []) (by decide +kernel) rfl ?_
        exact IHL3 ((1000 - (v2L3 + 1))).toNat (by omega) (v2L3 + 1) h22 rfl (by omega) (by omega) Ch22 (Xh22.le (by decide) (by decide))
  exact L3 _ 0 h rfl (by omega) (by omega) C (X.le (by decide) (by decide))
def msx188 : Zms := [(17, 17, 0, 13), (18, 18, 0, 400), (1004, 1004, 15, 16)]
-- WheelLand.raiseDues()V
theorem x188 {sc : List Int} (h : Hp) (C : CI h) : zwC sc 5 188 [(2, 1)] h (zwRv (fun g => CI g ∧ zXR msx188 (0) (0) h g)) := by
  refine zwC_of (D := 4) 3 (by decide +kernel) rfl (ls := [(2, 1), (9, 0), (9, 0)]) rfl ?_
  have X : zXR msx188 0 0 h h := zXR.rf _ _
  refine zwW_p [(0, 0, 0), (2, 1, 0)] (q := 2) (ls' := [(2, 1), (0, 0), (9, 0)]) (st' := []) (by decide +kernel) rfl ?_
  have L1 : ∀ (n : Nat) (v1L1 : Int) (w2L1 : Vl) (hL1 : Hp), n = ((1000 - v1L1)).toNat → (0 ≤ v1L1 ∧ v1L1 ≤ 1000) → CI hL1 → zXR msx188 (0) (0) h hL1 → zwW sc (4) 188 2 [(2, 1), (0, v1L1), w2L1] [] hL1 (zwRv (fun g => CI g ∧ zXR msx188 (0) (0) h g)) := by
    intro n
    induction n using Nat.strongRecOn with
    | ind n IHL1 =>
      intro v1L1 w2L1 hL1 hnL1 iL1_0 ChL1 XhL1
      refine zwW_p [(1, 1, 0), (1, 0, 2)] (q := 4) (ls' := [(2, 1), (0, v1L1), w2L1]) (st' := [(2, 1), (0, v1L1)]) (by decide +kernel) rfl ?_
      refine zwW_gc ChL1.1 (kd := 12) (bn := 3) (n := 13) (c := 3) (nx := 7) (by decide +kernel) ?_
      refine zwW_cm ChL1.1 (op := 60) (k' := 96) (n := 0) (kd := 0) (m := 3) (nx := 10) (r := 3) (tl := []) (st' := [(0, v1L1)]) (by decide +kernel) rfl (by decide +kernel) rfl (x96_3 ChL1) ?_
      rintro v2 _ ⟨rfl, ev2⟩
      have bv2 := zLb_3 ChL1
      refine zwic_ge (q := 89) (nx := 13) (by decide +kernel) (fun c3 => ?_) (fun c3 => ?_)
      · refine zwW_retv (nx := 90) (a := 0) (b := 0) (by decide +kernel) ?_
        exact ⟨ChL1, XhL1.le (by decide) (by decide)⟩
      · refine zwW_p [(1, 0, 2)] (q := 14) (ls' := [(2, 1), (0, v1L1), w2L1]) (st' := [(2, 1)]) (by decide +kernel) rfl ?_
        refine zwW_gc ChL1.1 (kd := 12) (bn := 3) (n := 13) (c := 3) (nx := 17) (by decide +kernel) ?_
        refine zwW_p [(1, 1, 0)] (q := 18) (ls' := [(2, 1), (0, v1L1), w2L1]) (st' := [(0, v1L1), (2, 3)]) (by decide +kernel) rfl ?_
        refine zwW_cm ChL1.1 (op := 60) (k' := 123) (n := 1) (kd := 0) (m := 3) (nx := 21) (r := 3) (tl := [(0, v1L1)]) (st' := []) (by decide +kernel) rfl (by decide +kernel) rfl (x123_3 ChL1 (i := v1L1) (by first | omega | exact ⟨by omega, by omega⟩)) ?_
        rintro v4 _ ⟨rfl, Gv4, ev4⟩
        have lv4 := Gv4.1
        refine zwW_cast (a := 4) (kd := 4) (n := 19) (nx := 24) (by decide +kernel) rfl (Or.inr Gv4.2.1) ?_
        refine zwW_p [(2, 2, 2), (1, 2, 2)] (q := 26) (ls' := [(2, 1), (0, v1L1), (2, v4)]) (st' := [(2, v4)]) (by decide +kernel) rfl ?_
        refine zwX_gi ChL1 (kd := 4) (bn := 2) (n := 19) (nx := 29) (by decide +kernel) Gv4.2.1 Gv4.1 rfl ?_
        intro v5 ev5 lv5 uv5
        refine zwif_le (q := 83) (nx := 32) (by decide +kernel) (fun c6 => ?_) (fun c6 => ?_)
        · refine zwW_inc (i := 1) (c := 1) (x := v1L1) (nx := 86) (by decide +kernel) rfl (by first | omega | exact ⟨by omega, by omega⟩) (ls' := [(2, 1), (0, (v1L1 + 1)), (2, v4)]) rfl ?_
          refine zwW_p [(24, 2, 0)] (q := 2) (ls' := [(2, 1), (0, (v1L1 + 1)), (2, v4)]) (st' := []) (by decide +kernel) rfl ?_
          exact IHL1 ((1000 - (v1L1 + 1))).toNat (by omega) (v1L1 + 1) (2, v4) hL1 rfl (by omega) ChL1 (XhL1.le (by decide) (by decide))
        · refine zwW_p [(1, 0, 2)] (q := 33) (ls' := [(2, 1), (0, v1L1), (2, v4)]) (st' := [(2, 1)]) (by decide +kernel) rfl ?_
          refine zwW_gc ChL1.1 (kd := 12) (bn := 8) (n := 13) (c := 13) (nx := 36) (by decide +kernel) ?_
          refine zwW_p [(1, 0, 2)] (q := 37) (ls' := [(2, 1), (0, v1L1), (2, v4)]) (st' := [(2, 1), (2, 13)]) (by decide +kernel) rfl ?_
          refine zwW_gs ChL1.1 (kd := 12) (bn := 0) (n := 13) (t := 0) (lo := 0) (hi := 156) (nx := 40) (by decide +kernel) ?_
          intro v7 ev7 lv7 uv7
          refine zwW_cmv ChL1.1 (op := 60) (k' := 166) (n := 1) (kd := 9) (m := 6) (nx := 43) (r := 13) (tl := [(0, v7)]) (st' := []) (by decide +kernel) rfl (by decide +kernel) rfl (x166 hL1 ChL1 v7 (by omega) (by omega)) ?_
          rintro h8 ⟨Ch8, Qh8⟩
          have Xh8 : zXR msx188 (0) (0) h h8 := XhL1.tr (c2 := 0) (s2 := 0) Qh8 (by decide +kernel) (by decide) (by decide)
          have Gh8_0 : gH h8 v4 := Gv4.x Qh8
          refine zwW_p [(1, 0, 2)] (q := 44) (ls' := [(2, 1), (0, v1L1), (2, v4)]) (st' := [(2, 1)]) (by decide +kernel) rfl ?_
          refine zwW_gc Ch8.1 (kd := 12) (bn := 8) (n := 13) (c := 13) (nx := 47) (by decide +kernel) ?_
          refine zwW_p [(1, 2, 2), (1, 0, 2)] (q := 49) (ls' := [(2, 1), (0, v1L1), (2, v4)]) (st' := [(2, 1), (2, v4), (2, 13)]) (by decide +kernel) rfl ?_
          refine zwW_gs Ch8.1 (kd := 12) (bn := 0) (n := 13) (t := 0) (lo := 0) (hi := 156) (nx := 52) (by decide +kernel) ?_
          intro v9 ev9 lv9 uv9
          refine zwW_cs (k' := 162) (n := 1) (nx := 55) (as := [(0, v9)]) (st' := [(2, v4), (2, 13)]) (by decide +kernel) rfl (x162 h8 Ch8 v9 (by omega) (by omega)) rfl ?_
          rintro v10 _ ⟨rfl, f11, f12, f13⟩
          refine zwW_cmv Ch8.1 (op := 60) (k' := 167) (n := 2) (kd := 9) (m := 6) (nx := 58) (r := 13) (tl := [(2, v4), (0, v10)]) (st' := []) (by decide +kernel) rfl (by decide +kernel) rfl (x167 h8 Ch8 v4 v10 Gh8_0 (by omega)) ?_
          rintro h14 ⟨Ch14, Qh14⟩
          have Xh14 : zXR msx188 (0) (0) h h14 := Xh8.tr (c2 := 0) (s2 := 0) Qh14 (by decide +kernel) (by decide) (by decide)
          have Gh14_0 : gH h14 v4 := Gh8_0.x Qh14
          refine zwW_p [(1, 2, 2), (12, 0, 0)] (q := 60) (ls' := [(2, 1), (0, v1L1), (2, v4)]) (st' := [(2, v4), (2, v4)]) (by decide +kernel) rfl ?_
          refine zwX_gi Ch14 (kd := 4) (bn := 15) (n := 19) (nx := 63) (by decide +kernel) Gh14_0.2.1 Gh14_0.1 rfl ?_
          intro v15 ev15 lv15 uv15
          refine zwW_p [(1, 0, 2)] (q := 64) (ls' := [(2, 1), (0, v1L1), (2, v4)]) (st' := [(2, 1), (0, v15), (2, v4)]) (by decide +kernel) rfl ?_
          refine zwW_gc Ch14.1 (kd := 12) (bn := 8) (n := 13) (c := 13) (nx := 67) (by decide +kernel) ?_
          refine zwW_p [(0, 0, 0), (1, 0, 2)] (q := 69) (ls' := [(2, 1), (0, v1L1), (2, v4)]) (st' := [(2, 1), (0, 0), (2, 13), (0, v15), (2, v4)]) (by decide +kernel) rfl ?_
          refine zwW_gs Ch14.1 (kd := 12) (bn := 0) (n := 13) (t := 0) (lo := 0) (hi := 156) (nx := 72) (by decide +kernel) ?_
          intro v16 ev16 lv16 uv16
          refine zwW_cm Ch14.1 (op := 60) (k' := 172) (n := 2) (kd := 9) (m := 6) (nx := 75) (r := 13) (tl := [(0, 0), (0, v16)]) (st' := [(0, v15), (2, v4)]) (by decide +kernel) rfl (by decide +kernel) rfl (x172 h14 Ch14 0 v16 (by omega) (by omega)) ?_
          rintro v18 h19 ⟨Ch19, Qh19, f17⟩
          have Xh19 : zXR msx188 (0) (0) h h19 := Xh14.tr (c2 := 0) (s2 := 0) Qh19 (by decide +kernel) (by decide) (by decide)
          have Gh19_0 : gH h19 v4 := Gh14_0.x Qh19
          refine zwW_p [(0, 0, 0)] (q := 76) (ls' := [(2, 1), (0, v1L1), (2, v4)]) (st' := [(0, 0), (0, v18), (0, v15), (2, v4)]) (by decide +kernel) rfl ?_
          refine zwW_max (nx := 79) (by decide +kernel) rfl ?_
          intro v20 ev20
          refine zwW_adw (nx := 80) (by decide +kernel) ?_
          intro v21 ev21 lv21 uv21
          have Ev21 : v21 = w32 ((fld h14 v4 15) + v20) := by rw [ev21, ev15]
          refine zwX_pi Ch19 (kd := 4) (bn := 15) (n := 19) (nx := 83) (by decide +kernel) Gh19_0.2.1 Gh19_0.1 (by first | omega | exact ⟨by omega, by omega⟩) ?_
          rintro h22 eh22 Ch22 Qh22
          have Xh22 : zXR msx188 (0) (0) h h22 := Xh19.tr (c2 := 0) (s2 := 0) Qh22 (by decide +kernel) (by decide) (by decide)
          have Gh22_0 : gH h22 v4 := Gh19_0.x Qh22
          refine zwW_inc (i := 1) (c := 1) (x := v1L1) (nx := 86) (by decide +kernel) rfl (by first | omega | exact ⟨by omega, by omega⟩) (ls' := [(2, 1), (0, (v1L1 + 1)), (2, v4)]) rfl ?_
          refine zwW_p [(24, 2, 0)] (q := 2) (ls' := [(2, 1), (0, (v1L1 + 1)), (2, v4)]) (st' := []) (by decide +kernel) rfl ?_
          exact IHL1 ((1000 - (v1L1 + 1))).toNat (by omega) (v1L1 + 1) (2, v4) h22 rfl (by omega) Ch22 (Xh22.le (by decide) (by decide))
  exact L1 _ 0 (9, 0) h rfl (by omega) C (X.le (by decide) (by decide))
def msx189 : Zms := [(1011, 1011, 9, 10), (1011, 1011, 14, 15), (1011, 1011, 15, 16)]
-- WheelLand.moveMillPrices()V
theorem x189 {sc : List Int} (h : Hp) (C : CI h) : zwC sc 5 189 [(2, 1)] h (zwRv (fun g => CI g ∧ zXR msx189 (0) (0) h g)) := by
  refine zwC_of (D := 4) 2 (by decide +kernel) rfl (ls := [(2, 1), (9, 0)]) rfl ?_
  have X : zXR msx189 0 0 h h := zXR.rf _ _
  refine zwW_p [(0, 0, 0), (2, 1, 0)] (q := 2) (ls' := [(2, 1), (0, 0)]) (st' := []) (by decide +kernel) rfl ?_
  have L1 : ∀ (n : Nat) (v1L1 : Int) (hL1 : Hp), n = ((1000 - v1L1)).toNat → (0 ≤ v1L1 ∧ v1L1 ≤ 1000) → CI hL1 → zXR msx189 (0) (0) h hL1 → zwW sc (4) 189 2 [(2, 1), (0, v1L1)] [] hL1 (zwRv (fun g => CI g ∧ zXR msx189 (0) (0) h g)) := by
    intro n
    induction n using Nat.strongRecOn with
    | ind n IHL1 =>
      intro v1L1 hL1 hnL1 iL1_0 ChL1 XhL1
      refine zwW_p [(1, 1, 0), (1, 0, 2)] (q := 4) (ls' := [(2, 1), (0, v1L1)]) (st' := [(2, 1), (0, v1L1)]) (by decide +kernel) rfl ?_
      refine zwW_gc ChL1.1 (kd := 12) (bn := 2) (n := 13) (c := 2) (nx := 7) (by decide +kernel) ?_
      refine zwW_cm ChL1.1 (op := 60) (k' := 96) (n := 0) (kd := 0) (m := 3) (nx := 10) (r := 2) (tl := []) (st' := [(0, v1L1)]) (by decide +kernel) rfl (by decide +kernel) rfl (x96_2 ChL1) ?_
      rintro v2 _ ⟨rfl, ev2⟩
      have bv2 := zLb_2 ChL1
      refine zwic_ge (q := 33) (nx := 13) (by decide +kernel) (fun c3 => ?_) (fun c3 => ?_)
      · refine zwW_retv (nx := 34) (a := 0) (b := 0) (by decide +kernel) ?_
        exact ⟨ChL1, XhL1.le (by decide) (by decide)⟩
      · refine zwW_p [(1, 0, 2)] (q := 14) (ls' := [(2, 1), (0, v1L1)]) (st' := [(2, 1)]) (by decide +kernel) rfl ?_
        refine zwW_gc ChL1.1 (kd := 12) (bn := 2) (n := 13) (c := 2) (nx := 17) (by decide +kernel) ?_
        refine zwW_p [(1, 1, 0)] (q := 18) (ls' := [(2, 1), (0, v1L1)]) (st' := [(0, v1L1), (2, 2)]) (by decide +kernel) rfl ?_
        refine zwW_cm ChL1.1 (op := 60) (k' := 123) (n := 1) (kd := 0) (m := 3) (nx := 21) (r := 2) (tl := [(0, v1L1)]) (st' := []) (by decide +kernel) rfl (by decide +kernel) rfl (x123_2 ChL1 (i := v1L1) (by first | omega | exact ⟨by omega, by omega⟩)) ?_
        rintro v4 _ ⟨rfl, Gv4, ev4⟩
        have lv4 := Gv4.1
        refine zwW_cast (a := 11) (kd := 11) (n := 17) (nx := 24) (by decide +kernel) rfl (Or.inr Gv4.2.1) ?_
        refine zwW_cvv (op := 60) (k' := 234) (n := 0) (kd := 11) (m := 17) (nx := 27) (r := v4) (tl := []) (st' := []) (by decide +kernel) rfl (by decide +kernel) Gv4.2.1 (x234 hL1 ChL1 v4 Gv4) rfl ?_
        rintro h5 ⟨Ch5, Qh5⟩
        have Xh5 : zXR msx189 (0) (0) h h5 := XhL1.tr (c2 := 0) (s2 := 0) Qh5 (by decide +kernel) (by decide) (by decide)
        refine zwW_inc (i := 1) (c := 1) (x := v1L1) (nx := 30) (by decide +kernel) rfl (by first | omega | exact ⟨by omega, by omega⟩) (ls' := [(2, 1), (0, (v1L1 + 1))]) rfl ?_
        refine zwW_p [(24, 2, 0)] (q := 2) (ls' := [(2, 1), (0, (v1L1 + 1))]) (st' := []) (by decide +kernel) rfl ?_
        exact IHL1 ((1000 - (v1L1 + 1))).toNat (by omega) (v1L1 + 1) h5 rfl (by omega) Ch5 (Xh5.le (by decide) (by decide))
  exact L1 _ 0 h rfl (by omega) C (X.le (by decide) (by decide))
-- WheelLand.cottonOfAll()I
theorem x190 {sc : List Int} (h : Hp) (C : CI h) : zwC sc 5 190 [(2, 1)] h (zwRt 0 (fun x g => h = g ∧ (-2147483648 ≤ x ∧ x ≤ 2147483647))) := by
  refine zwC_of (D := 4) 3 (by decide +kernel) rfl (ls := [(2, 1), (9, 0), (9, 0)]) rfl ?_
  refine zwW_p [(0, 0, 0), (2, 1, 0), (0, 0, 0), (2, 2, 0)] (q := 4) (ls' := [(2, 1), (0, 0), (0, 0)]) (st' := []) (by decide +kernel) rfl ?_
  have L1 : ∀ (n : Nat) (v1L1 v2L1 : Int), n = ((1000 - v2L1)).toNat → (-2147483648 ≤ v1L1 ∧ v1L1 ≤ 2147483647) → (0 ≤ v2L1 ∧ v2L1 ≤ 1000) → zwW sc (4) 190 4 [(2, 1), (0, v1L1), (0, v2L1)] [] h (zwRt 0 (fun x g => h = g ∧ (-2147483648 ≤ x ∧ x ≤ 2147483647))) := by
    intro n
    induction n using Nat.strongRecOn with
    | ind n IHL1 =>
      intro v1L1 v2L1 hnL1 iL1_0 iL1_1
      refine zwW_p [(1, 2, 0), (1, 0, 2)] (q := 6) (ls' := [(2, 1), (0, v1L1), (0, v2L1)]) (st' := [(2, 1), (0, v2L1)]) (by decide +kernel) rfl ?_
      refine zwW_gc C.1 (kd := 12) (bn := 2) (n := 13) (c := 2) (nx := 9) (by decide +kernel) ?_
      refine zwW_cm C.1 (op := 60) (k' := 96) (n := 0) (kd := 0) (m := 3) (nx := 12) (r := 2) (tl := []) (st' := [(0, v2L1)]) (by decide +kernel) rfl (by decide +kernel) rfl (x96_2 C) ?_
      rintro v2 _ ⟨rfl, ev2⟩
      have bv2 := zLb_2 C
      refine zwic_ge (q := 38) (nx := 15) (by decide +kernel) (fun c3 => ?_) (fun c3 => ?_)
      · refine zwW_p [(1, 1, 0)] (q := 39) (ls' := [(2, 1), (0, v1L1), (0, v2L1)]) (st' := [(0, v1L1)]) (by decide +kernel) rfl ?_
        refine zwW_ret (nx := 40) (a := 0) (b := 0) (by decide +kernel) rfl (Or.inl rfl) ?_
        exact ⟨rfl, by omega⟩
      · refine zwW_p [(1, 1, 0), (1, 0, 2)] (q := 17) (ls' := [(2, 1), (0, v1L1), (0, v2L1)]) (st' := [(2, 1), (0, v1L1)]) (by decide +kernel) rfl ?_
        refine zwW_gc C.1 (kd := 12) (bn := 2) (n := 13) (c := 2) (nx := 20) (by decide +kernel) ?_
        refine zwW_p [(1, 2, 0)] (q := 21) (ls' := [(2, 1), (0, v1L1), (0, v2L1)]) (st' := [(0, v2L1), (2, 2), (0, v1L1)]) (by decide +kernel) rfl ?_
        refine zwW_cm C.1 (op := 60) (k' := 123) (n := 1) (kd := 0) (m := 3) (nx := 24) (r := 2) (tl := [(0, v2L1)]) (st' := [(0, v1L1)]) (by decide +kernel) rfl (by decide +kernel) rfl (x123_2 C (i := v2L1) (by first | omega | exact ⟨by omega, by omega⟩)) ?_
        rintro v4 _ ⟨rfl, Gv4, ev4⟩
        have lv4 := Gv4.1
        refine zwW_cast (a := 11) (kd := 11) (n := 17) (nx := 27) (by decide +kernel) rfl (Or.inr Gv4.2.1) ?_
        refine zwX_gi C (kd := 11) (bn := 3) (n := 17) (nx := 30) (by decide +kernel) Gv4.2.1 Gv4.1 rfl ?_
        intro v5 ev5 lv5 uv5
        refine zwW_adw (nx := 31) (by decide +kernel) ?_
        intro v6 ev6 lv6 uv6
        have Ev6 : v6 = w32 (v1L1 + (fld h v4 3)) := by rw [ev6, ev5]
        refine zwW_p [(2, 1, 0)] (q := 32) (ls' := [(2, 1), (0, v6), (0, v2L1)]) (st' := []) (by decide +kernel) rfl ?_
        refine zwW_inc (i := 2) (c := 1) (x := v2L1) (nx := 35) (by decide +kernel) rfl (by first | omega | exact ⟨by omega, by omega⟩) (ls' := [(2, 1), (0, v6), (0, (v2L1 + 1))]) rfl ?_
        refine zwW_p [(24, 4, 0)] (q := 4) (ls' := [(2, 1), (0, v6), (0, (v2L1 + 1))]) (st' := []) (by decide +kernel) rfl ?_
        exact IHL1 ((1000 - (v2L1 + 1))).toNat (by omega) v6 (v2L1 + 1) rfl (by omega) (by omega)
  exact L1 _ 0 0 rfl (by omega) (by omega)
-- WheelLand.leftOfAll()I
theorem x191 {sc : List Int} (h : Hp) (C : CI h) : zwC sc 5 191 [(2, 1)] h (zwRt 0 (fun x g => h = g ∧ (-2147483648 ≤ x ∧ x ≤ 2147483647))) := by
  refine zwC_of (D := 4) 3 (by decide +kernel) rfl (ls := [(2, 1), (9, 0), (9, 0)]) rfl ?_
  refine zwW_p [(0, 0, 0), (2, 1, 0), (0, 0, 0), (2, 2, 0)] (q := 4) (ls' := [(2, 1), (0, 0), (0, 0)]) (st' := []) (by decide +kernel) rfl ?_
  have L1 : ∀ (n : Nat) (v1L1 v2L1 : Int), n = ((1000 - v2L1)).toNat → (-2147483648 ≤ v1L1 ∧ v1L1 ≤ 2147483647) → (0 ≤ v2L1 ∧ v2L1 ≤ 1000) → zwW sc (4) 191 4 [(2, 1), (0, v1L1), (0, v2L1)] [] h (zwRt 0 (fun x g => h = g ∧ (-2147483648 ≤ x ∧ x ≤ 2147483647))) := by
    intro n
    induction n using Nat.strongRecOn with
    | ind n IHL1 =>
      intro v1L1 v2L1 hnL1 iL1_0 iL1_1
      refine zwW_p [(1, 2, 0), (1, 0, 2)] (q := 6) (ls' := [(2, 1), (0, v1L1), (0, v2L1)]) (st' := [(2, 1), (0, v2L1)]) (by decide +kernel) rfl ?_
      refine zwW_gc C.1 (kd := 12) (bn := 4) (n := 13) (c := 4) (nx := 9) (by decide +kernel) ?_
      refine zwW_cm C.1 (op := 60) (k' := 96) (n := 0) (kd := 0) (m := 3) (nx := 12) (r := 4) (tl := []) (st' := [(0, v2L1)]) (by decide +kernel) rfl (by decide +kernel) rfl (x96_4 C) ?_
      rintro v2 _ ⟨rfl, ev2⟩
      have bv2 := zLb_4 C
      refine zwic_ge (q := 38) (nx := 15) (by decide +kernel) (fun c3 => ?_) (fun c3 => ?_)
      · refine zwW_p [(1, 1, 0)] (q := 39) (ls' := [(2, 1), (0, v1L1), (0, v2L1)]) (st' := [(0, v1L1)]) (by decide +kernel) rfl ?_
        refine zwW_ret (nx := 40) (a := 0) (b := 0) (by decide +kernel) rfl (Or.inl rfl) ?_
        exact ⟨rfl, by omega⟩
      · refine zwW_p [(1, 1, 0), (1, 0, 2)] (q := 17) (ls' := [(2, 1), (0, v1L1), (0, v2L1)]) (st' := [(2, 1), (0, v1L1)]) (by decide +kernel) rfl ?_
        refine zwW_gc C.1 (kd := 12) (bn := 4) (n := 13) (c := 4) (nx := 20) (by decide +kernel) ?_
        refine zwW_p [(1, 2, 0)] (q := 21) (ls' := [(2, 1), (0, v1L1), (0, v2L1)]) (st' := [(0, v2L1), (2, 4), (0, v1L1)]) (by decide +kernel) rfl ?_
        refine zwW_cm C.1 (op := 60) (k' := 123) (n := 1) (kd := 0) (m := 3) (nx := 24) (r := 4) (tl := [(0, v2L1)]) (st' := [(0, v1L1)]) (by decide +kernel) rfl (by decide +kernel) rfl (x123_4 C (i := v2L1) (by first | omega | exact ⟨by omega, by omega⟩)) ?_
        rintro v4 _ ⟨rfl, Gv4, ev4⟩
        have lv4 := Gv4.1
        refine zwW_cast (a := 6) (kd := 6) (n := 7) (nx := 27) (by decide +kernel) rfl (Or.inr Gv4.2.1) ?_
        refine zwX_gi C (kd := 6) (bn := 6) (n := 7) (nx := 30) (by decide +kernel) Gv4.2.1 Gv4.1 rfl ?_
        intro v5 ev5 lv5 uv5
        refine zwW_adw (nx := 31) (by decide +kernel) ?_
        intro v6 ev6 lv6 uv6
        have Ev6 : v6 = w32 (v1L1 + (fld h v4 6)) := by rw [ev6, ev5]
        refine zwW_p [(2, 1, 0)] (q := 32) (ls' := [(2, 1), (0, v6), (0, v2L1)]) (st' := []) (by decide +kernel) rfl ?_
        refine zwW_inc (i := 2) (c := 1) (x := v2L1) (nx := 35) (by decide +kernel) rfl (by first | omega | exact ⟨by omega, by omega⟩) (ls' := [(2, 1), (0, v6), (0, (v2L1 + 1))]) rfl ?_
        refine zwW_p [(24, 4, 0)] (q := 4) (ls' := [(2, 1), (0, v6), (0, (v2L1 + 1))]) (st' := []) (by decide +kernel) rfl ?_
        exact IHL1 ((1000 - (v2L1 + 1))).toNat (by omega) v6 (v2L1 + 1) rfl (by omega) (by omega)
  exact L1 _ 0 0 rfl (by omega) (by omega)
def msx193 : Zms := [(1004, 1004, 14, 15), (1020, 1020, 0, 100000)]
-- WheelLand.beginWeek()V
theorem x193 {sc : List Int} (h : Hp) (C : CI h) : zwC sc 5 193 [(2, 1)] h (zwRv (fun g => CI g ∧ zXR msx193 (0) (0) h g)) := by
  refine zwC_of (D := 4) 2 (by decide +kernel) rfl (ls := [(2, 1), (9, 0)]) rfl ?_
  have X : zXR msx193 0 0 h h := zXR.rf _ _
  refine zwW_p [(0, 0, 0), (2, 1, 0)] (q := 2) (ls' := [(2, 1), (0, 0)]) (st' := []) (by decide +kernel) rfl ?_
  have L1 : ∀ (n : Nat) (v1L1 : Int) (hL1 : Hp), n = ((1000 - v1L1)).toNat → (0 ≤ v1L1 ∧ v1L1 ≤ 1000) → CI hL1 → zXR msx193 (0) (0) h hL1 → zwW sc (4) 193 2 [(2, 1), (0, v1L1)] [] hL1 (zwRv (fun g => CI g ∧ zXR msx193 (0) (0) h g)) := by
    intro n
    induction n using Nat.strongRecOn with
    | ind n IHL1 =>
      intro v1L1 hL1 hnL1 iL1_0 ChL1 XhL1
      refine zwW_p [(1, 1, 0), (1, 0, 2)] (q := 4) (ls' := [(2, 1), (0, v1L1)]) (st' := [(2, 1), (0, v1L1)]) (by decide +kernel) rfl ?_
      refine zwW_gc ChL1.1 (kd := 12) (bn := 2) (n := 13) (c := 2) (nx := 7) (by decide +kernel) ?_
      refine zwW_cm ChL1.1 (op := 60) (k' := 96) (n := 0) (kd := 0) (m := 3) (nx := 10) (r := 2) (tl := []) (st' := [(0, v1L1)]) (by decide +kernel) rfl (by decide +kernel) rfl (x96_2 ChL1) ?_
      rintro v2 _ ⟨rfl, ev2⟩
      have bv2 := zLb_2 ChL1
      refine zwic_ge (q := 37) (nx := 13) (by decide +kernel) (fun c3 => ?_) (fun c3 => ?_)
      · refine zwW_p [(0, 0, 0), (2, 1, 0)] (q := 39) (ls' := [(2, 1), (0, 0)]) (st' := []) (by decide +kernel) rfl ?_
        have L4 : ∀ (n : Nat) (v1L4 : Int) (hL4 : Hp), n = ((1000 - v1L4)).toNat → (0 ≤ v1L4 ∧ v1L4 ≤ 1000) → CI hL4 → zXR msx193 (0) (0) h hL4 → zwW sc (4) 193 39 [(2, 1), (0, v1L4)] [] hL4 (zwRv (fun g => CI g ∧ zXR msx193 (0) (0) h g)) := by
          intro n
          induction n using Nat.strongRecOn with
          | ind n IHL4 =>
            intro v1L4 hL4 hnL4 iL4_0 ChL4 XhL4
            refine zwW_p [(1, 1, 0), (1, 0, 2)] (q := 41) (ls' := [(2, 1), (0, v1L4)]) (st' := [(2, 1), (0, v1L4)]) (by decide +kernel) rfl ?_
            refine zwW_gc ChL4.1 (kd := 12) (bn := 3) (n := 13) (c := 3) (nx := 44) (by decide +kernel) ?_
            refine zwW_cm ChL4.1 (op := 60) (k' := 96) (n := 0) (kd := 0) (m := 3) (nx := 47) (r := 3) (tl := []) (st' := [(0, v1L4)]) (by decide +kernel) rfl (by decide +kernel) rfl (x96_3 ChL4) ?_
            rintro v5 _ ⟨rfl, ev5⟩
            have bv5 := zLb_3 ChL4
            refine zwic_ge (q := 71) (nx := 50) (by decide +kernel) (fun c6 => ?_) (fun c6 => ?_)
            · refine zwW_retv (nx := 72) (a := 0) (b := 0) (by decide +kernel) ?_
              exact ⟨ChL4, XhL4.le (by decide) (by decide)⟩
            · refine zwW_p [(1, 0, 2)] (q := 51) (ls' := [(2, 1), (0, v1L4)]) (st' := [(2, 1)]) (by decide +kernel) rfl ?_
              refine zwW_gc ChL4.1 (kd := 12) (bn := 3) (n := 13) (c := 3) (nx := 54) (by decide +kernel) ?_
              refine zwW_p [(1, 1, 0)] (q := 55) (ls' := [(2, 1), (0, v1L4)]) (st' := [(0, v1L4), (2, 3)]) (by decide +kernel) rfl ?_
              refine zwW_cm ChL4.1 (op := 60) (k' := 123) (n := 1) (kd := 0) (m := 3) (nx := 58) (r := 3) (tl := [(0, v1L4)]) (st' := []) (by decide +kernel) rfl (by decide +kernel) rfl (x123_3 ChL4 (i := v1L4) (by first | omega | exact ⟨by omega, by omega⟩)) ?_
              rintro v7 _ ⟨rfl, Gv7, ev7⟩
              have lv7 := Gv7.1
              refine zwW_cast (a := 4) (kd := 4) (n := 19) (nx := 61) (by decide +kernel) rfl (Or.inr Gv7.2.1) ?_
              refine zwW_p [(0, 0, 0)] (q := 62) (ls' := [(2, 1), (0, v1L4)]) (st' := [(0, 0), (2, v7)]) (by decide +kernel) rfl ?_
              refine zwX_pi ChL4 (kd := 4) (bn := 14) (n := 19) (nx := 65) (by decide +kernel) Gv7.2.1 Gv7.1 (by first | decide | exact ⟨by decide, by decide⟩) ?_
              rintro h8 eh8 Ch8 Qh8
              have Xh8 : zXR msx193 (0) (0) h h8 := XhL4.tr (c2 := 0) (s2 := 0) Qh8 (by decide +kernel) (by decide) (by decide)
              refine zwW_inc (i := 1) (c := 1) (x := v1L4) (nx := 68) (by decide +kernel) rfl (by first | omega | exact ⟨by omega, by omega⟩) (ls' := [(2, 1), (0, (v1L4 + 1))]) rfl ?_
              refine zwW_p [(24, 39, 0)] (q := 39) (ls' := [(2, 1), (0, (v1L4 + 1))]) (st' := []) (by decide +kernel) rfl ?_
              exact IHL4 ((1000 - (v1L4 + 1))).toNat (by omega) (v1L4 + 1) h8 rfl (by omega) Ch8 (Xh8.le (by decide) (by decide))
        exact L4 _ 0 hL1 rfl (by omega) ChL1 (XhL1.le (by decide) (by decide))
      · refine zwW_p [(1, 0, 2)] (q := 14) (ls' := [(2, 1), (0, v1L1)]) (st' := [(2, 1)]) (by decide +kernel) rfl ?_
        refine zwW_gc ChL1.1 (kd := 12) (bn := 2) (n := 13) (c := 2) (nx := 17) (by decide +kernel) ?_
        refine zwW_p [(1, 1, 0)] (q := 18) (ls' := [(2, 1), (0, v1L1)]) (st' := [(0, v1L1), (2, 2)]) (by decide +kernel) rfl ?_
        refine zwW_cm ChL1.1 (op := 60) (k' := 123) (n := 1) (kd := 0) (m := 3) (nx := 21) (r := 2) (tl := [(0, v1L1)]) (st' := []) (by decide +kernel) rfl (by decide +kernel) rfl (x123_2 ChL1 (i := v1L1) (by first | omega | exact ⟨by omega, by omega⟩)) ?_
        rintro v9 _ ⟨rfl, Gv9, ev9⟩
        have lv9 := Gv9.1
        refine zwW_cast (a := 11) (kd := 11) (n := 17) (nx := 24) (by decide +kernel) rfl (Or.inr Gv9.2.1) ?_
        refine zwW_p [(1, 0, 2)] (q := 25) (ls' := [(2, 1), (0, v1L1)]) (st' := [(2, 1), (2, v9)]) (by decide +kernel) rfl ?_
        refine zwW_gs ChL1.1 (kd := 12) (bn := 0) (n := 13) (t := 0) (lo := 0) (hi := 156) (nx := 28) (by decide +kernel) ?_
        intro v10 ev10 lv10 uv10
        refine zwW_cvv (op := 60) (k' := 235) (n := 1) (kd := 11) (m := 17) (nx := 31) (r := v9) (tl := [(0, v10)]) (st' := []) (by decide +kernel) rfl (by decide +kernel) Gv9.2.1 (x235 hL1 ChL1 v9 v10 Gv9 (by omega)) rfl ?_
        rintro h11 ⟨Ch11, Qh11⟩
        have Xh11 : zXR msx193 (0) (0) h h11 := XhL1.tr (c2 := 0) (s2 := 0) Qh11 (by decide +kernel) (by decide) (by decide)
        refine zwW_inc (i := 1) (c := 1) (x := v1L1) (nx := 34) (by decide +kernel) rfl (by first | omega | exact ⟨by omega, by omega⟩) (ls' := [(2, 1), (0, (v1L1 + 1))]) rfl ?_
        refine zwW_p [(24, 2, 0)] (q := 2) (ls' := [(2, 1), (0, (v1L1 + 1))]) (st' := []) (by decide +kernel) rfl ?_
        exact IHL1 ((1000 - (v1L1 + 1))).toNat (by omega) (v1L1 + 1) h11 rfl (by omega) Ch11 (Xh11.le (by decide) (by decide))
  exact L1 _ 0 h rfl (by omega) C (X.le (by decide) (by decide))
def msx113 : Zms := [(1, 1, 0, 1), (1, 1, 1, 2), (4, 4, 0, 3), (17, 17, 0, 13), (18, 18, 0, 400), (34, 34, 2, 3), (35, 35, 0, 936), (36, 36, 0, 8), (1004, 1004, 6, 7), (1004, 1004, 8, 9), (1004, 1004, 9, 10), (1004, 1004, 10, 11), (1004, 1004, 14, 15), (1004, 1004, 15, 16), (1004, 1004, 18, 19), (1011, 1011, 3, 4), (1011, 1011, 4, 5), (1011, 1011, 5, 6), (1011, 1011, 6, 7), (1011, 1011, 7, 8), (1011, 1011, 9, 10), (1011, 1011, 10, 11), (1011, 1011, 13, 14), (1011, 1011, 14, 15), (1011, 1011, 15, 16), (1020, 1020, 0, 100000)]
-- WheelLand.endWeek()V
theorem x113 {sc : List Int} (h : Hp) (C : CI h) (p1 : fld h 1 0 < 156) (hl : h.length ≤ 999920000) : zwC sc 8 113 [(2, 1)] h (zwRv (fun g => CI g ∧ zXR msx113 (0) (0) h g ∧ (fld g 1 0 = fld h 1 0 + 1))) := by
  refine zwC_of (D := 7) 2 (by decide +kernel) rfl (ls := [(2, 1), (9, 0)]) rfl ?_
  have X : zXR msx113 0 0 h h := zXR.rf _ _
  refine zwW_p [(1, 0, 2)] (q := 1) (ls' := [(2, 1), (9, 0)]) (st' := [(2, 1)]) (by decide +kernel) rfl ?_
  refine zwW_cm C.1 (op := 60) (k' := 185) (n := 0) (kd := 12) (m := 13) (nx := 4) (r := 1) (tl := []) (st' := []) (by decide +kernel) rfl (by decide +kernel) rfl (x185 h C (by omega)) ?_
  rintro v2 h3 ⟨Ch3, Qh3, f1⟩
  have Xh3 : zXR msx113 (0) (0) h h3 := X.tr (c2 := 0) (s2 := 0) Qh3 (by decide +kernel) (by decide) (by decide)
  have th3_1_0 : fld h3 1 0 = fld h 1 0 := Qh3.f (a1 := 1) (a2 := 1) (j1 := 0) (j2 := 1) (by decide +kernel) (by first | decide | exact ⟨by decide, by decide⟩) (by first | decide | exact ⟨by decide, by decide⟩) (by first | decide | exact ⟨by decide, by decide⟩)
  refine zwW_p [(2, 1, 0), (1, 0, 2)] (q := 6) (ls' := [(2, 1), (0, v2)]) (st' := [(2, 1)]) (by decide +kernel) rfl ?_
  refine zwW_cmv Ch3.1 (op := 60) (k' := 186) (n := 0) (kd := 12) (m := 13) (nx := 9) (r := 1) (tl := []) (st' := []) (by decide +kernel) rfl (by decide +kernel) rfl (x186 h3 Ch3) ?_
  rintro h4 ⟨Ch4, Qh4⟩
  have Xh4 : zXR msx113 (0) (0) h h4 := Xh3.tr (c2 := 0) (s2 := 0) Qh4 (by decide +kernel) (by decide) (by decide)
  have th4_1_0 : fld h4 1 0 = fld h3 1 0 := Qh4.f (a1 := 1) (a2 := 1) (j1 := 0) (j2 := 1) (by decide +kernel) (by first | decide | exact ⟨by decide, by decide⟩) (by first | decide | exact ⟨by decide, by decide⟩) (by first | decide | exact ⟨by decide, by decide⟩)
  refine zwW_p [(1, 0, 2)] (q := 10) (ls' := [(2, 1), (0, v2)]) (st' := [(2, 1)]) (by decide +kernel) rfl ?_
  refine zwW_cmv Ch4.1 (op := 60) (k' := 187) (n := 0) (kd := 12) (m := 13) (nx := 13) (r := 1) (tl := []) (st' := []) (by decide +kernel) rfl (by decide +kernel) rfl (x187 h4 Ch4) ?_
  rintro h5 ⟨Ch5, Qh5⟩
  have Xh5 : zXR msx113 (0) (0) h h5 := Xh4.tr (c2 := 0) (s2 := 0) Qh5 (by decide +kernel) (by decide) (by decide)
  have th5_1_0 : fld h5 1 0 = fld h4 1 0 := Qh5.f (a1 := 1) (a2 := 1) (j1 := 0) (j2 := 1) (by decide +kernel) (by first | decide | exact ⟨by decide, by decide⟩) (by first | decide | exact ⟨by decide, by decide⟩) (by first | decide | exact ⟨by decide, by decide⟩)
  refine zwW_p [(1, 0, 2)] (q := 14) (ls' := [(2, 1), (0, v2)]) (st' := [(2, 1)]) (by decide +kernel) rfl ?_
  refine zwW_gs Ch5.1 (kd := 12) (bn := 0) (n := 13) (t := 0) (lo := 0) (hi := 156) (nx := 17) (by decide +kernel) ?_
  intro v6 ev6 lv6 uv6
  refine zwW_p [(0, 13, 0)] (q := 19) (ls' := [(2, 1), (0, v2)]) (st' := [(0, 13), (0, v6)]) (by decide +kernel) rfl ?_
  refine zwW_rem (nx := 20) (by decide +kernel) (by omega) (by omega) ?_
  refine zwW_p [(0, 12, 0)] (q := 22) (ls' := [(2, 1), (0, v2)]) (st' := [(0, 12), (0, (v6 % 13))]) (by decide +kernel) rfl ?_
  refine zwic_ne (q := 33) (nx := 25) (by decide +kernel) (fun c7 => ?_) (fun c7 => ?_)
  · refine zwW_p [(1, 0, 2)] (q := 34) (ls' := [(2, 1), (0, v2)]) (st' := [(2, 1)]) (by decide +kernel) rfl ?_
    refine zwW_gc Ch5.1 (kd := 12) (bn := 11) (n := 13) (c := 34) (nx := 37) (by decide +kernel) ?_
    refine zwW_p [(1, 0, 2)] (q := 38) (ls' := [(2, 1), (0, v2)]) (st' := [(2, 1), (2, 34)]) (by decide +kernel) rfl ?_
    refine zwW_gs Ch5.1 (kd := 12) (bn := 0) (n := 13) (t := 0) (lo := 0) (hi := 156) (nx := 41) (by decide +kernel) ?_
    intro v8 ev8 lv8 uv8
    refine zwW_p [(1, 0, 2)] (q := 42) (ls' := [(2, 1), (0, v2)]) (st' := [(2, 1), (0, v8), (2, 34)]) (by decide +kernel) rfl ?_
    refine zwW_cm Ch5.1 (op := 60) (k' := 190) (n := 0) (kd := 12) (m := 13) (nx := 45) (r := 1) (tl := []) (st' := [(0, v8), (2, 34)]) (by decide +kernel) rfl (by decide +kernel) rfl (x190 h5 Ch5) ?_
    rintro v9 _ ⟨rfl, f10⟩
    refine zwW_p [(1, 1, 0), (1, 0, 2)] (q := 47) (ls' := [(2, 1), (0, v2)]) (st' := [(2, 1), (0, v2), (0, v9), (0, v8), (2, 34)]) (by decide +kernel) rfl ?_
    refine zwW_cm Ch5.1 (op := 60) (k' := 191) (n := 0) (kd := 12) (m := 13) (nx := 50) (r := 1) (tl := []) (st' := [(0, v2), (0, v9), (0, v8), (2, 34)]) (by decide +kernel) rfl (by decide +kernel) rfl (x191 h5 Ch5) ?_
    rintro v11 _ ⟨rfl, f12⟩
    refine zwW_cmv Ch5.1 (op := 60) (k' := 192) (n := 4) (kd := 5) (m := 4) (nx := 53) (r := 34) (tl := [(0, v8), (0, v9), (0, v2), (0, v11)]) (st' := []) (by decide +kernel) rfl (by decide +kernel) rfl (x192 h5 Ch5 v8 v9 v2 v11 (by omega) (by omega) (by omega) (by omega) (by omega)) ?_
    rintro h13 ⟨Ch13, Qh13⟩
    have Xh13 : zXR msx113 (0) (0) h h13 := Xh5.tr (c2 := 0) (s2 := 0) Qh13 (by decide +kernel) (by decide) (by decide)
    have th13_1_0 : fld h13 1 0 = fld h5 1 0 := Qh13.f (a1 := 1) (a2 := 1) (j1 := 0) (j2 := 1) (by decide +kernel) (by first | decide | exact ⟨by decide, by decide⟩) (by first | decide | exact ⟨by decide, by decide⟩) (by first | decide | exact ⟨by decide, by decide⟩)
    refine zwW_p [(1, 0, 2), (12, 0, 0)] (q := 55) (ls' := [(2, 1), (0, v2)]) (st' := [(2, 1), (2, 1)]) (by decide +kernel) rfl ?_
    refine zwW_gs Ch13.1 (kd := 12) (bn := 0) (n := 13) (t := 0) (lo := 0) (hi := 156) (nx := 58) (by decide +kernel) ?_
    intro v14 ev14 lv14 uv14
    refine zwW_p [(0, 1, 0)] (q := 59) (ls' := [(2, 1), (0, v2)]) (st' := [(0, 1), (0, v14), (2, 1)]) (by decide +kernel) rfl ?_
    refine zwW_add (nx := 60) (by decide +kernel) (by first | omega | exact ⟨by omega, by omega⟩) ?_
    refine zwW_ps Ch13.1 (kd := 12) (bn := 0) (n := 13) (lo := 0) (hi := 156) (nx := 63) (by decide +kernel) (by first | omega | exact ⟨by omega, by omega⟩) ?_
    intro h15 eh15 Ih15
    have Ch15 : CI h15 := Ch13.wc eh15 Ih15 (by decide) (by decide)
    have Qh15 : zXR [(1, 1, 0, 1)] 0 0 h13 h15 := zXR.wc eh15 rfl ⟨by decide, by decide, Or.inl (by decide)⟩ (by first | decide | exact ⟨by decide, by decide⟩)
    have Xh15 : zXR msx113 (0) (0) h h15 := Xh13.tr (c2 := 0) (s2 := 0) Qh15 (by decide +kernel) (by decide) (by decide)
    have th15_1_0 : fld h15 1 0 = (v14 + 1) := by rw [eh15]; exact fld_wr_eq (Ch13.1.s (a1 := 1) (a2 := 1) (k := 12) (n := 13) (by decide +kernel) (by decide) (by decide)) (by decide)
    refine zwW_p [(1, 0, 2)] (q := 64) (ls' := [(2, 1), (0, v2)]) (st' := [(2, 1)]) (by decide +kernel) rfl ?_
    refine zwW_cmv Ch15.1 (op := 60) (k' := 193) (n := 0) (kd := 12) (m := 13) (nx := 67) (r := 1) (tl := []) (st' := []) (by decide +kernel) rfl (by decide +kernel) rfl (x193 h15 Ch15) ?_
    rintro h16 ⟨Ch16, Qh16⟩
    have Xh16 : zXR msx113 (0) (0) h h16 := Xh15.tr (c2 := 0) (s2 := 0) Qh16 (by decide +kernel) (by decide) (by decide)
    have th16_1_0 : fld h16 1 0 = fld h15 1 0 := Qh16.f (a1 := 1) (a2 := 1) (j1 := 0) (j2 := 1) (by decide +kernel) (by first | decide | exact ⟨by decide, by decide⟩) (by first | decide | exact ⟨by decide, by decide⟩) (by first | decide | exact ⟨by decide, by decide⟩)
    refine zwW_retv (nx := 68) (a := 0) (b := 0) (by decide +kernel) ?_
    exact ⟨Ch16, Xh16.le (by decide) (by decide), by omega⟩
  · refine zwW_p [(1, 0, 2)] (q := 26) (ls' := [(2, 1), (0, v2)]) (st' := [(2, 1)]) (by decide +kernel) rfl ?_
    refine zwW_cmv Ch5.1 (op := 60) (k' := 188) (n := 0) (kd := 12) (m := 13) (nx := 29) (r := 1) (tl := []) (st' := []) (by decide +kernel) rfl (by decide +kernel) rfl (x188 h5 Ch5) ?_
    rintro h17 ⟨Ch17, Qh17⟩
    have Xh17 : zXR msx113 (0) (0) h h17 := Xh5.tr (c2 := 0) (s2 := 0) Qh17 (by decide +kernel) (by decide) (by decide)
    have th17_1_0 : fld h17 1 0 = fld h5 1 0 := Qh17.f (a1 := 1) (a2 := 1) (j1 := 0) (j2 := 1) (by decide +kernel) (by first | decide | exact ⟨by decide, by decide⟩) (by first | decide | exact ⟨by decide, by decide⟩) (by first | decide | exact ⟨by decide, by decide⟩)
    refine zwW_p [(1, 0, 2)] (q := 30) (ls' := [(2, 1), (0, v2)]) (st' := [(2, 1)]) (by decide +kernel) rfl ?_
    refine zwW_cmv Ch17.1 (op := 60) (k' := 189) (n := 0) (kd := 12) (m := 13) (nx := 33) (r := 1) (tl := []) (st' := []) (by decide +kernel) rfl (by decide +kernel) rfl (x189 h17 Ch17) ?_
    rintro h18 ⟨Ch18, Qh18⟩
    have Xh18 : zXR msx113 (0) (0) h h18 := Xh17.tr (c2 := 0) (s2 := 0) Qh18 (by decide +kernel) (by decide) (by decide)
    have th18_1_0 : fld h18 1 0 = fld h17 1 0 := Qh18.f (a1 := 1) (a2 := 1) (j1 := 0) (j2 := 1) (by decide +kernel) (by first | decide | exact ⟨by decide, by decide⟩) (by first | decide | exact ⟨by decide, by decide⟩) (by first | decide | exact ⟨by decide, by decide⟩)
    refine zwW_p [(1, 0, 2)] (q := 34) (ls' := [(2, 1), (0, v2)]) (st' := [(2, 1)]) (by decide +kernel) rfl ?_
    refine zwW_gc Ch18.1 (kd := 12) (bn := 11) (n := 13) (c := 34) (nx := 37) (by decide +kernel) ?_
    refine zwW_p [(1, 0, 2)] (q := 38) (ls' := [(2, 1), (0, v2)]) (st' := [(2, 1), (2, 34)]) (by decide +kernel) rfl ?_
    refine zwW_gs Ch18.1 (kd := 12) (bn := 0) (n := 13) (t := 0) (lo := 0) (hi := 156) (nx := 41) (by decide +kernel) ?_
    intro v19 ev19 lv19 uv19
    refine zwW_p [(1, 0, 2)] (q := 42) (ls' := [(2, 1), (0, v2)]) (st' := [(2, 1), (0, v19), (2, 34)]) (by decide +kernel) rfl ?_
    refine zwW_cm Ch18.1 (op := 60) (k' := 190) (n := 0) (kd := 12) (m := 13) (nx := 45) (r := 1) (tl := []) (st' := [(0, v19), (2, 34)]) (by decide +kernel) rfl (by decide +kernel) rfl (x190 h18 Ch18) ?_
    rintro v20 _ ⟨rfl, f21⟩
    refine zwW_p [(1, 1, 0), (1, 0, 2)] (q := 47) (ls' := [(2, 1), (0, v2)]) (st' := [(2, 1), (0, v2), (0, v20), (0, v19), (2, 34)]) (by decide +kernel) rfl ?_
    refine zwW_cm Ch18.1 (op := 60) (k' := 191) (n := 0) (kd := 12) (m := 13) (nx := 50) (r := 1) (tl := []) (st' := [(0, v2), (0, v20), (0, v19), (2, 34)]) (by decide +kernel) rfl (by decide +kernel) rfl (x191 h18 Ch18) ?_
    rintro v22 _ ⟨rfl, f23⟩
    refine zwW_cmv Ch18.1 (op := 60) (k' := 192) (n := 4) (kd := 5) (m := 4) (nx := 53) (r := 34) (tl := [(0, v19), (0, v20), (0, v2), (0, v22)]) (st' := []) (by decide +kernel) rfl (by decide +kernel) rfl (x192 h18 Ch18 v19 v20 v2 v22 (by omega) (by omega) (by omega) (by omega) (by omega)) ?_
    rintro h24 ⟨Ch24, Qh24⟩
    have Xh24 : zXR msx113 (0) (0) h h24 := Xh18.tr (c2 := 0) (s2 := 0) Qh24 (by decide +kernel) (by decide) (by decide)
    have th24_1_0 : fld h24 1 0 = fld h18 1 0 := Qh24.f (a1 := 1) (a2 := 1) (j1 := 0) (j2 := 1) (by decide +kernel) (by first | decide | exact ⟨by decide, by decide⟩) (by first | decide | exact ⟨by decide, by decide⟩) (by first | decide | exact ⟨by decide, by decide⟩)
    refine zwW_p [(1, 0, 2), (12, 0, 0)] (q := 55) (ls' := [(2, 1), (0, v2)]) (st' := [(2, 1), (2, 1)]) (by decide +kernel) rfl ?_
    refine zwW_gs Ch24.1 (kd := 12) (bn := 0) (n := 13) (t := 0) (lo := 0) (hi := 156) (nx := 58) (by decide +kernel) ?_
    intro v25 ev25 lv25 uv25
    refine zwW_p [(0, 1, 0)] (q := 59) (ls' := [(2, 1), (0, v2)]) (st' := [(0, 1), (0, v25), (2, 1)]) (by decide +kernel) rfl ?_
    refine zwW_add (nx := 60) (by decide +kernel) (by first | omega | exact ⟨by omega, by omega⟩) ?_
    refine zwW_ps Ch24.1 (kd := 12) (bn := 0) (n := 13) (lo := 0) (hi := 156) (nx := 63) (by decide +kernel) (by first | omega | exact ⟨by omega, by omega⟩) ?_
    intro h26 eh26 Ih26
    have Ch26 : CI h26 := Ch24.wc eh26 Ih26 (by decide) (by decide)
    have Qh26 : zXR [(1, 1, 0, 1)] 0 0 h24 h26 := zXR.wc eh26 rfl ⟨by decide, by decide, Or.inl (by decide)⟩ (by first | decide | exact ⟨by decide, by decide⟩)
    have Xh26 : zXR msx113 (0) (0) h h26 := Xh24.tr (c2 := 0) (s2 := 0) Qh26 (by decide +kernel) (by decide) (by decide)
    have th26_1_0 : fld h26 1 0 = (v25 + 1) := by rw [eh26]; exact fld_wr_eq (Ch24.1.s (a1 := 1) (a2 := 1) (k := 12) (n := 13) (by decide +kernel) (by decide) (by decide)) (by decide)
    refine zwW_p [(1, 0, 2)] (q := 64) (ls' := [(2, 1), (0, v2)]) (st' := [(2, 1)]) (by decide +kernel) rfl ?_
    refine zwW_cmv Ch26.1 (op := 60) (k' := 193) (n := 0) (kd := 12) (m := 13) (nx := 67) (r := 1) (tl := []) (st' := []) (by decide +kernel) rfl (by decide +kernel) rfl (x193 h26 Ch26) ?_
    rintro h27 ⟨Ch27, Qh27⟩
    have Xh27 : zXR msx113 (0) (0) h h27 := Xh26.tr (c2 := 0) (s2 := 0) Qh27 (by decide +kernel) (by decide) (by decide)
    have th27_1_0 : fld h27 1 0 = fld h26 1 0 := Qh27.f (a1 := 1) (a2 := 1) (j1 := 0) (j2 := 1) (by decide +kernel) (by first | decide | exact ⟨by decide, by decide⟩) (by first | decide | exact ⟨by decide, by decide⟩) (by first | decide | exact ⟨by decide, by decide⟩)
    refine zwW_retv (nx := 68) (a := 0) (b := 0) (by decide +kernel) ?_
    exact ⟨Ch27, Xh27.le (by decide) (by decide), by omega⟩
def msx145 : Zms := [(17, 17, 0, 13), (18, 18, 0, 400), (19, 19, 2, 3), (19, 19, 3, 4), (22, 22, 0, 6), (23, 23, 0, 6)]
-- WheelLand.offerLot(ILWheelLand$Lot;)V
theorem x145 {sc : List Int} (h : Hp) (C : CI h) (a r : Int) (q_a : -2147483648 ≤ a ∧ a ≤ 2147483647) (G_r : gL h r) : zwC sc 6 145 [(2, 1), (0, a), (2, r)] h (zwRv (fun g => CI g ∧ zXR msx145 (0) (0) h g)) := by
  refine zwC_of (D := 5) 9 (by decide +kernel) rfl (ls := [(2, 1), (0, a), (2, r), (9, 0), (9, 0), (9, 0), (9, 0), (9, 0), (9, 0)]) rfl ?_
  have lw_r := G_r.1
  have X : zXR msx145 0 0 h h := zXR.rf _ _
  refine zwW_p [(1, 2, 2)] (q := 1) (ls' := [(2, 1), (0, a), (2, r), (9, 0), (9, 0), (9, 0), (9, 0), (9, 0), (9, 0)]) (st' := [(2, r)]) (by decide +kernel) rfl ?_
  refine zwX_gi C (kd := 6) (bn := 6) (n := 7) (nx := 4) (by decide +kernel) G_r.2.1 G_r.1 rfl ?_
  intro v1 ev1 lv1 uv1
  refine zwW_p [(1, 2, 2)] (q := 5) (ls' := [(2, 1), (0, a), (2, r), (9, 0), (9, 0), (9, 0), (9, 0), (9, 0), (9, 0)]) (st' := [(2, r), (0, v1)]) (by decide +kernel) rfl ?_
  refine zwX_gi C (kd := 6) (bn := 6) (n := 7) (nx := 8) (by decide +kernel) G_r.2.1 G_r.1 rfl ?_
  intro v2 ev2 lv2 uv2
  refine zwW_p [(0, 2, 0)] (q := 9) (ls' := [(2, 1), (0, a), (2, r), (9, 0), (9, 0), (9, 0), (9, 0), (9, 0), (9, 0)]) (st' := [(0, 2), (0, v2), (0, v1)]) (by decide +kernel) rfl ?_
  refine zwW_tmw (nx := 10) (by decide +kernel) (by first | omega | exact ⟨by omega, by omega⟩) (by omega) ?_
  intro v3 ev3 lv3 uv3
  refine zwW_sbw (nx := 11) (by decide +kernel) ?_
  intro v4 ev4 lv4 uv4
  have Ev4 : v4 = w32 ((fld h r 6) - v3) := by rw [ev4, ev1]
  refine zwW_p [(2, 3, 0), (0, -1, 0), (2, 4, 0), (0, 0, 0), (2, 5, 0), (0, 0, 0), (2, 6, 0)] (q := 21) (ls' := [(2, 1), (0, a), (2, r), (0, v4), (0, -1), (0, 0), (0, 0), (9, 0), (9, 0)]) (st' := []) (by decide +kernel) rfl ?_
  have L5 : ∀ (n : Nat) (v4L5 v5L5 v6L5 : Int) (w7L5 w8L5 : Vl) (hL5 : Hp), n = ((1000 - v6L5)).toNat → (-2147483648 ≤ v4L5 ∧ v4L5 ≤ 2147483647) → (-2147483648 ≤ v5L5 ∧ v5L5 ≤ 2147483647) → (0 ≤ v6L5 ∧ v6L5 ≤ 1000) → (gL hL5 r) → CI hL5 → zXR msx145 (0) (0) h hL5 → zwW sc (5) 145 21 [(2, 1), (0, a), (2, r), (0, v4), (0, v4L5), (0, v5L5), (0, v6L5), w7L5, w8L5] [] hL5 (zwRv (fun g => CI g ∧ zXR msx145 (0) (0) h g)) := by
    intro n
    induction n using Nat.strongRecOn with
    | ind n IHL5 =>
      intro v4L5 v5L5 v6L5 w7L5 w8L5 hL5 hnL5 iL5_0 iL5_1 iL5_2 gL5_0 ChL5 XhL5
      refine zwW_p [(1, 6, 0), (1, 0, 2)] (q := 24) (ls' := [(2, 1), (0, a), (2, r), (0, v4), (0, v4L5), (0, v5L5), (0, v6L5), w7L5, w8L5]) (st' := [(2, 1), (0, v6L5)]) (by decide +kernel) rfl ?_
      refine zwW_gc ChL5.1 (kd := 12) (bn := 9) (n := 13) (c := 19) (nx := 27) (by decide +kernel) ?_
      refine zwW_gc ChL5.1 (kd := 3) (bn := 1) (n := 10) (c := 21) (nx := 30) (by decide +kernel) ?_
      refine zwW_cm ChL5.1 (op := 60) (k' := 96) (n := 0) (kd := 0) (m := 3) (nx := 33) (r := 21) (tl := []) (st' := [(0, v6L5)]) (by decide +kernel) rfl (by decide +kernel) rfl (x96_21 ChL5) ?_
      rintro v6 _ ⟨rfl, ev6⟩
      have bv6 := zLb_21 ChL5
      refine zwic_ge (q := 128) (nx := 36) (by decide +kernel) (fun c7 => ?_) (fun c7 => ?_)
      · refine zwW_p [(1, 0, 2)] (q := 129) (ls' := [(2, 1), (0, a), (2, r), (0, v4), (0, v4L5), (0, v5L5), (0, v6L5), w7L5, w8L5]) (st' := [(2, 1)]) (by decide +kernel) rfl ?_
        refine zwW_gc ChL5.1 (kd := 12) (bn := 9) (n := 13) (c := 19) (nx := 132) (by decide +kernel) ?_
        refine zwW_p [(1, 1, 0), (1, 3, 0), (1, 4, 0), (1, 5, 0)] (q := 138) (ls' := [(2, 1), (0, a), (2, r), (0, v4), (0, v4L5), (0, v5L5), (0, v6L5), w7L5, w8L5]) (st' := [(0, v5L5), (0, v4L5), (0, v4), (0, a), (2, 19)]) (by decide +kernel) rfl ?_
        refine zwW_cmv ChL5.1 (op := 60) (k' := 211) (n := 4) (kd := 3) (m := 10) (nx := 141) (r := 19) (tl := [(0, a), (0, v4), (0, v4L5), (0, v5L5)]) (st' := []) (by decide +kernel) rfl (by decide +kernel) rfl (x211 hL5 ChL5 a v4 v4L5 v5L5 (by omega) (by omega) (by omega) (by omega)) ?_
        rintro h8 ⟨Ch8, Qh8⟩
        have Xh8 : zXR msx145 (0) (0) h h8 := XhL5.tr (c2 := 0) (s2 := 0) Qh8 (by decide +kernel) (by decide) (by decide)
        have Gh8_0 : gL h8 r := gL5_0.x Qh8
        refine zwW_retv (nx := 142) (a := 0) (b := 0) (by decide +kernel) ?_
        exact ⟨Ch8, Xh8.le (by decide) (by decide)⟩
      · refine zwW_p [(1, 3, 0)] (q := 37) (ls' := [(2, 1), (0, a), (2, r), (0, v4), (0, v4L5), (0, v5L5), (0, v6L5), w7L5, w8L5]) (st' := [(0, v4)]) (by decide +kernel) rfl ?_
        refine zwif_le (q := 128) (nx := 40) (by decide +kernel) (fun c9 => ?_) (fun c9 => ?_)
        · refine zwW_p [(1, 0, 2)] (q := 129) (ls' := [(2, 1), (0, a), (2, r), (0, v4), (0, v4L5), (0, v5L5), (0, v6L5), w7L5, w8L5]) (st' := [(2, 1)]) (by decide +kernel) rfl ?_
          refine zwW_gc ChL5.1 (kd := 12) (bn := 9) (n := 13) (c := 19) (nx := 132) (by decide +kernel) ?_
          refine zwW_p [(1, 1, 0), (1, 3, 0), (1, 4, 0), (1, 5, 0)] (q := 138) (ls' := [(2, 1), (0, a), (2, r), (0, v4), (0, v4L5), (0, v5L5), (0, v6L5), w7L5, w8L5]) (st' := [(0, v5L5), (0, v4L5), (0, v4), (0, a), (2, 19)]) (by decide +kernel) rfl ?_
          refine zwW_cmv ChL5.1 (op := 60) (k' := 211) (n := 4) (kd := 3) (m := 10) (nx := 141) (r := 19) (tl := [(0, a), (0, v4), (0, v4L5), (0, v5L5)]) (st' := []) (by decide +kernel) rfl (by decide +kernel) rfl (x211 hL5 ChL5 a v4 v4L5 v5L5 (by omega) (by omega) (by omega) (by omega)) ?_
          rintro h10 ⟨Ch10, Qh10⟩
          have Xh10 : zXR msx145 (0) (0) h h10 := XhL5.tr (c2 := 0) (s2 := 0) Qh10 (by decide +kernel) (by decide) (by decide)
          have Gh10_0 : gL h10 r := gL5_0.x Qh10
          refine zwW_retv (nx := 142) (a := 0) (b := 0) (by decide +kernel) ?_
          exact ⟨Ch10, Xh10.le (by decide) (by decide)⟩
        · refine zwW_p [(1, 0, 2)] (q := 41) (ls' := [(2, 1), (0, a), (2, r), (0, v4), (0, v4L5), (0, v5L5), (0, v6L5), w7L5, w8L5]) (st' := [(2, 1)]) (by decide +kernel) rfl ?_
          refine zwW_gc ChL5.1 (kd := 12) (bn := 9) (n := 13) (c := 19) (nx := 44) (by decide +kernel) ?_
          refine zwW_gc ChL5.1 (kd := 3) (bn := 1) (n := 10) (c := 21) (nx := 47) (by decide +kernel) ?_
          refine zwW_p [(1, 6, 0)] (q := 49) (ls' := [(2, 1), (0, a), (2, r), (0, v4), (0, v4L5), (0, v5L5), (0, v6L5), w7L5, w8L5]) (st' := [(0, v6L5), (2, 21)]) (by decide +kernel) rfl ?_
          refine zwW_cm ChL5.1 (op := 60) (k' := 123) (n := 1) (kd := 0) (m := 3) (nx := 52) (r := 21) (tl := [(0, v6L5)]) (st' := []) (by decide +kernel) rfl (by decide +kernel) rfl (x123_21 ChL5 (i := v6L5) (by first | omega | exact ⟨by omega, by omega⟩)) ?_
          rintro v11 _ ⟨rfl, Gv11, ev11⟩
          have lv11 := Gv11.1
          refine zwW_cast (a := 4) (kd := 4) (n := 19) (nx := 55) (by decide +kernel) rfl (Or.inr Gv11.2.1) ?_
          refine zwW_p [(2, 7, 2), (1, 0, 2), (1, 7, 2), (1, 2, 2), (1, 3, 0)] (q := 62) (ls' := [(2, 1), (0, a), (2, r), (0, v4), (0, v4L5), (0, v5L5), (0, v6L5), (2, v11), w8L5]) (st' := [(0, v4), (2, r), (2, v11), (2, 1)]) (by decide +kernel) rfl ?_
          refine zwW_cm ChL5.1 (op := 60) (k' := 207) (n := 3) (kd := 12) (m := 13) (nx := 65) (r := 1) (tl := [(2, v11), (2, r), (0, v4)]) (st' := []) (by decide +kernel) rfl (by decide +kernel) rfl (x207 hL5 ChL5 v11 r v4 Gv11 gL5_0 (by omega)) ?_
          rintro v13 h14 ⟨Ch14, Qh14, f12⟩
          have Xh14 : zXR msx145 (0) (0) h h14 := XhL5.tr (c2 := 0) (s2 := 0) Qh14 (by decide +kernel) (by decide) (by decide)
          have Gh14_0 : gL h14 r := gL5_0.x Qh14
          have Gh14_1 : gH h14 v11 := Gv11.x Qh14
          refine zwif_ne (q := 122) (nx := 68) (by decide +kernel) (fun c15 => ?_) (fun c15 => ?_)
          · refine zwW_inc (i := 6) (c := 1) (x := v6L5) (nx := 125) (by decide +kernel) rfl (by first | omega | exact ⟨by omega, by omega⟩) (ls' := [(2, 1), (0, a), (2, r), (0, v4), (0, v4L5), (0, v5L5), (0, (v6L5 + 1)), (2, v11), w8L5]) rfl ?_
            refine zwW_p [(24, 21, 0)] (q := 21) (ls' := [(2, 1), (0, a), (2, r), (0, v4), (0, v4L5), (0, v5L5), (0, (v6L5 + 1)), (2, v11), w8L5]) (st' := []) (by decide +kernel) rfl ?_
            exact IHL5 ((1000 - (v6L5 + 1))).toNat (by omega) v4L5 v5L5 (v6L5 + 1) (2, v11) w8L5 h14 rfl (by omega) (by omega) (by omega) Gh14_0 Ch14 (Xh14.le (by decide) (by decide))
          · refine zwW_p [(1, 0, 2), (1, 2, 2)] (q := 70) (ls' := [(2, 1), (0, a), (2, r), (0, v4), (0, v4L5), (0, v5L5), (0, v6L5), (2, v11), w8L5]) (st' := [(2, r), (2, 1)]) (by decide +kernel) rfl ?_
            refine zwW_get (kd := 6) (bn := 1) (t := 2) (n := 7) (nx := 73) (by decide +kernel) Gh14_0.2.1 rfl ?_
            obtain ⟨v16, ev16⟩ : ∃ z, z = fld h14 r 1 := ⟨_, rfl⟩
            rw [← ev16]
            have Gv16 : gH h14 v16 := by rw [ev16]; exact Gh14_0.2.2
            have lv16 := Gv16.1
            refine zwW_get (kd := 4) (bn := 1) (t := 2) (n := 19) (nx := 76) (by decide +kernel) Gv16.2.1 rfl ?_
            obtain ⟨v17, ev17⟩ : ∃ z, z = fld h14 v16 1 := ⟨_, rfl⟩
            rw [← ev17]
            have Gv17 : gV h14 v17 := by rw [ev17]; exact Gv16.2.2
            have lv17 := Gv17.1
            refine zwW_p [(1, 7, 2)] (q := 78) (ls' := [(2, 1), (0, a), (2, r), (0, v4), (0, v4L5), (0, v5L5), (0, v6L5), (2, v11), w8L5]) (st' := [(2, v11), (2, v17), (2, 1)]) (by decide +kernel) rfl ?_
            refine zwW_get (kd := 4) (bn := 1) (t := 2) (n := 19) (nx := 81) (by decide +kernel) Gh14_1.2.1 rfl ?_
            obtain ⟨v18, ev18⟩ : ∃ z, z = fld h14 v11 1 := ⟨_, rfl⟩
            rw [← ev18]
            have Gv18 : gV h14 v18 := by rw [ev18]; exact Gh14_1.2.2
            have lv18 := Gv18.1
            refine zwW_cm Ch14.1 (op := 60) (k' := 105) (n := 2) (kd := 12) (m := 13) (nx := 84) (r := 1) (tl := [(2, v17), (2, v18)]) (st' := []) (by decide +kernel) rfl (by decide +kernel) rfl (x105 h14 Ch14 v17 v18 (Or.inr Gv17) (Or.inr Gv18)) ?_
            rintro v19 _ ⟨rfl, f20, f21⟩
            refine zwW_p [(2, 8, 0), (1, 4, 0), (0, -1, 0)] (q := 89) (ls' := [(2, 1), (0, a), (2, r), (0, v4), (0, v4L5), (0, v5L5), (0, v6L5), (2, v11), (0, v19)]) (st' := [(0, -1), (0, v4L5)]) (by decide +kernel) rfl ?_
            refine zwic_eq (q := 99) (nx := 92) (by decide +kernel) (fun c22 => ?_) (fun c22 => ?_)
            · refine zwW_p [(1, 8, 0), (2, 4, 0), (0, 0, 0), (2, 5, 0), (1, 8, 0), (1, 4, 0)] (q := 110) (ls' := [(2, 1), (0, a), (2, r), (0, v4), (0, v19), (0, 0), (0, v6L5), (2, v11), (0, v19)]) (st' := [(0, v19), (0, v19)]) (by decide +kernel) rfl ?_
              refine zwic_ne (q := 122) (nx := 113) (by decide +kernel) (fun c23 => ?_) (fun c23 => ?_)
              · refine zwW_inc (i := 6) (c := 1) (x := v6L5) (nx := 125) (by decide +kernel) rfl (by first | omega | exact ⟨by omega, by omega⟩) (ls' := [(2, 1), (0, a), (2, r), (0, v4), (0, v19), (0, 0), (0, (v6L5 + 1)), (2, v11), (0, v19)]) rfl ?_
                refine zwW_p [(24, 21, 0)] (q := 21) (ls' := [(2, 1), (0, a), (2, r), (0, v4), (0, v19), (0, 0), (0, (v6L5 + 1)), (2, v11), (0, v19)]) (st' := []) (by decide +kernel) rfl ?_
                exact IHL5 ((1000 - (v6L5 + 1))).toNat (by omega) v19 0 (v6L5 + 1) (2, v11) (0, v19) h14 rfl (by omega) (by omega) (by omega) Gh14_0 Ch14 (Xh14.le (by decide) (by decide))
              · refine zwW_p [(1, 5, 0), (0, 1, 0), (1, 6, 0)] (q := 118) (ls' := [(2, 1), (0, a), (2, r), (0, v4), (0, v19), (0, 0), (0, v6L5), (2, v11), (0, v19)]) (st' := [(0, v6L5), (0, 1), (0, 0)]) (by decide +kernel) rfl ?_
                refine zwW_any2 (a := 8) (nx := 119) (by decide +kernel) rfl (by first | omega | exact ⟨by omega, by omega⟩) (Or.inr (by first | decide | exact ⟨by decide, by decide⟩)) ?_
                intro v24 lv24 uv24
                refine zwW_any2 (a := 6) (nx := 120) (by decide +kernel) rfl (by first | omega | exact ⟨by omega, by omega⟩) (Or.inr (by first | decide | exact ⟨by decide, by decide⟩)) ?_
                intro v25 lv25 uv25
                refine zwW_p [(2, 5, 0)] (q := 122) (ls' := [(2, 1), (0, a), (2, r), (0, v4), (0, v19), (0, v25), (0, v6L5), (2, v11), (0, v19)]) (st' := []) (by decide +kernel) rfl ?_
                refine zwW_inc (i := 6) (c := 1) (x := v6L5) (nx := 125) (by decide +kernel) rfl (by first | omega | exact ⟨by omega, by omega⟩) (ls' := [(2, 1), (0, a), (2, r), (0, v4), (0, v19), (0, v25), (0, (v6L5 + 1)), (2, v11), (0, v19)]) rfl ?_
                refine zwW_p [(24, 21, 0)] (q := 21) (ls' := [(2, 1), (0, a), (2, r), (0, v4), (0, v19), (0, v25), (0, (v6L5 + 1)), (2, v11), (0, v19)]) (st' := []) (by decide +kernel) rfl ?_
                exact IHL5 ((1000 - (v6L5 + 1))).toNat (by omega) v19 v25 (v6L5 + 1) (2, v11) (0, v19) h14 rfl (by omega) (by omega) (by omega) Gh14_0 Ch14 (Xh14.le (by decide) (by decide))
            · refine zwW_p [(1, 8, 0), (1, 4, 0)] (q := 96) (ls' := [(2, 1), (0, a), (2, r), (0, v4), (0, v4L5), (0, v5L5), (0, v6L5), (2, v11), (0, v19)]) (st' := [(0, v4L5), (0, v19)]) (by decide +kernel) rfl ?_
              refine zwic_ge (q := 106) (nx := 99) (by decide +kernel) (fun c26 => ?_) (fun c26 => ?_)
              · refine zwW_p [(1, 8, 0), (1, 4, 0)] (q := 110) (ls' := [(2, 1), (0, a), (2, r), (0, v4), (0, v4L5), (0, v5L5), (0, v6L5), (2, v11), (0, v19)]) (st' := [(0, v4L5), (0, v19)]) (by decide +kernel) rfl ?_
                refine zwic_ne (q := 122) (nx := 113) (by decide +kernel) (fun c27 => ?_) (fun c27 => ?_)
                · refine zwW_inc (i := 6) (c := 1) (x := v6L5) (nx := 125) (by decide +kernel) rfl (by first | omega | exact ⟨by omega, by omega⟩) (ls' := [(2, 1), (0, a), (2, r), (0, v4), (0, v4L5), (0, v5L5), (0, (v6L5 + 1)), (2, v11), (0, v19)]) rfl ?_
                  refine zwW_p [(24, 21, 0)] (q := 21) (ls' := [(2, 1), (0, a), (2, r), (0, v4), (0, v4L5), (0, v5L5), (0, (v6L5 + 1)), (2, v11), (0, v19)]) (st' := []) (by decide +kernel) rfl ?_
                  exact IHL5 ((1000 - (v6L5 + 1))).toNat (by omega) v4L5 v5L5 (v6L5 + 1) (2, v11) (0, v19) h14 rfl (by omega) (by omega) (by omega) Gh14_0 Ch14 (Xh14.le (by decide) (by decide))
                · refine zwW_p [(1, 5, 0), (0, 1, 0), (1, 6, 0)] (q := 118) (ls' := [(2, 1), (0, a), (2, r), (0, v4), (0, v4L5), (0, v5L5), (0, v6L5), (2, v11), (0, v19)]) (st' := [(0, v6L5), (0, 1), (0, v5L5)]) (by decide +kernel) rfl ?_
                  refine zwW_any2 (a := 8) (nx := 119) (by decide +kernel) rfl (by first | omega | exact ⟨by omega, by omega⟩) (Or.inr (by first | decide | exact ⟨by decide, by decide⟩)) ?_
                  intro v28 lv28 uv28
                  refine zwW_any2 (a := 6) (nx := 120) (by decide +kernel) rfl (by first | omega | exact ⟨by omega, by omega⟩) (Or.inr (by first | decide | exact ⟨by decide, by decide⟩)) ?_
                  intro v29 lv29 uv29
                  refine zwW_p [(2, 5, 0)] (q := 122) (ls' := [(2, 1), (0, a), (2, r), (0, v4), (0, v4L5), (0, v29), (0, v6L5), (2, v11), (0, v19)]) (st' := []) (by decide +kernel) rfl ?_
                  refine zwW_inc (i := 6) (c := 1) (x := v6L5) (nx := 125) (by decide +kernel) rfl (by first | omega | exact ⟨by omega, by omega⟩) (ls' := [(2, 1), (0, a), (2, r), (0, v4), (0, v4L5), (0, v29), (0, (v6L5 + 1)), (2, v11), (0, v19)]) rfl ?_
                  refine zwW_p [(24, 21, 0)] (q := 21) (ls' := [(2, 1), (0, a), (2, r), (0, v4), (0, v4L5), (0, v29), (0, (v6L5 + 1)), (2, v11), (0, v19)]) (st' := []) (by decide +kernel) rfl ?_
                  exact IHL5 ((1000 - (v6L5 + 1))).toNat (by omega) v4L5 v29 (v6L5 + 1) (2, v11) (0, v19) h14 rfl (by omega) (by omega) (by omega) Gh14_0 Ch14 (Xh14.le (by decide) (by decide))
              · refine zwW_p [(1, 8, 0), (2, 4, 0), (0, 0, 0), (2, 5, 0), (1, 8, 0), (1, 4, 0)] (q := 110) (ls' := [(2, 1), (0, a), (2, r), (0, v4), (0, v19), (0, 0), (0, v6L5), (2, v11), (0, v19)]) (st' := [(0, v19), (0, v19)]) (by decide +kernel) rfl ?_
                refine zwic_ne (q := 122) (nx := 113) (by decide +kernel) (fun c30 => ?_) (fun c30 => ?_)
                · refine zwW_inc (i := 6) (c := 1) (x := v6L5) (nx := 125) (by decide +kernel) rfl (by first | omega | exact ⟨by omega, by omega⟩) (ls' := [(2, 1), (0, a), (2, r), (0, v4), (0, v19), (0, 0), (0, (v6L5 + 1)), (2, v11), (0, v19)]) rfl ?_
                  refine zwW_p [(24, 21, 0)] (q := 21) (ls' := [(2, 1), (0, a), (2, r), (0, v4), (0, v19), (0, 0), (0, (v6L5 + 1)), (2, v11), (0, v19)]) (st' := []) (by decide +kernel) rfl ?_
                  exact IHL5 ((1000 - (v6L5 + 1))).toNat (by omega) v19 0 (v6L5 + 1) (2, v11) (0, v19) h14 rfl (by omega) (by omega) (by omega) Gh14_0 Ch14 (Xh14.le (by decide) (by decide))
                · refine zwW_p [(1, 5, 0), (0, 1, 0), (1, 6, 0)] (q := 118) (ls' := [(2, 1), (0, a), (2, r), (0, v4), (0, v19), (0, 0), (0, v6L5), (2, v11), (0, v19)]) (st' := [(0, v6L5), (0, 1), (0, 0)]) (by decide +kernel) rfl ?_
                  refine zwW_any2 (a := 8) (nx := 119) (by decide +kernel) rfl (by first | omega | exact ⟨by omega, by omega⟩) (Or.inr (by first | decide | exact ⟨by decide, by decide⟩)) ?_
                  intro v31 lv31 uv31
                  refine zwW_any2 (a := 6) (nx := 120) (by decide +kernel) rfl (by first | omega | exact ⟨by omega, by omega⟩) (Or.inr (by first | decide | exact ⟨by decide, by decide⟩)) ?_
                  intro v32 lv32 uv32
                  refine zwW_p [(2, 5, 0)] (q := 122) (ls' := [(2, 1), (0, a), (2, r), (0, v4), (0, v19), (0, v32), (0, v6L5), (2, v11), (0, v19)]) (st' := []) (by decide +kernel) rfl ?_
                  refine zwW_inc (i := 6) (c := 1) (x := v6L5) (nx := 125) (by decide +kernel) rfl (by first | omega | exact ⟨by omega, by omega⟩) (ls' := [(2, 1), (0, a), (2, r), (0, v4), (0, v19), (0, v32), (0, (v6L5 + 1)), (2, v11), (0, v19)]) rfl ?_
                  refine zwW_p [(24, 21, 0)] (q := 21) (ls' := [(2, 1), (0, a), (2, r), (0, v4), (0, v19), (0, v32), (0, (v6L5 + 1)), (2, v11), (0, v19)]) (st' := []) (by decide +kernel) rfl ?_
                  exact IHL5 ((1000 - (v6L5 + 1))).toNat (by omega) v19 v32 (v6L5 + 1) (2, v11) (0, v19) h14 rfl (by omega) (by omega) (by omega) Gh14_0 Ch14 (Xh14.le (by decide) (by decide))
  exact L5 _ (-1) 0 0 (9, 0) (9, 0) h rfl (by omega) (by omega) (by omega) G_r C (X.le (by decide) (by decide))
-- WheelLand.handsCanBe(II)Z
theorem x142 {sc : List Int} (h : Hp) (C : CI h) (a b : Int) (q_a : -2147483648 ≤ a ∧ a ≤ 2147483647) (q_b : -2147483648 ≤ b ∧ b ≤ 2147483647) : zwC sc 2 142 [(2, 1), (0, a), (0, b)] h (zwRt 0 (fun x g => h = g ∧ ((x = 1 ∧ (0 ≤ 1)) ∨ (x = 0 ∧ (0 ≤ 1))))) := by
  refine zwC_of (D := 1) 5 (by decide +kernel) rfl (ls := [(2, 1), (0, a), (0, b), (9, 0), (9, 0)]) rfl ?_
  refine zwW_p [(1, 0, 2)] (q := 1) (ls' := [(2, 1), (0, a), (0, b), (9, 0), (9, 0)]) (st' := [(2, 1)]) (by decide +kernel) rfl ?_
  refine zwW_gc C.1 (kd := 12) (bn := 9) (n := 13) (c := 19) (nx := 4) (by decide +kernel) ?_
  refine zwW_gc C.1 (kd := 3) (bn := 0) (n := 10) (c := 20) (nx := 7) (by decide +kernel) ?_
  refine zwW_cm C.1 (op := 60) (k' := 96) (n := 0) (kd := 0) (m := 3) (nx := 10) (r := 20) (tl := []) (st' := []) (by decide +kernel) rfl (by decide +kernel) rfl (x96_20 C) ?_
  rintro v1 _ ⟨rfl, ev1⟩
  have bv1 := zLb_20 C
  refine zwW_p [(2, 3, 0), (1, 2, 0), (0, 0, 0), (0, 2, 0)] (q := 14) (ls' := [(2, 1), (0, a), (0, b), (0, v1), (9, 0)]) (st' := [(0, 2), (0, 0), (0, b)]) (by decide +kernel) rfl ?_
  refine zwW_cs (k' := 98) (n := 3) (nx := 17) (as := [(0, b), (0, 0), (0, 2)]) (st' := []) (by decide +kernel) rfl (x98 h C b 0 2 (by omega) (by omega) (by omega)) rfl ?_
  rintro x _ ⟨rfl, ⟨rfl, c2⟩ | ⟨rfl, c2⟩⟩
  · refine zwif_eq (q := 33) (nx := 20) (by decide +kernel) (fun c3 => ?_) (fun c3 => ?_)
    · exfalso; omega
    · refine zwW_p [(1, 2, 0), (0, 10, 0), (0, 9, 0), (1, 3, 0)] (q := 26) (ls' := [(2, 1), (0, a), (0, b), (0, v1), (9, 0)]) (st' := [(0, v1), (0, 9), (0, 10), (0, b)]) (by decide +kernel) rfl ?_
      refine zwW_add (nx := 27) (by decide +kernel) (by first | omega | exact ⟨by omega, by omega⟩) ?_
      refine zwW_cs (k' := 98) (n := 3) (nx := 30) (as := [(0, b), (0, 10), (0, (9 + v1))]) (st' := []) (by decide +kernel) rfl (x98 h C b 10 (9 + v1) (by omega) (by omega) (by omega)) rfl ?_
      rintro x _ ⟨rfl, ⟨rfl, c4⟩ | ⟨rfl, c4⟩⟩
      · refine zwif_ne (q := 37) (nx := 33) (by decide +kernel) (fun c5 => ?_) (fun c5 => ?_)
        · refine zwW_p [(0, 0, 0), (2, 4, 0), (1, 4, 0)] (q := 42) (ls' := [(2, 1), (0, a), (0, b), (0, v1), (0, 0)]) (st' := [(0, 0)]) (by decide +kernel) rfl ?_
          refine zwif_eq (q := 78) (nx := 45) (by decide +kernel) (fun c6 => ?_) (fun c6 => ?_)
          · refine zwW_p [(0, 0, 0)] (q := 79) (ls' := [(2, 1), (0, a), (0, b), (0, v1), (0, 0)]) (st' := [(0, 0)]) (by decide +kernel) rfl ?_
            refine zwW_ret (nx := 80) (a := 1) (b := 0) (by decide +kernel) rfl (Or.inr (Or.inl ⟨rfl, Or.inl rfl⟩)) ?_
            exact ⟨rfl, Or.inr ⟨rfl, by omega⟩⟩
          · exfalso; omega
        · exfalso; omega
      · refine zwif_ne (q := 37) (nx := 33) (by decide +kernel) (fun c7 => ?_) (fun c7 => ?_)
        · exfalso; omega
        · refine zwW_p [(0, 1, 0), (24, 38, 0), (2, 4, 0), (1, 4, 0)] (q := 42) (ls' := [(2, 1), (0, a), (0, b), (0, v1), (0, 1)]) (st' := [(0, 1)]) (by decide +kernel) rfl ?_
          refine zwif_eq (q := 78) (nx := 45) (by decide +kernel) (fun c8 => ?_) (fun c8 => ?_)
          · exfalso; omega
          · refine zwW_p [(1, 3, 0)] (q := 46) (ls' := [(2, 1), (0, a), (0, b), (0, v1), (0, 1)]) (st' := [(0, v1)]) (by decide +kernel) rfl ?_
            refine zwif_le (q := 78) (nx := 49) (by decide +kernel) (fun c9 => ?_) (fun c9 => ?_)
            · refine zwW_p [(0, 0, 0)] (q := 79) (ls' := [(2, 1), (0, a), (0, b), (0, v1), (0, 1)]) (st' := [(0, 0)]) (by decide +kernel) rfl ?_
              refine zwW_ret (nx := 80) (a := 1) (b := 0) (by decide +kernel) rfl (Or.inr (Or.inl ⟨rfl, Or.inl rfl⟩)) ?_
              exact ⟨rfl, Or.inr ⟨rfl, by omega⟩⟩
            · refine zwW_p [(1, 1, 0), (1, 0, 2)] (q := 51) (ls' := [(2, 1), (0, a), (0, b), (0, v1), (0, 1)]) (st' := [(2, 1), (0, a)]) (by decide +kernel) rfl ?_
              refine zwW_gc C.1 (kd := 12) (bn := 3) (n := 13) (c := 3) (nx := 54) (by decide +kernel) ?_
              refine zwW_cm C.1 (op := 60) (k' := 96) (n := 0) (kd := 0) (m := 3) (nx := 57) (r := 3) (tl := []) (st' := [(0, a)]) (by decide +kernel) rfl (by decide +kernel) rfl (x96_3 C) ?_
              rintro v10 _ ⟨rfl, ev10⟩
              have bv10 := zLb_3 C
              refine zwW_any2 (a := 10) (nx := 58) (by decide +kernel) rfl (by first | omega | exact ⟨by omega, by omega⟩) (Or.inr (by first | decide | exact ⟨by decide, by decide⟩)) ?_
              intro v11 lv11 uv11
              refine zwif_ne (q := 78) (nx := 61) (by decide +kernel) (fun c12 => ?_) (fun c12 => ?_)
              · refine zwW_p [(0, 0, 0)] (q := 79) (ls' := [(2, 1), (0, a), (0, b), (0, v1), (0, 1)]) (st' := [(0, 0)]) (by decide +kernel) rfl ?_
                refine zwW_ret (nx := 80) (a := 1) (b := 0) (by decide +kernel) rfl (Or.inr (Or.inl ⟨rfl, Or.inl rfl⟩)) ?_
                exact ⟨rfl, Or.inr ⟨rfl, by omega⟩⟩
              · refine zwW_p [(1, 1, 0)] (q := 62) (ls' := [(2, 1), (0, a), (0, b), (0, v1), (0, 1)]) (st' := [(0, a)]) (by decide +kernel) rfl ?_
                refine zwW_cs (k' := 210) (n := 1) (nx := 65) (as := [(0, a)]) (st' := []) (by decide +kernel) rfl (m210 h a (by omega)) rfl ?_
                rintro v13 _ ⟨rfl, f14⟩
                refine zwW_p [(0, 1, 0), (0, 6, 0)] (q := 68) (ls' := [(2, 1), (0, a), (0, b), (0, v1), (0, 1)]) (st' := [(0, 6), (0, 1), (0, v13)]) (by decide +kernel) rfl ?_
                refine zwW_cs (k' := 98) (n := 3) (nx := 71) (as := [(0, v13), (0, 1), (0, 6)]) (st' := []) (by decide +kernel) rfl (x98 h C v13 1 6 (by omega) (by omega) (by omega)) rfl ?_
                rintro x _ ⟨rfl, ⟨rfl, c15⟩ | ⟨rfl, c15⟩⟩
                · refine zwif_ne (q := 78) (nx := 74) (by decide +kernel) (fun c16 => ?_) (fun c16 => ?_)
                  · refine zwW_p [(0, 0, 0)] (q := 79) (ls' := [(2, 1), (0, a), (0, b), (0, v1), (0, 1)]) (st' := [(0, 0)]) (by decide +kernel) rfl ?_
                    refine zwW_ret (nx := 80) (a := 1) (b := 0) (by decide +kernel) rfl (Or.inr (Or.inl ⟨rfl, Or.inl rfl⟩)) ?_
                    exact ⟨rfl, Or.inr ⟨rfl, by omega⟩⟩
                  · exfalso; omega
                · refine zwif_ne (q := 78) (nx := 74) (by decide +kernel) (fun c17 => ?_) (fun c17 => ?_)
                  · exfalso; omega
                  · refine zwW_p [(0, 1, 0), (24, 79, 0)] (q := 79) (ls' := [(2, 1), (0, a), (0, b), (0, v1), (0, 1)]) (st' := [(0, 1)]) (by decide +kernel) rfl ?_
                    refine zwW_ret (nx := 80) (a := 1) (b := 0) (by decide +kernel) rfl (Or.inr (Or.inl ⟨rfl, Or.inr rfl⟩)) ?_
                    exact ⟨rfl, Or.inl ⟨rfl, by omega⟩⟩
  · refine zwif_eq (q := 33) (nx := 20) (by decide +kernel) (fun c18 => ?_) (fun c18 => ?_)
    · refine zwW_p [(0, 1, 0), (24, 38, 0), (2, 4, 0), (1, 4, 0)] (q := 42) (ls' := [(2, 1), (0, a), (0, b), (0, v1), (0, 1)]) (st' := [(0, 1)]) (by decide +kernel) rfl ?_
      refine zwif_eq (q := 78) (nx := 45) (by decide +kernel) (fun c19 => ?_) (fun c19 => ?_)
      · exfalso; omega
      · refine zwW_p [(1, 3, 0)] (q := 46) (ls' := [(2, 1), (0, a), (0, b), (0, v1), (0, 1)]) (st' := [(0, v1)]) (by decide +kernel) rfl ?_
        refine zwif_le (q := 78) (nx := 49) (by decide +kernel) (fun c20 => ?_) (fun c20 => ?_)
        · refine zwW_p [(0, 0, 0)] (q := 79) (ls' := [(2, 1), (0, a), (0, b), (0, v1), (0, 1)]) (st' := [(0, 0)]) (by decide +kernel) rfl ?_
          refine zwW_ret (nx := 80) (a := 1) (b := 0) (by decide +kernel) rfl (Or.inr (Or.inl ⟨rfl, Or.inl rfl⟩)) ?_
          exact ⟨rfl, Or.inr ⟨rfl, by omega⟩⟩
        · refine zwW_p [(1, 1, 0), (1, 0, 2)] (q := 51) (ls' := [(2, 1), (0, a), (0, b), (0, v1), (0, 1)]) (st' := [(2, 1), (0, a)]) (by decide +kernel) rfl ?_
          refine zwW_gc C.1 (kd := 12) (bn := 3) (n := 13) (c := 3) (nx := 54) (by decide +kernel) ?_
          refine zwW_cm C.1 (op := 60) (k' := 96) (n := 0) (kd := 0) (m := 3) (nx := 57) (r := 3) (tl := []) (st' := [(0, a)]) (by decide +kernel) rfl (by decide +kernel) rfl (x96_3 C) ?_
          rintro v21 _ ⟨rfl, ev21⟩
          have bv21 := zLb_3 C
          refine zwW_any2 (a := 10) (nx := 58) (by decide +kernel) rfl (by first | omega | exact ⟨by omega, by omega⟩) (Or.inr (by first | decide | exact ⟨by decide, by decide⟩)) ?_
          intro v22 lv22 uv22
          refine zwif_ne (q := 78) (nx := 61) (by decide +kernel) (fun c23 => ?_) (fun c23 => ?_)
          · refine zwW_p [(0, 0, 0)] (q := 79) (ls' := [(2, 1), (0, a), (0, b), (0, v1), (0, 1)]) (st' := [(0, 0)]) (by decide +kernel) rfl ?_
            refine zwW_ret (nx := 80) (a := 1) (b := 0) (by decide +kernel) rfl (Or.inr (Or.inl ⟨rfl, Or.inl rfl⟩)) ?_
            exact ⟨rfl, Or.inr ⟨rfl, by omega⟩⟩
          · refine zwW_p [(1, 1, 0)] (q := 62) (ls' := [(2, 1), (0, a), (0, b), (0, v1), (0, 1)]) (st' := [(0, a)]) (by decide +kernel) rfl ?_
            refine zwW_cs (k' := 210) (n := 1) (nx := 65) (as := [(0, a)]) (st' := []) (by decide +kernel) rfl (m210 h a (by omega)) rfl ?_
            rintro v24 _ ⟨rfl, f25⟩
            refine zwW_p [(0, 1, 0), (0, 6, 0)] (q := 68) (ls' := [(2, 1), (0, a), (0, b), (0, v1), (0, 1)]) (st' := [(0, 6), (0, 1), (0, v24)]) (by decide +kernel) rfl ?_
            refine zwW_cs (k' := 98) (n := 3) (nx := 71) (as := [(0, v24), (0, 1), (0, 6)]) (st' := []) (by decide +kernel) rfl (x98 h C v24 1 6 (by omega) (by omega) (by omega)) rfl ?_
            rintro x _ ⟨rfl, ⟨rfl, c26⟩ | ⟨rfl, c26⟩⟩
            · refine zwif_ne (q := 78) (nx := 74) (by decide +kernel) (fun c27 => ?_) (fun c27 => ?_)
              · refine zwW_p [(0, 0, 0)] (q := 79) (ls' := [(2, 1), (0, a), (0, b), (0, v1), (0, 1)]) (st' := [(0, 0)]) (by decide +kernel) rfl ?_
                refine zwW_ret (nx := 80) (a := 1) (b := 0) (by decide +kernel) rfl (Or.inr (Or.inl ⟨rfl, Or.inl rfl⟩)) ?_
                exact ⟨rfl, Or.inr ⟨rfl, by omega⟩⟩
              · exfalso; omega
            · refine zwif_ne (q := 78) (nx := 74) (by decide +kernel) (fun c28 => ?_) (fun c28 => ?_)
              · exfalso; omega
              · refine zwW_p [(0, 1, 0), (24, 79, 0)] (q := 79) (ls' := [(2, 1), (0, a), (0, b), (0, v1), (0, 1)]) (st' := [(0, 1)]) (by decide +kernel) rfl ?_
                refine zwW_ret (nx := 80) (a := 1) (b := 0) (by decide +kernel) rfl (Or.inr (Or.inl ⟨rfl, Or.inr rfl⟩)) ?_
                exact ⟨rfl, Or.inl ⟨rfl, by omega⟩⟩
    · exfalso; omega
end
section
/-! contracts of the class -/
def msx3 : Zms := [(2, 2, 0, 3)]
-- WheelLand.village(III)I
theorem x3 {sc : List Int} (h : Hp) (C : CI h) (a b c : Int) (q_a : -2147483648 ≤ a ∧ a ≤ 2147483647) (q_b : -2147483648 ≤ b ∧ b ≤ 2147483647) (q_c : -2147483648 ≤ c ∧ c ≤ 2147483647) (hl : h.length ≤ 999930000) : zwC sc 7 3 [(2, 1), (0, a), (0, b), (0, c)] h (zwRt 0 (fun x g => CI g ∧ zXR msx3 (3) (1174) h g ∧ (-2147483648 ≤ x ∧ x ≤ 2147483647) ∧ (((x = fld h 2 2) ∧ (x < 8) ∧ (fld g 2 2 = fld h 2 2 + 1) ∧ (0 ≤ a ∧ a / 1000000 ≤ 40 ∧ a / 10000 % 100 ≤ 40 ∧ a / 100 % 100 ≤ 40 ∧ a % 100 ≤ 40 ∧ 1 ≤ b ∧ b ≤ 9 ∧ 0 ≤ c ∧ c ≤ 9999) ∧ (∃ q : Int, (365 < q ∧ sh g q = some (20, 157) ∧ ∀ j : Nat, j < 157 → fld g q j = 10) ∧ (∃ rr : Int, (365 < rr ∧ gV g rr) ∧ (∀ i : Nat, (i : Int) < fld h 2 2 → fld g (fld g 2 1) i = fld h (fld h 2 1) i) ∧ fld g (fld g 2 1) (fld h 2 2).toNat = rr ∧ (∀ j : Nat, fld g rr j = ([fld h 2 2, a, b, c, 0, 0, 0, 0, 20, 10, 0, 0, 0, 0, 0, 0, q] : List Int).getD j 0)))) ∨ ((x = -1) ∧ (g = h) ∧ (8 ≤ fld h 2 2 ∨ a < 0 ∨ 40 < a / 1000000 ∨ 40 < a / 10000 % 100 ∨ 40 < a / 100 % 100 ∨ 40 < a % 100 ∨ b < 1 ∨ 9 < b ∨ c < 0 ∨ 9999 < c))))) := by
  refine zwC_of (D := 6) 4 (by decide +kernel) rfl (ls := [(2, 1), (0, a), (0, b), (0, c)]) rfl ?_
  have X : zXR msx3 0 0 h h := zXR.rf _ _
  refine zwW_p [(1, 0, 2)] (q := 1) (ls' := [(2, 1), (0, a), (0, b), (0, c)]) (st' := [(2, 1)]) (by decide +kernel) rfl ?_
  refine zwW_gc C.1 (kd := 12) (bn := 2) (n := 13) (c := 2) (nx := 4) (by decide +kernel) ?_
  refine zwW_cm C.1 (op := 60) (k' := 96) (n := 0) (kd := 0) (m := 3) (nx := 7) (r := 2) (tl := []) (st' := []) (by decide +kernel) rfl (by decide +kernel) rfl (x96_2 C) ?_
  rintro v1 _ ⟨rfl, ev1⟩
  have bv1 := zLb_2 C
  refine zwW_p [(0, 8, 0)] (q := 9) (ls' := [(2, 1), (0, a), (0, b), (0, c)]) (st' := [(0, 8), (0, v1)]) (by decide +kernel) rfl ?_
  refine zwic_ge (q := 40) (nx := 12) (by decide +kernel) (fun c2 => ?_) (fun c2 => ?_)
  · refine zwW_p [(0, -1, 0)] (q := 41) (ls' := [(2, 1), (0, a), (0, b), (0, c)]) (st' := [(0, -1)]) (by decide +kernel) rfl ?_
    refine zwW_ret (nx := 42) (a := 0) (b := 0) (by decide +kernel) rfl (Or.inl rfl) ?_
    exact ⟨C, X.le (by decide) (by decide), by omega, by exact Or.inr ⟨by omega, by rfl, by omega⟩⟩
  · refine zwW_p [(1, 1, 0)] (q := 13) (ls' := [(2, 1), (0, a), (0, b), (0, c)]) (st' := [(0, a)]) (by decide +kernel) rfl ?_
    refine zwW_cs (k' := 97) (n := 1) (nx := 16) (as := [(0, a)]) (st' := []) (by decide +kernel) rfl (x97 h C a (by omega)) rfl ?_
    rintro x _ ⟨rfl, ⟨rfl, c3⟩ | ⟨rfl, c3⟩⟩
    · refine zwif_eq (q := 40) (nx := 19) (by decide +kernel) (fun c4 => ?_) (fun c4 => ?_)
      · exfalso; omega
      · refine zwW_p [(1, 2, 0), (0, 1, 0), (0, 9, 0)] (q := 23) (ls' := [(2, 1), (0, a), (0, b), (0, c)]) (st' := [(0, 9), (0, 1), (0, b)]) (by decide +kernel) rfl ?_
        refine zwW_cs (k' := 98) (n := 3) (nx := 26) (as := [(0, b), (0, 1), (0, 9)]) (st' := []) (by decide +kernel) rfl (x98 h C b 1 9 (by omega) (by omega) (by omega)) rfl ?_
        rintro x _ ⟨rfl, ⟨rfl, c5⟩ | ⟨rfl, c5⟩⟩
        · refine zwif_ne (q := 40) (nx := 29) (by decide +kernel) (fun c6 => ?_) (fun c6 => ?_)
          · refine zwW_p [(0, -1, 0)] (q := 41) (ls' := [(2, 1), (0, a), (0, b), (0, c)]) (st' := [(0, -1)]) (by decide +kernel) rfl ?_
            refine zwW_ret (nx := 42) (a := 0) (b := 0) (by decide +kernel) rfl (Or.inl rfl) ?_
            exact ⟨C, X.le (by decide) (by decide), by omega, by exact Or.inr ⟨by omega, by rfl, by omega⟩⟩
          · exfalso; omega
        · refine zwif_ne (q := 40) (nx := 29) (by decide +kernel) (fun c7 => ?_) (fun c7 => ?_)
          · exfalso; omega
          · refine zwW_p [(1, 3, 0), (0, 0, 0), (0, 9999, 0)] (q := 34) (ls' := [(2, 1), (0, a), (0, b), (0, c)]) (st' := [(0, 9999), (0, 0), (0, c)]) (by decide +kernel) rfl ?_
            refine zwW_cs (k' := 98) (n := 3) (nx := 37) (as := [(0, c), (0, 0), (0, 9999)]) (st' := []) (by decide +kernel) rfl (x98 h C c 0 9999 (by omega) (by omega) (by omega)) rfl ?_
            rintro x _ ⟨rfl, ⟨rfl, c8⟩ | ⟨rfl, c8⟩⟩
            · refine zwif_eq (q := 42) (nx := 40) (by decide +kernel) (fun c9 => ?_) (fun c9 => ?_)
              · exfalso; omega
              · refine zwW_p [(0, -1, 0)] (q := 41) (ls' := [(2, 1), (0, a), (0, b), (0, c)]) (st' := [(0, -1)]) (by decide +kernel) rfl ?_
                refine zwW_ret (nx := 42) (a := 0) (b := 0) (by decide +kernel) rfl (Or.inl rfl) ?_
                exact ⟨C, X.le (by decide) (by decide), by omega, by exact Or.inr ⟨by omega, by rfl, by omega⟩⟩
            · refine zwif_eq (q := 42) (nx := 40) (by decide +kernel) (fun c10 => ?_) (fun c10 => ?_)
              · refine zwW_p [(1, 0, 2)] (q := 43) (ls' := [(2, 1), (0, a), (0, b), (0, c)]) (st' := [(2, 1)]) (by decide +kernel) rfl ?_
                refine zwW_gc C.1 (kd := 12) (bn := 2) (n := 13) (c := 2) (nx := 46) (by decide +kernel) ?_
                refine zwW_new (kd := 11) (n := 17) (nx := 49) (by decide +kernel) rfl rfl ?_
                rintro h11 r12 eh11 er12
                have Oh11 : zOld h h11 := by rw [eh11]; exact zOld.app _
                have Yh11 : zDy h11 := by rw [eh11]; exact C.2.1.app (fun x hx => by rw [List.eq_of_mem_replicate hx]; decide)
                have Ch11 : CI h11 := C.old Oh11 Yh11
                have Xh11 := Oh11.X C
                have th11_2_2 : fld h11 2 2 = fld h 2 2 := Xh11.f (a1 := 2) (a2 := 2) (j1 := 2) (j2 := 3) (by decide +kernel) (by first | decide | exact ⟨by decide, by decide⟩) (by first | decide | exact ⟨by decide, by decide⟩) (by first | decide | exact ⟨by decide, by decide⟩)
                refine zwW_p [(12, 0, 0), (1, 0, 2)] (q := 51) (ls' := [(2, 1), (0, a), (0, b), (0, c)]) (st' := [(2, 1), (2, r12), (2, r12), (2, 2)]) (by decide +kernel) rfl ?_
                refine zwW_gc Ch11.1 (kd := 12) (bn := 2) (n := 13) (c := 2) (nx := 54) (by decide +kernel) ?_
                refine zwW_cm Ch11.1 (op := 60) (k' := 96) (n := 0) (kd := 0) (m := 3) (nx := 57) (r := 2) (tl := []) (st' := [(2, r12), (2, r12), (2, 2)]) (by decide +kernel) rfl (by decide +kernel) rfl (x96_2 Ch11) ?_
                rintro v13 _ ⟨rfl, ev13⟩
                have bv13 := zLb_2 Ch11
                refine zwW_p [(1, 1, 0), (1, 2, 0), (1, 3, 0)] (q := 60) (ls' := [(2, 1), (0, a), (0, b), (0, c)]) (st' := [(0, c), (0, b), (0, a), (0, v13), (2, r12), (2, r12), (2, 2)]) (by decide +kernel) rfl ?_
                subst er12 eh11
                refine zwW_cvv (op := 62) (k' := 99) (n := 4) (kd := 11) (m := 17) (nx := 63) (r := ((h.length + 1 : Nat) : Int)) (tl := [(0, v13), (0, a), (0, b), (0, c)]) (st' := [(2, ((h.length + 1 : Nat) : Int)), (2, 2)]) (by decide +kernel) rfl (by decide +kernel) (sh_new _ _) (x99 h C v13 a b c (by omega) (by omega) (by omega) (by omega)) rfl ?_
                rintro h14 ⟨Ch14, Qh14, Nh14, Fh14_0, Fh14_1⟩
                obtain ⟨nr12, err12⟩ : ∃ z, z = ((h.length + 1 : Nat) : Int) := ⟨_, rfl⟩
                rw [← err12] at Nh14 ⊢
                try rw [← err12] at Fh14_0
                try rw [← err12] at Fh14_1
                have Xh14 : zXR msx3 (2) (174) h h14 := X.tr (c2 := 2) (s2 := 174) Qh14 (by decide +kernel) (by decide) (by decide)
                have th14_2_2 : fld h14 2 2 = fld h 2 2 := Qh14.f (a1 := 2) (a2 := 2) (j1 := 2) (j2 := 3) (by decide +kernel) (by first | decide | exact ⟨by decide, by decide⟩) (by first | decide | exact ⟨by decide, by decide⟩) (by first | decide | exact ⟨by decide, by decide⟩)
                have lnr12 := Nh14.1
                refine zwW_cm Ch14.1 (op := 60) (k' := 100) (n := 1) (kd := 0) (m := 3) (nx := 66) (r := 2) (tl := [(2, nr12)]) (st' := []) (by decide +kernel) rfl (by decide +kernel) rfl (x100_2 Ch14 Nh14 (by omega) (by have := Xh14.hl C Ch14 (by decide) hl; omega)) ?_
                rintro x h16 ⟨rfl, Ah16⟩
                have Ch16 := Ah16.1
                have Qh16 : zXR [(2, 2, 0, 3)] (1) (1000) h14 h16 := Ah16.2.1
                have zh16 : fld h16 2 2 = fld h14 2 2 + 1 := Ah16.2.2.1
                have Xh16 : zXR msx3 (3) (1174) h h16 := Xh14.tr (c2 := 3) (s2 := 1174) Qh16 (by decide +kernel) (by decide) (by decide)
                refine zwW_p [(15, 0, 0), (1, 0, 2)] (q := 68) (ls' := [(2, 1), (0, a), (0, b), (0, c)]) (st' := [(2, 1)]) (by decide +kernel) rfl ?_
                refine zwW_gc Ch16.1 (kd := 12) (bn := 2) (n := 13) (c := 2) (nx := 71) (by decide +kernel) ?_
                refine zwW_cm Ch16.1 (op := 60) (k' := 96) (n := 0) (kd := 0) (m := 3) (nx := 74) (r := 2) (tl := []) (st' := []) (by decide +kernel) rfl (by decide +kernel) rfl (x96_2 Ch16) ?_
                rintro v17 _ ⟨rfl, ev17⟩
                have bv17 := zLb_2 Ch16
                refine zwW_p [(0, 1, 0)] (q := 75) (ls' := [(2, 1), (0, a), (0, b), (0, c)]) (st' := [(0, 1), (0, v17)]) (by decide +kernel) rfl ?_
                refine zwW_sub (nx := 76) (by decide +kernel) (by first | omega | exact ⟨by omega, by omega⟩) ?_
                refine zwW_ret (nx := 77) (a := 0) (b := 0) (by decide +kernel) rfl (Or.inl rfl) ?_
                exact ⟨Ch16, Xh16.le (by decide) (by decide), by omega, by exact Or.inl ⟨by omega, by omega, by omega, by omega, by obtain ⟨rr, a1, a2, a3, a4⟩ := zNew C Ch14 Qh14 Ah16 (by decide) Nh14 Fh14_0 (by decide) rfl; have hv : v13 = fld h 2 2 := (by omega); exact ⟨_, zNewP Ch14 Ah16 Nh14 Fh14_0 rfl Fh14_1, rr, a1, a2, a3, fun j => by (rw [a4 j, hv]; try rfl)⟩⟩⟩
              · exfalso; omega
    · refine zwif_eq (q := 40) (nx := 19) (by decide +kernel) (fun c18 => ?_) (fun c18 => ?_)
      · refine zwW_p [(0, -1, 0)] (q := 41) (ls' := [(2, 1), (0, a), (0, b), (0, c)]) (st' := [(0, -1)]) (by decide +kernel) rfl ?_
        refine zwW_ret (nx := 42) (a := 0) (b := 0) (by decide +kernel) rfl (Or.inl rfl) ?_
        exact ⟨C, X.le (by decide) (by decide), by omega, by exact Or.inr ⟨by omega, by rfl, by omega⟩⟩
      · exfalso; omega
def msx5 : Zms := [(7, 7, 0, 64), (8, 8, 0, 64)]
-- WheelLand.road(III)Z
theorem x5 {sc : List Int} (h : Hp) (C : CI h) (a b c : Int) (q_a : -2147483648 ≤ a ∧ a ≤ 2147483647) (q_b : -2147483648 ≤ b ∧ b ≤ 2147483647) (q_c : -2147483648 ≤ c ∧ c ≤ 2147483647) (pW : zLd h) : zwC sc 6 5 [(2, 1), (0, a), (0, b), (0, c)] h (zwRt 0 (fun x g => CI g ∧ zXR msx5 (0) (0) h g ∧ (0 ≤ x ∧ x ≤ 1) ∧ (((x = 1) ∧ (0 ≤ a ∧ a < fld h 2 2 ∧ 0 ≤ b ∧ b < fld h 2 2 ∧ a ≠ b ∧ 1 ≤ c ∧ c ≤ 9) ∧ (zLd g ∧ zFw (zLa g) (zLe g) 8 ∧ ∀ p q : Nat, p < 8 → q < 8 → zLa g p q = if (p = a.toNat ∧ q = b.toNat) ∨ (p = b.toNat ∧ q = a.toNat) then c else zLa h p q)) ∨ ((x = 0) ∧ (g = h) ∧ (a < 0 ∨ fld h 2 2 ≤ a ∨ b < 0 ∨ fld h 2 2 ≤ b ∨ a = b ∨ c < 1 ∨ 9 < c))))) := by
  refine zwC_of (D := 5) 4 (by decide +kernel) rfl (ls := [(2, 1), (0, a), (0, b), (0, c)]) rfl ?_
  have X : zXR msx5 0 0 h h := zXR.rf _ _
  have b22 := zLb_2 C
  refine zwW_p [(1, 0, 2), (1, 1, 0)] (q := 2) (ls' := [(2, 1), (0, a), (0, b), (0, c)]) (st' := [(0, a), (2, 1)]) (by decide +kernel) rfl ?_
  refine zwW_cm C.1 (op := 60) (k' := 102) (n := 1) (kd := 12) (m := 13) (nx := 5) (r := 1) (tl := [(0, a)]) (st' := []) (by decide +kernel) rfl (by decide +kernel) rfl (x102 h C a (by omega)) ?_
  rintro v2 _ ⟨rfl, ⟨rfl, c1⟩ | ⟨Gv2, c1⟩⟩
  · refine zwnu_eq (q := 31) (nx := 8) (by decide +kernel) (by decide) (fun c3 => ?_) (fun c3 => ?_)
    · refine zwW_p [(0, 0, 0)] (q := 32) (ls' := [(2, 1), (0, a), (0, b), (0, c)]) (st' := [(0, 0)]) (by decide +kernel) rfl ?_
      refine zwW_ret (nx := 33) (a := 1) (b := 0) (by decide +kernel) rfl (Or.inr (Or.inl ⟨rfl, Or.inl rfl⟩)) ?_
      exact ⟨C, X.le (by decide) (by decide), by omega, by exact Or.inr ⟨by omega, by rfl, by omega⟩⟩
    · exfalso; omega
  · have lv2 := Gv2.1
    have ev2 := c1.2.2
    refine zwnu_eq (q := 31) (nx := 8) (by decide +kernel) (by omega) (fun c4 => ?_) (fun c4 => ?_)
    · exfalso; omega
    · refine zwW_p [(1, 0, 2), (1, 2, 0)] (q := 10) (ls' := [(2, 1), (0, a), (0, b), (0, c)]) (st' := [(0, b), (2, 1)]) (by decide +kernel) rfl ?_
      refine zwW_cm C.1 (op := 60) (k' := 102) (n := 1) (kd := 12) (m := 13) (nx := 13) (r := 1) (tl := [(0, b)]) (st' := []) (by decide +kernel) rfl (by decide +kernel) rfl (x102 h C b (by omega)) ?_
      rintro v6 _ ⟨rfl, ⟨rfl, c5⟩ | ⟨Gv6, c5⟩⟩
      · refine zwnu_eq (q := 31) (nx := 16) (by decide +kernel) (by decide) (fun c7 => ?_) (fun c7 => ?_)
        · refine zwW_p [(0, 0, 0)] (q := 32) (ls' := [(2, 1), (0, a), (0, b), (0, c)]) (st' := [(0, 0)]) (by decide +kernel) rfl ?_
          refine zwW_ret (nx := 33) (a := 1) (b := 0) (by decide +kernel) rfl (Or.inr (Or.inl ⟨rfl, Or.inl rfl⟩)) ?_
          exact ⟨C, X.le (by decide) (by decide), by omega, by exact Or.inr ⟨by omega, by rfl, by omega⟩⟩
        · exfalso; omega
      · have lv6 := Gv6.1
        have ev6 := c5.2.2
        refine zwnu_eq (q := 31) (nx := 16) (by decide +kernel) (by omega) (fun c8 => ?_) (fun c8 => ?_)
        · exfalso; omega
        · refine zwW_p [(1, 1, 0), (1, 2, 0)] (q := 18) (ls' := [(2, 1), (0, a), (0, b), (0, c)]) (st' := [(0, b), (0, a)]) (by decide +kernel) rfl ?_
          refine zwic_eq (q := 31) (nx := 21) (by decide +kernel) (fun c9 => ?_) (fun c9 => ?_)
          · refine zwW_p [(0, 0, 0)] (q := 32) (ls' := [(2, 1), (0, a), (0, b), (0, c)]) (st' := [(0, 0)]) (by decide +kernel) rfl ?_
            refine zwW_ret (nx := 33) (a := 1) (b := 0) (by decide +kernel) rfl (Or.inr (Or.inl ⟨rfl, Or.inl rfl⟩)) ?_
            exact ⟨C, X.le (by decide) (by decide), by omega, by exact Or.inr ⟨by omega, by rfl, by omega⟩⟩
          · refine zwW_p [(1, 3, 0), (0, 1, 0), (0, 9, 0)] (q := 25) (ls' := [(2, 1), (0, a), (0, b), (0, c)]) (st' := [(0, 9), (0, 1), (0, c)]) (by decide +kernel) rfl ?_
            refine zwW_cs (k' := 98) (n := 3) (nx := 28) (as := [(0, c), (0, 1), (0, 9)]) (st' := []) (by decide +kernel) rfl (x98 h C c 1 9 (by omega) (by omega) (by omega)) rfl ?_
            rintro x _ ⟨rfl, ⟨rfl, c10⟩ | ⟨rfl, c10⟩⟩
            · refine zwif_eq (q := 33) (nx := 31) (by decide +kernel) (fun c11 => ?_) (fun c11 => ?_)
              · exfalso; omega
              · refine zwW_p [(0, 0, 0)] (q := 32) (ls' := [(2, 1), (0, a), (0, b), (0, c)]) (st' := [(0, 0)]) (by decide +kernel) rfl ?_
                refine zwW_ret (nx := 33) (a := 1) (b := 0) (by decide +kernel) rfl (Or.inr (Or.inl ⟨rfl, Or.inl rfl⟩)) ?_
                exact ⟨C, X.le (by decide) (by decide), by omega, by exact Or.inr ⟨by omega, by rfl, by omega⟩⟩
            · refine zwif_eq (q := 33) (nx := 31) (by decide +kernel) (fun c12 => ?_) (fun c12 => ?_)
              · refine zwW_p [(1, 0, 2)] (q := 34) (ls' := [(2, 1), (0, a), (0, b), (0, c)]) (st' := [(2, 1)]) (by decide +kernel) rfl ?_
                refine zwW_gc C.1 (kd := 12) (bn := 6) (n := 13) (c := 6) (nx := 37) (by decide +kernel) ?_
                refine zwW_p [(1, 1, 0), (1, 2, 0), (1, 3, 0)] (q := 40) (ls' := [(2, 1), (0, a), (0, b), (0, c)]) (st' := [(0, c), (0, b), (0, a), (2, 6)]) (by decide +kernel) rfl ?_
                refine zwW_cmv C.1 (op := 60) (k' := 103) (n := 3) (kd := 8) (m := 2) (nx := 43) (r := 6) (tl := [(0, a), (0, b), (0, c)]) (st' := []) (by decide +kernel) rfl (by decide +kernel) rfl (x103 h C a b c (by omega) (by omega) (by omega) (by omega) (by omega) (by omega) (by omega) pW) ?_
                rintro h14 ⟨Ch14, Qh14, f13⟩
                have Xh14 : zXR msx5 (0) (0) h h14 := X.tr (c2 := 0) (s2 := 0) Qh14 (by decide +kernel) (by decide) (by decide)
                refine zwW_p [(0, 1, 0)] (q := 44) (ls' := [(2, 1), (0, a), (0, b), (0, c)]) (st' := [(0, 1)]) (by decide +kernel) rfl ?_
                refine zwW_ret (nx := 45) (a := 1) (b := 0) (by decide +kernel) rfl (Or.inr (Or.inl ⟨rfl, Or.inr rfl⟩)) ?_
                exact ⟨Ch14, Xh14.le (by decide) (by decide), by omega, by exact Or.inl ⟨by omega, by omega, by exact f13⟩⟩
              · exfalso; omega
-- WheelLand.far(II)I
theorem x7 {sc : List Int} (h : Hp) (C : CI h) (a b : Int) (q_a : -2147483648 ≤ a ∧ a ≤ 2147483647) (q_b : -2147483648 ≤ b ∧ b ≤ 2147483647) (pN : ∀ i : Nat, (i : Int) < fld h 2 2 → fld h (fld h (fld h 2 1) i) 0 = i) : zwC sc 6 7 [(2, 1), (0, a), (0, b)] h (zwRt 0 (fun x g => h = g ∧ (-2147483648 ≤ x ∧ x ≤ 2147483647) ∧ ((0 ≤ a ∧ a < fld h 2 2 ∧ 0 ≤ b ∧ b < fld h 2 2 ∧ x = zDa h a.toNat b.toNat) ∨ (x = -1 ∧ (a < 0 ∨ fld h 2 2 ≤ a ∨ b < 0 ∨ fld h 2 2 ≤ b))))) := by
  refine zwC_of (D := 5) 3 (by decide +kernel) rfl (ls := [(2, 1), (0, a), (0, b)]) rfl ?_
  have b22 := zLb_2 C
  refine zwW_p [(1, 0, 2), (1, 0, 2), (1, 1, 0)] (q := 3) (ls' := [(2, 1), (0, a), (0, b)]) (st' := [(0, a), (2, 1), (2, 1)]) (by decide +kernel) rfl ?_
  refine zwW_cm C.1 (op := 60) (k' := 102) (n := 1) (kd := 12) (m := 13) (nx := 6) (r := 1) (tl := [(0, a)]) (st' := [(2, 1)]) (by decide +kernel) rfl (by decide +kernel) rfl (x102 h C a (by omega)) ?_
  rintro v2 _ ⟨rfl, ⟨rfl, c1⟩ | ⟨Gv2, c1⟩⟩
  · refine zwW_p [(1, 0, 2), (1, 2, 0)] (q := 8) (ls' := [(2, 1), (0, a), (0, b)]) (st' := [(0, b), (2, 1), (2, 0), (2, 1)]) (by decide +kernel) rfl ?_
    refine zwW_cm C.1 (op := 60) (k' := 102) (n := 1) (kd := 12) (m := 13) (nx := 11) (r := 1) (tl := [(0, b)]) (st' := [(2, 0), (2, 1)]) (by decide +kernel) rfl (by decide +kernel) rfl (x102 h C b (by omega)) ?_
    rintro v4 _ ⟨rfl, ⟨rfl, c3⟩ | ⟨Gv4, c3⟩⟩
    · refine zwW_cm C.1 (op := 60) (k' := 105) (n := 2) (kd := 12) (m := 13) (nx := 14) (r := 1) (tl := [(2, 0), (2, 0)]) (st' := []) (by decide +kernel) rfl (by decide +kernel) rfl (x105 h C 0 0 (Or.inl rfl) (Or.inl rfl)) ?_
      rintro v5 _ ⟨rfl, f6, f7⟩
      refine zwW_ret (nx := 15) (a := 0) (b := 0) (by decide +kernel) rfl (Or.inl rfl) ?_
      exact ⟨rfl, by omega, by first | omega | (have n1 := pN a.toNat (by omega); have n2 := pN b.toNat (by omega); rw [← rfl] at n1; rw [← rfl] at n2; have q := f7.2 (by omega) (by omega) (by omega) (by omega) (by omega) (by omega); rw [show (fld h 0 0).toNat = a.toNat by omega, show (fld h 0 0).toNat = b.toNat by omega] at q; omega)⟩
    · have lv4 := Gv4.1
      have ev4 := c3.2.2
      refine zwW_cm C.1 (op := 60) (k' := 105) (n := 2) (kd := 12) (m := 13) (nx := 14) (r := 1) (tl := [(2, 0), (2, v4)]) (st' := []) (by decide +kernel) rfl (by decide +kernel) rfl (x105 h C 0 v4 (Or.inl rfl) (Or.inr Gv4)) ?_
      rintro v8 _ ⟨rfl, f9, f10⟩
      refine zwW_ret (nx := 15) (a := 0) (b := 0) (by decide +kernel) rfl (Or.inl rfl) ?_
      exact ⟨rfl, by omega, by first | omega | (have n1 := pN a.toNat (by omega); have n2 := pN b.toNat (by omega); rw [← ev4] at n1; rw [← rfl] at n2; have q := f10.2 (by omega) (by omega) (by omega) (by omega) (by omega) (by omega); rw [show (fld h v4 0).toNat = a.toNat by omega, show (fld h 0 0).toNat = b.toNat by omega] at q; omega)⟩
  · have lv2 := Gv2.1
    have ev2 := c1.2.2
    refine zwW_p [(1, 0, 2), (1, 2, 0)] (q := 8) (ls' := [(2, 1), (0, a), (0, b)]) (st' := [(0, b), (2, 1), (2, v2), (2, 1)]) (by decide +kernel) rfl ?_
    refine zwW_cm C.1 (op := 60) (k' := 102) (n := 1) (kd := 12) (m := 13) (nx := 11) (r := 1) (tl := [(0, b)]) (st' := [(2, v2), (2, 1)]) (by decide +kernel) rfl (by decide +kernel) rfl (x102 h C b (by omega)) ?_
    rintro v12 _ ⟨rfl, ⟨rfl, c11⟩ | ⟨Gv12, c11⟩⟩
    · refine zwW_cm C.1 (op := 60) (k' := 105) (n := 2) (kd := 12) (m := 13) (nx := 14) (r := 1) (tl := [(2, v2), (2, 0)]) (st' := []) (by decide +kernel) rfl (by decide +kernel) rfl (x105 h C v2 0 (Or.inr Gv2) (Or.inl rfl)) ?_
      rintro v13 _ ⟨rfl, f14, f15⟩
      refine zwW_ret (nx := 15) (a := 0) (b := 0) (by decide +kernel) rfl (Or.inl rfl) ?_
      exact ⟨rfl, by omega, by first | omega | (have n1 := pN a.toNat (by omega); have n2 := pN b.toNat (by omega); rw [← ev2] at n1; rw [← rfl] at n2; have q := f15.2 (by omega) (by omega) (by omega) (by omega) (by omega) (by omega); rw [show (fld h v2 0).toNat = a.toNat by omega, show (fld h 0 0).toNat = b.toNat by omega] at q; omega)⟩
    · have lv12 := Gv12.1
      have ev12 := c11.2.2
      refine zwW_cm C.1 (op := 60) (k' := 105) (n := 2) (kd := 12) (m := 13) (nx := 14) (r := 1) (tl := [(2, v2), (2, v12)]) (st' := []) (by decide +kernel) rfl (by decide +kernel) rfl (x105 h C v2 v12 (Or.inr Gv2) (Or.inr Gv12)) ?_
      rintro v16 _ ⟨rfl, f17, f18⟩
      refine zwW_ret (nx := 15) (a := 0) (b := 0) (by decide +kernel) rfl (Or.inl rfl) ?_
      exact ⟨rfl, by omega, by first | omega | (have n1 := pN a.toNat (by omega); have n2 := pN b.toNat (by omega); rw [← ev2] at n1; rw [← ev12] at n2; have q := f18.2 (by omega) (by omega) (by omega) (by omega) (by omega) (by omega); rw [show (fld h v2 0).toNat = a.toNat by omega, show (fld h v12 0).toNat = b.toNat by omega] at q; omega)⟩
def msx9 : Zms := [(3, 3, 0, 3)]
-- WheelLand.house(II)I
theorem x9 {sc : List Int} (h : Hp) (C : CI h) (a b : Int) (q_a : -2147483648 ≤ a ∧ a ≤ 2147483647) (q_b : -2147483648 ≤ b ∧ b ≤ 2147483647) (hl : h.length ≤ 999930000) : zwC sc 7 9 [(2, 1), (0, a), (0, b)] h (zwRt 0 (fun x g => CI g ∧ zXR msx9 (2) (1019) h g ∧ (-2147483648 ≤ x ∧ x ≤ 2147483647) ∧ (((x = fld h 3 2) ∧ (fld g 3 2 = fld h 3 2 + 1) ∧ (0 ≤ a ∧ a < fld h 2 2 ∧ 0 ≤ b ∧ b / 1000 ≤ 5 ∧ 1 ≤ b / 100 % 10 ∧ b / 10 % 10 ≤ 5 ∧ 1 ≤ b % 10 ∧ fld h 3 2 < 20 ∧ fld h 1 0 < 156) ∧ (∃ rr : Int, (365 < rr ∧ gH g rr) ∧ (∀ i : Nat, (i : Int) < fld h 3 2 → fld g (fld g 3 1) i = fld h (fld h 3 1) i) ∧ fld g (fld g 3 1) (fld h 3 2).toNat = rr ∧ (∀ j : Nat, fld g rr j = ([fld h 3 2, fld h (fld h 2 1) a.toNat, b / 1000, b / 100 % 10, b / 10 % 10, b % 10, 0, 10, 0, 0, 0, 0, 0, 0, 0, 0, 0, 0, 0] : List Int).getD j 0))) ∨ ((x = -1) ∧ (g = h) ∧ (a < 0 ∨ fld h 2 2 ≤ a ∨ b < 0 ∨ 5 < b / 1000 ∨ b / 100 % 10 < 1 ∨ 5 < b / 10 % 10 ∨ b % 10 < 1 ∨ 20 ≤ fld h 3 2 ∨ 156 ≤ fld h 1 0))))) := by
  refine zwC_of (D := 6) 4 (by decide +kernel) rfl (ls := [(2, 1), (0, a), (0, b), (9, 0)]) rfl ?_
  have X : zXR msx9 0 0 h h := zXR.rf _ _
  refine zwW_p [(1, 0, 2), (1, 1, 0)] (q := 2) (ls' := [(2, 1), (0, a), (0, b), (9, 0)]) (st' := [(0, a), (2, 1)]) (by decide +kernel) rfl ?_
  refine zwW_cm C.1 (op := 60) (k' := 102) (n := 1) (kd := 12) (m := 13) (nx := 5) (r := 1) (tl := [(0, a)]) (st' := []) (by decide +kernel) rfl (by decide +kernel) rfl (x102 h C a (by omega)) ?_
  rintro v2 _ ⟨rfl, ⟨rfl, c1⟩ | ⟨Gv2, c1⟩⟩
  · refine zwW_p [(2, 3, 2), (1, 3, 2)] (q := 7) (ls' := [(2, 1), (0, a), (0, b), (2, 0)]) (st' := [(2, 0)]) (by decide +kernel) rfl ?_
    refine zwnu_eq (q := 39) (nx := 10) (by decide +kernel) (by decide) (fun c3 => ?_) (fun c3 => ?_)
    · refine zwW_p [(0, -1, 0)] (q := 40) (ls' := [(2, 1), (0, a), (0, b), (2, 0)]) (st' := [(0, -1)]) (by decide +kernel) rfl ?_
      refine zwW_ret (nx := 41) (a := 0) (b := 0) (by decide +kernel) rfl (Or.inl rfl) ?_
      exact ⟨C, X.le (by decide) (by decide), by omega, by exact Or.inr ⟨by omega, by rfl, by omega⟩⟩
    · exfalso; omega
  · have lv2 := Gv2.1
    have ev2 := c1.2.2
    refine zwW_p [(2, 3, 2), (1, 3, 2)] (q := 7) (ls' := [(2, 1), (0, a), (0, b), (2, v2)]) (st' := [(2, v2)]) (by decide +kernel) rfl ?_
    refine zwnu_eq (q := 39) (nx := 10) (by decide +kernel) (by omega) (fun c4 => ?_) (fun c4 => ?_)
    · exfalso; omega
    · refine zwW_p [(1, 0, 2)] (q := 11) (ls' := [(2, 1), (0, a), (0, b), (2, v2)]) (st' := [(2, 1)]) (by decide +kernel) rfl ?_
      refine zwW_gc C.1 (kd := 12) (bn := 3) (n := 13) (c := 3) (nx := 14) (by decide +kernel) ?_
      refine zwW_cm C.1 (op := 60) (k' := 96) (n := 0) (kd := 0) (m := 3) (nx := 17) (r := 3) (tl := []) (st' := []) (by decide +kernel) rfl (by decide +kernel) rfl (x96_3 C) ?_
      rintro v5 _ ⟨rfl, ev5⟩
      have bv5 := zLb_3 C
      refine zwW_p [(0, 20, 0)] (q := 19) (ls' := [(2, 1), (0, a), (0, b), (2, v2)]) (st' := [(0, 20), (0, v5)]) (by decide +kernel) rfl ?_
      refine zwic_ge (q := 39) (nx := 22) (by decide +kernel) (fun c6 => ?_) (fun c6 => ?_)
      · refine zwW_p [(0, -1, 0)] (q := 40) (ls' := [(2, 1), (0, a), (0, b), (2, v2)]) (st' := [(0, -1)]) (by decide +kernel) rfl ?_
        refine zwW_ret (nx := 41) (a := 0) (b := 0) (by decide +kernel) rfl (Or.inl rfl) ?_
        exact ⟨C, X.le (by decide) (by decide), by omega, by exact Or.inr ⟨by omega, by rfl, by omega⟩⟩
      · refine zwW_p [(1, 0, 2)] (q := 23) (ls' := [(2, 1), (0, a), (0, b), (2, v2)]) (st' := [(2, 1)]) (by decide +kernel) rfl ?_
        refine zwW_gs C.1 (kd := 12) (bn := 0) (n := 13) (t := 0) (lo := 0) (hi := 156) (nx := 26) (by decide +kernel) ?_
        intro v7 ev7 lv7 uv7
        refine zwW_p [(0, 156, 0)] (q := 29) (ls' := [(2, 1), (0, a), (0, b), (2, v2)]) (st' := [(0, 156), (0, v7)]) (by decide +kernel) rfl ?_
        refine zwic_ge (q := 39) (nx := 32) (by decide +kernel) (fun c8 => ?_) (fun c8 => ?_)
        · refine zwW_p [(0, -1, 0)] (q := 40) (ls' := [(2, 1), (0, a), (0, b), (2, v2)]) (st' := [(0, -1)]) (by decide +kernel) rfl ?_
          refine zwW_ret (nx := 41) (a := 0) (b := 0) (by decide +kernel) rfl (Or.inl rfl) ?_
          exact ⟨C, X.le (by decide) (by decide), by omega, by exact Or.inr ⟨by omega, by rfl, by omega⟩⟩
        · refine zwW_p [(1, 2, 0)] (q := 33) (ls' := [(2, 1), (0, a), (0, b), (2, v2)]) (st' := [(0, b)]) (by decide +kernel) rfl ?_
          refine zwW_cs (k' := 107) (n := 1) (nx := 36) (as := [(0, b)]) (st' := []) (by decide +kernel) rfl (x107 h C b (by omega)) rfl ?_
          rintro x _ ⟨rfl, ⟨rfl, c9⟩ | ⟨rfl, c9⟩⟩
          · refine zwif_ne (q := 41) (nx := 39) (by decide +kernel) (fun c10 => ?_) (fun c10 => ?_)
            · refine zwW_p [(1, 0, 2)] (q := 42) (ls' := [(2, 1), (0, a), (0, b), (2, v2)]) (st' := [(2, 1)]) (by decide +kernel) rfl ?_
              refine zwW_gc C.1 (kd := 12) (bn := 3) (n := 13) (c := 3) (nx := 45) (by decide +kernel) ?_
              refine zwW_new (kd := 4) (n := 19) (nx := 48) (by decide +kernel) rfl rfl ?_
              rintro h11 r12 eh11 er12
              have Oh11 : zOld h h11 := by rw [eh11]; exact zOld.app _
              have Yh11 : zDy h11 := by rw [eh11]; exact C.2.1.app (fun x hx => by rw [List.eq_of_mem_replicate hx]; decide)
              have Ch11 : CI h11 := C.old Oh11 Yh11
              have Xh11 := Oh11.X C
              have th11_3_2 : fld h11 3 2 = fld h 3 2 := Xh11.f (a1 := 3) (a2 := 3) (j1 := 2) (j2 := 3) (by decide +kernel) (by first | decide | exact ⟨by decide, by decide⟩) (by first | decide | exact ⟨by decide, by decide⟩) (by first | decide | exact ⟨by decide, by decide⟩)
              have Gh11_0 : gV h11 v2 := Gv2.x Xh11
              refine zwW_p [(12, 0, 0), (1, 0, 2)] (q := 50) (ls' := [(2, 1), (0, a), (0, b), (2, v2)]) (st' := [(2, 1), (2, r12), (2, r12), (2, 3)]) (by decide +kernel) rfl ?_
              refine zwW_gc Ch11.1 (kd := 12) (bn := 3) (n := 13) (c := 3) (nx := 53) (by decide +kernel) ?_
              refine zwW_cm Ch11.1 (op := 60) (k' := 96) (n := 0) (kd := 0) (m := 3) (nx := 56) (r := 3) (tl := []) (st' := [(2, r12), (2, r12), (2, 3)]) (by decide +kernel) rfl (by decide +kernel) rfl (x96_3 Ch11) ?_
              rintro v13 _ ⟨rfl, ev13⟩
              have bv13 := zLb_3 Ch11
              refine zwW_p [(1, 3, 2), (1, 2, 0)] (q := 58) (ls' := [(2, 1), (0, a), (0, b), (2, v2)]) (st' := [(0, b), (2, v2), (0, v13), (2, r12), (2, r12), (2, 3)]) (by decide +kernel) rfl ?_
              subst er12 eh11
              refine zwW_cvv (op := 62) (k' := 108) (n := 3) (kd := 4) (m := 19) (nx := 61) (r := ((h.length + 1 : Nat) : Int)) (tl := [(0, v13), (2, v2), (0, b)]) (st' := [(2, ((h.length + 1 : Nat) : Int)), (2, 3)]) (by decide +kernel) rfl (by decide +kernel) (sh_new _ _) (x108 h C v13 v2 b (by omega) (by omega) Gv2) rfl ?_
              rintro h14 ⟨Ch14, Qh14, Nh14, Fh14_0⟩
              obtain ⟨nr12, err12⟩ : ∃ z, z = ((h.length + 1 : Nat) : Int) := ⟨_, rfl⟩
              rw [← err12] at Nh14 ⊢
              try rw [← err12] at Fh14_0
              have Xh14 : zXR msx9 (1) (19) h h14 := X.tr (c2 := 1) (s2 := 19) Qh14 (by decide +kernel) (by decide) (by decide)
              have Gh14_0 : gV h14 v2 := Gv2.x Qh14
              have th14_3_2 : fld h14 3 2 = fld h 3 2 := Qh14.f (a1 := 3) (a2 := 3) (j1 := 2) (j2 := 3) (by decide +kernel) (by first | decide | exact ⟨by decide, by decide⟩) (by first | decide | exact ⟨by decide, by decide⟩) (by first | decide | exact ⟨by decide, by decide⟩)
              have lnr12 := Nh14.1
              refine zwW_cm Ch14.1 (op := 60) (k' := 100) (n := 1) (kd := 0) (m := 3) (nx := 64) (r := 3) (tl := [(2, nr12)]) (st' := []) (by decide +kernel) rfl (by decide +kernel) rfl (x100_3 Ch14 Nh14 (by omega) (by have := Xh14.hl C Ch14 (by decide) hl; omega)) ?_
              rintro x h16 ⟨rfl, Ah16⟩
              have Ch16 := Ah16.1
              have Qh16 : zXR [(3, 3, 0, 3)] (1) (1000) h14 h16 := Ah16.2.1
              have zh16 : fld h16 3 2 = fld h14 3 2 + 1 := Ah16.2.2.1
              have Xh16 : zXR msx9 (2) (1019) h h16 := Xh14.tr (c2 := 2) (s2 := 1019) Qh16 (by decide +kernel) (by decide) (by decide)
              have Gh16_0 : gV h16 v2 := Gh14_0.x Qh16
              refine zwW_p [(15, 0, 0), (1, 0, 2)] (q := 66) (ls' := [(2, 1), (0, a), (0, b), (2, v2)]) (st' := [(2, 1)]) (by decide +kernel) rfl ?_
              refine zwW_gc Ch16.1 (kd := 12) (bn := 3) (n := 13) (c := 3) (nx := 69) (by decide +kernel) ?_
              refine zwW_cm Ch16.1 (op := 60) (k' := 96) (n := 0) (kd := 0) (m := 3) (nx := 72) (r := 3) (tl := []) (st' := []) (by decide +kernel) rfl (by decide +kernel) rfl (x96_3 Ch16) ?_
              rintro v17 _ ⟨rfl, ev17⟩
              have bv17 := zLb_3 Ch16
              refine zwW_p [(0, 1, 0)] (q := 73) (ls' := [(2, 1), (0, a), (0, b), (2, v2)]) (st' := [(0, 1), (0, v17)]) (by decide +kernel) rfl ?_
              refine zwW_sub (nx := 74) (by decide +kernel) (by first | omega | exact ⟨by omega, by omega⟩) ?_
              refine zwW_ret (nx := 75) (a := 0) (b := 0) (by decide +kernel) rfl (Or.inl rfl) ?_
              exact ⟨Ch16, Xh16.le (by decide) (by decide), by omega, by exact Or.inl ⟨by omega, by omega, by omega, by obtain ⟨rr, a1, a2, a3, a4⟩ := zNew C Ch14 Qh14 Ah16 (by decide) Nh14 Fh14_0 (by decide) rfl; have hv : v13 = fld h 3 2 := (by omega); exact ⟨rr, a1, a2, a3, fun j => by (rw [a4 j, hv, ev2]; try rfl)⟩⟩⟩
            · exfalso; omega
          · refine zwif_ne (q := 41) (nx := 39) (by decide +kernel) (fun c18 => ?_) (fun c18 => ?_)
            · exfalso; omega
            · refine zwW_p [(0, -1, 0)] (q := 40) (ls' := [(2, 1), (0, a), (0, b), (2, v2)]) (st' := [(0, -1)]) (by decide +kernel) rfl ?_
              refine zwW_ret (nx := 41) (a := 0) (b := 0) (by decide +kernel) rfl (Or.inl rfl) ?_
              exact ⟨C, X.le (by decide) (by decide), by omega, by exact Or.inr ⟨by omega, by rfl, by omega⟩⟩
def msx11 : Zms := [(1004, 1004, 11, 12), (1004, 1004, 12, 13), (1004, 1004, 13, 14)]
-- WheelLand.loom(III)Z
theorem x11 {sc : List Int} (h : Hp) (C : CI h) (a b c : Int) (q_a : -2147483648 ≤ a ∧ a ≤ 2147483647) (q_b : -2147483648 ≤ b ∧ b ≤ 2147483647) (q_c : -2147483648 ≤ c ∧ c ≤ 2147483647) : zwC sc 6 11 [(2, 1), (0, a), (0, b), (0, c)] h (zwRt 0 (fun x g => CI g ∧ zXR msx11 (0) (0) h g ∧ (0 ≤ x ∧ x ≤ 1) ∧ (((x = 1) ∧ (0 ≤ a ∧ a < fld h 3 2 ∧ fld h (fld h (fld h 3 1) a.toNat) 13 ≤ 0 ∧ 0 ≤ b ∧ 4 ≤ b / 100 ∧ b / 100 ≤ b % 100 ∧ b % 100 ≤ 60 ∧ 1 ≤ c ∧ c ≤ 40) ∧ (∀ (rr : Int) (nn : Nat), 365 < rr → sh h rr = some (4, nn) → fld g rr 11 = if rr = fld h (fld h 3 1) a.toNat then b / 100 else fld h rr 11) ∧ (∀ (rr : Int) (nn : Nat), 365 < rr → sh h rr = some (4, nn) → fld g rr 12 = if rr = fld h (fld h 3 1) a.toNat then b % 100 else fld h rr 12) ∧ (∀ (rr : Int) (nn : Nat), 365 < rr → sh h rr = some (4, nn) → fld g rr 13 = if rr = fld h (fld h 3 1) a.toNat then c else fld h rr 13)) ∨ ((x = 0) ∧ (g = h) ∧ (a < 0 ∨ fld h 3 2 ≤ a ∨ 0 < fld h (fld h (fld h 3 1) a.toNat) 13 ∨ b < 0 ∨ b / 100 < 4 ∨ b % 100 < b / 100 ∨ 60 < b % 100 ∨ c < 1 ∨ 40 < c))))) := by
  refine zwC_of (D := 5) 7 (by decide +kernel) rfl (ls := [(2, 1), (0, a), (0, b), (0, c), (9, 0), (9, 0), (9, 0)]) rfl ?_
  have X : zXR msx11 0 0 h h := zXR.rf _ _
  have T1 := zt100 (b := b) (by first | omega | exact ⟨by omega, by omega⟩)
  refine zwW_p [(1, 0, 2), (1, 1, 0)] (q := 2) (ls' := [(2, 1), (0, a), (0, b), (0, c), (9, 0), (9, 0), (9, 0)]) (st' := [(0, a), (2, 1)]) (by decide +kernel) rfl ?_
  refine zwW_cm C.1 (op := 60) (k' := 109) (n := 1) (kd := 12) (m := 13) (nx := 5) (r := 1) (tl := [(0, a)]) (st' := []) (by decide +kernel) rfl (by decide +kernel) rfl (x109 h C a (by omega)) ?_
  rintro v2 _ ⟨rfl, ⟨rfl, c1⟩ | ⟨Gv2, c1⟩⟩
  · refine zwW_p [(2, 4, 2), (1, 2, 0), (0, 100, 0)] (q := 10) (ls' := [(2, 1), (0, a), (0, b), (0, c), (2, 0), (9, 0), (9, 0)]) (st' := [(0, 100), (0, b)]) (by decide +kernel) rfl ?_
    refine zwW_tdw (nx := 11) (by decide +kernel) (by omega) ?_
    intro v3 ev3 lv3 uv3
    refine zwW_p [(2, 5, 0), (1, 2, 0), (0, 100, 0)] (q := 16) (ls' := [(2, 1), (0, a), (0, b), (0, c), (2, 0), (0, v3), (9, 0)]) (st' := [(0, 100), (0, b)]) (by decide +kernel) rfl ?_
    refine zwW_tmw (nx := 17) (by decide +kernel) (by first | omega | exact ⟨by omega, by omega⟩) (by omega) ?_
    intro v4 ev4 lv4 uv4
    refine zwW_p [(2, 6, 0), (1, 4, 2)] (q := 21) (ls' := [(2, 1), (0, a), (0, b), (0, c), (2, 0), (0, v3), (0, v4)]) (st' := [(2, 0)]) (by decide +kernel) rfl ?_
    refine zwnu_eq (q := 62) (nx := 24) (by decide +kernel) (by decide) (fun c5 => ?_) (fun c5 => ?_)
    · refine zwW_p [(0, 0, 0)] (q := 63) (ls' := [(2, 1), (0, a), (0, b), (0, c), (2, 0), (0, v3), (0, v4)]) (st' := [(0, 0)]) (by decide +kernel) rfl ?_
      refine zwW_ret (nx := 64) (a := 1) (b := 0) (by decide +kernel) rfl (Or.inr (Or.inl ⟨rfl, Or.inl rfl⟩)) ?_
      exact ⟨C, X.le (by decide) (by decide), by omega, by exact Or.inr ⟨by omega, by rfl, by first | omega | (rw [← rfl]; omega)⟩⟩
    · exfalso; omega
  · have lv2 := Gv2.1
    have ev2 := c1.2.2
    refine zwW_p [(2, 4, 2), (1, 2, 0), (0, 100, 0)] (q := 10) (ls' := [(2, 1), (0, a), (0, b), (0, c), (2, v2), (9, 0), (9, 0)]) (st' := [(0, 100), (0, b)]) (by decide +kernel) rfl ?_
    refine zwW_tdw (nx := 11) (by decide +kernel) (by omega) ?_
    intro v6 ev6 lv6 uv6
    refine zwW_p [(2, 5, 0), (1, 2, 0), (0, 100, 0)] (q := 16) (ls' := [(2, 1), (0, a), (0, b), (0, c), (2, v2), (0, v6), (9, 0)]) (st' := [(0, 100), (0, b)]) (by decide +kernel) rfl ?_
    refine zwW_tmw (nx := 17) (by decide +kernel) (by first | omega | exact ⟨by omega, by omega⟩) (by omega) ?_
    intro v7 ev7 lv7 uv7
    refine zwW_p [(2, 6, 0), (1, 4, 2)] (q := 21) (ls' := [(2, 1), (0, a), (0, b), (0, c), (2, v2), (0, v6), (0, v7)]) (st' := [(2, v2)]) (by decide +kernel) rfl ?_
    refine zwnu_eq (q := 62) (nx := 24) (by decide +kernel) (by omega) (fun c8 => ?_) (fun c8 => ?_)
    · exfalso; omega
    · refine zwW_p [(1, 4, 2)] (q := 26) (ls' := [(2, 1), (0, a), (0, b), (0, c), (2, v2), (0, v6), (0, v7)]) (st' := [(2, v2)]) (by decide +kernel) rfl ?_
      refine zwW_cv (op := 60) (k' := 110) (n := 0) (kd := 4) (m := 19) (nx := 29) (r := v2) (tl := []) (st' := []) (by decide +kernel) rfl (by decide +kernel) Gv2.2.1 (x110 h C v2 Gv2) rfl ?_
      rintro x _ ⟨rfl, ⟨rfl, c9⟩ | ⟨rfl, c9⟩⟩
      · refine zwif_ne (q := 62) (nx := 32) (by decide +kernel) (fun c10 => ?_) (fun c10 => ?_)
        · refine zwW_p [(0, 0, 0)] (q := 63) (ls' := [(2, 1), (0, a), (0, b), (0, c), (2, v2), (0, v6), (0, v7)]) (st' := [(0, 0)]) (by decide +kernel) rfl ?_
          refine zwW_ret (nx := 64) (a := 1) (b := 0) (by decide +kernel) rfl (Or.inr (Or.inl ⟨rfl, Or.inl rfl⟩)) ?_
          exact ⟨C, X.le (by decide) (by decide), by omega, by exact Or.inr ⟨by omega, by rfl, by first | omega | (rw [← ev2]; omega)⟩⟩
        · exfalso; omega
      · refine zwif_ne (q := 62) (nx := 32) (by decide +kernel) (fun c11 => ?_) (fun c11 => ?_)
        · exfalso; omega
        · refine zwW_p [(1, 5, 0), (0, 4, 0)] (q := 35) (ls' := [(2, 1), (0, a), (0, b), (0, c), (2, v2), (0, v6), (0, v7)]) (st' := [(0, 4), (0, v6)]) (by decide +kernel) rfl ?_
          refine zwic_lt (q := 62) (nx := 38) (by decide +kernel) (fun c12 => ?_) (fun c12 => ?_)
          · refine zwW_p [(0, 0, 0)] (q := 63) (ls' := [(2, 1), (0, a), (0, b), (0, c), (2, v2), (0, v6), (0, v7)]) (st' := [(0, 0)]) (by decide +kernel) rfl ?_
            refine zwW_ret (nx := 64) (a := 1) (b := 0) (by decide +kernel) rfl (Or.inr (Or.inl ⟨rfl, Or.inl rfl⟩)) ?_
            exact ⟨C, X.le (by decide) (by decide), by omega, by exact Or.inr ⟨by omega, by rfl, by first | omega | (rw [← ev2]; omega)⟩⟩
          · refine zwW_p [(1, 5, 0), (1, 6, 0)] (q := 42) (ls' := [(2, 1), (0, a), (0, b), (0, c), (2, v2), (0, v6), (0, v7)]) (st' := [(0, v7), (0, v6)]) (by decide +kernel) rfl ?_
            refine zwic_gt (q := 62) (nx := 45) (by decide +kernel) (fun c13 => ?_) (fun c13 => ?_)
            · refine zwW_p [(0, 0, 0)] (q := 63) (ls' := [(2, 1), (0, a), (0, b), (0, c), (2, v2), (0, v6), (0, v7)]) (st' := [(0, 0)]) (by decide +kernel) rfl ?_
              refine zwW_ret (nx := 64) (a := 1) (b := 0) (by decide +kernel) rfl (Or.inr (Or.inl ⟨rfl, Or.inl rfl⟩)) ?_
              exact ⟨C, X.le (by decide) (by decide), by omega, by exact Or.inr ⟨by omega, by rfl, by first | omega | (rw [← ev2]; omega)⟩⟩
            · refine zwW_p [(1, 6, 0), (0, 60, 0)] (q := 49) (ls' := [(2, 1), (0, a), (0, b), (0, c), (2, v2), (0, v6), (0, v7)]) (st' := [(0, 60), (0, v7)]) (by decide +kernel) rfl ?_
              refine zwic_gt (q := 62) (nx := 52) (by decide +kernel) (fun c14 => ?_) (fun c14 => ?_)
              · refine zwW_p [(0, 0, 0)] (q := 63) (ls' := [(2, 1), (0, a), (0, b), (0, c), (2, v2), (0, v6), (0, v7)]) (st' := [(0, 0)]) (by decide +kernel) rfl ?_
                refine zwW_ret (nx := 64) (a := 1) (b := 0) (by decide +kernel) rfl (Or.inr (Or.inl ⟨rfl, Or.inl rfl⟩)) ?_
                exact ⟨C, X.le (by decide) (by decide), by omega, by exact Or.inr ⟨by omega, by rfl, by first | omega | (rw [← ev2]; omega)⟩⟩
              · refine zwW_p [(1, 3, 0), (0, 1, 0), (0, 40, 0)] (q := 56) (ls' := [(2, 1), (0, a), (0, b), (0, c), (2, v2), (0, v6), (0, v7)]) (st' := [(0, 40), (0, 1), (0, c)]) (by decide +kernel) rfl ?_
                refine zwW_cs (k' := 98) (n := 3) (nx := 59) (as := [(0, c), (0, 1), (0, 40)]) (st' := []) (by decide +kernel) rfl (x98 h C c 1 40 (by omega) (by omega) (by omega)) rfl ?_
                rintro x _ ⟨rfl, ⟨rfl, c15⟩ | ⟨rfl, c15⟩⟩
                · refine zwif_eq (q := 64) (nx := 62) (by decide +kernel) (fun c16 => ?_) (fun c16 => ?_)
                  · exfalso; omega
                  · refine zwW_p [(0, 0, 0)] (q := 63) (ls' := [(2, 1), (0, a), (0, b), (0, c), (2, v2), (0, v6), (0, v7)]) (st' := [(0, 0)]) (by decide +kernel) rfl ?_
                    refine zwW_ret (nx := 64) (a := 1) (b := 0) (by decide +kernel) rfl (Or.inr (Or.inl ⟨rfl, Or.inl rfl⟩)) ?_
                    exact ⟨C, X.le (by decide) (by decide), by omega, by exact Or.inr ⟨by omega, by rfl, by first | omega | (rw [← ev2]; omega)⟩⟩
                · refine zwif_eq (q := 64) (nx := 62) (by decide +kernel) (fun c17 => ?_) (fun c17 => ?_)
                  · refine zwW_p [(1, 4, 2), (1, 5, 0)] (q := 68) (ls' := [(2, 1), (0, a), (0, b), (0, c), (2, v2), (0, v6), (0, v7)]) (st' := [(0, v6), (2, v2)]) (by decide +kernel) rfl ?_
                    refine zwX_pi C (kd := 4) (bn := 11) (n := 19) (nx := 71) (by decide +kernel) Gv2.2.1 Gv2.1 (by first | omega | exact ⟨by omega, by omega⟩) ?_
                    rintro h18 eh18 Ch18 Qh18
                    have Xh18 : zXR msx11 (0) (0) h h18 := X.tr (c2 := 0) (s2 := 0) Qh18 (by decide +kernel) (by decide) (by decide)
                    have Gh18_0 : gH h18 v2 := Gv2.x Qh18
                    have Yh18_4_11 : ∀ (rr : Int) (nn : Nat), 365 < rr → sh h rr = some (4, nn) → fld h18 rr 11 = (if rr = v2 then v6 else fld h rr 11) := by
                      intro rr nn z1 z2
                      by_cases zq : rr = v2
                      · rw [if_pos zq, zq, eh18]; exact fld_wr_eq Gv2.2.1 (by decide)
                      · rw [if_neg zq, eh18, fld_wr (Or.inl zq)]
                    have Yh18_4_12 : ∀ (rr : Int) (nn : Nat), 365 < rr → sh h rr = some (4, nn) → fld h18 rr 12 = fld h rr 12 := by
                      intro rr nn z1 z2
                      exact (Qh18.dy (k := 4) (j1 := 12) (j2 := 13) (by decide +kernel) z1 (X.1 _ _ z2) (by decide) (by first | decide | exact ⟨by decide, by decide⟩)).trans rfl
                    have Yh18_4_13 : ∀ (rr : Int) (nn : Nat), 365 < rr → sh h rr = some (4, nn) → fld h18 rr 13 = fld h rr 13 := by
                      intro rr nn z1 z2
                      exact (Qh18.dy (k := 4) (j1 := 13) (j2 := 14) (by decide +kernel) z1 (X.1 _ _ z2) (by decide) (by first | decide | exact ⟨by decide, by decide⟩)).trans rfl
                    refine zwW_p [(1, 4, 2), (1, 6, 0)] (q := 75) (ls' := [(2, 1), (0, a), (0, b), (0, c), (2, v2), (0, v6), (0, v7)]) (st' := [(0, v7), (2, v2)]) (by decide +kernel) rfl ?_
                    refine zwX_pi Ch18 (kd := 4) (bn := 12) (n := 19) (nx := 78) (by decide +kernel) Gh18_0.2.1 Gh18_0.1 (by first | omega | exact ⟨by omega, by omega⟩) ?_
                    rintro h19 eh19 Ch19 Qh19
                    have Xh19 : zXR msx11 (0) (0) h h19 := Xh18.tr (c2 := 0) (s2 := 0) Qh19 (by decide +kernel) (by decide) (by decide)
                    have Gh19_0 : gH h19 v2 := Gh18_0.x Qh19
                    have Yh19_4_11 : ∀ (rr : Int) (nn : Nat), 365 < rr → sh h rr = some (4, nn) → fld h19 rr 11 = (if rr = v2 then v6 else fld h rr 11) := by
                      intro rr nn z1 z2
                      exact (Qh19.dy (k := 4) (j1 := 11) (j2 := 12) (by decide +kernel) z1 (Xh18.1 _ _ z2) (by decide) (by first | decide | exact ⟨by decide, by decide⟩)).trans (Yh18_4_11 rr nn z1 z2)
                    have Yh19_4_12 : ∀ (rr : Int) (nn : Nat), 365 < rr → sh h rr = some (4, nn) → fld h19 rr 12 = (if rr = v2 then v7 else fld h rr 12) := by
                      intro rr nn z1 z2
                      by_cases zq : rr = v2
                      · rw [if_pos zq, zq, eh19]; exact fld_wr_eq Gh18_0.2.1 (by decide)
                      · rw [if_neg zq, eh19, fld_wr (Or.inl zq)]; exact (Yh18_4_12 rr nn z1 z2)
                    have Yh19_4_13 : ∀ (rr : Int) (nn : Nat), 365 < rr → sh h rr = some (4, nn) → fld h19 rr 13 = fld h rr 13 := by
                      intro rr nn z1 z2
                      exact (Qh19.dy (k := 4) (j1 := 13) (j2 := 14) (by decide +kernel) z1 (Xh18.1 _ _ z2) (by decide) (by first | decide | exact ⟨by decide, by decide⟩)).trans (Yh18_4_13 rr nn z1 z2)
                    refine zwW_p [(1, 4, 2), (1, 3, 0)] (q := 81) (ls' := [(2, 1), (0, a), (0, b), (0, c), (2, v2), (0, v6), (0, v7)]) (st' := [(0, c), (2, v2)]) (by decide +kernel) rfl ?_
                    refine zwX_pi Ch19 (kd := 4) (bn := 13) (n := 19) (nx := 84) (by decide +kernel) Gh19_0.2.1 Gh19_0.1 (by first | omega | exact ⟨by omega, by omega⟩) ?_
                    rintro h20 eh20 Ch20 Qh20
                    have Xh20 : zXR msx11 (0) (0) h h20 := Xh19.tr (c2 := 0) (s2 := 0) Qh20 (by decide +kernel) (by decide) (by decide)
                    have Gh20_0 : gH h20 v2 := Gh19_0.x Qh20
                    have Yh20_4_11 : ∀ (rr : Int) (nn : Nat), 365 < rr → sh h rr = some (4, nn) → fld h20 rr 11 = (if rr = v2 then v6 else fld h rr 11) := by
                      intro rr nn z1 z2
                      exact (Qh20.dy (k := 4) (j1 := 11) (j2 := 12) (by decide +kernel) z1 (Xh19.1 _ _ z2) (by decide) (by first | decide | exact ⟨by decide, by decide⟩)).trans (Yh19_4_11 rr nn z1 z2)
                    have Yh20_4_12 : ∀ (rr : Int) (nn : Nat), 365 < rr → sh h rr = some (4, nn) → fld h20 rr 12 = (if rr = v2 then v7 else fld h rr 12) := by
                      intro rr nn z1 z2
                      exact (Qh20.dy (k := 4) (j1 := 12) (j2 := 13) (by decide +kernel) z1 (Xh19.1 _ _ z2) (by decide) (by first | decide | exact ⟨by decide, by decide⟩)).trans (Yh19_4_12 rr nn z1 z2)
                    have Yh20_4_13 : ∀ (rr : Int) (nn : Nat), 365 < rr → sh h rr = some (4, nn) → fld h20 rr 13 = (if rr = v2 then c else fld h rr 13) := by
                      intro rr nn z1 z2
                      by_cases zq : rr = v2
                      · rw [if_pos zq, zq, eh20]; exact fld_wr_eq Gh19_0.2.1 (by decide)
                      · rw [if_neg zq, eh20, fld_wr (Or.inl zq)]; exact (Yh19_4_13 rr nn z1 z2)
                    refine zwW_p [(0, 1, 0)] (q := 85) (ls' := [(2, 1), (0, a), (0, b), (0, c), (2, v2), (0, v6), (0, v7)]) (st' := [(0, 1)]) (by decide +kernel) rfl ?_
                    refine zwW_ret (nx := 86) (a := 1) (b := 0) (by decide +kernel) rfl (Or.inr (Or.inl ⟨rfl, Or.inr rfl⟩)) ?_
                    exact ⟨Ch20, Xh20.le (by decide) (by decide), by omega, by exact Or.inl ⟨by omega, by first | omega | (rw [← ev2]; omega), by intro rr nn z1 z2; rw [← ev2]; first | exact Yh20_4_11 rr nn z1 z2 | (rw [Yh20_4_11 rr nn z1 z2]; split <;> first | omega | (split <;> omega)), by intro rr nn z1 z2; rw [← ev2]; first | exact Yh20_4_12 rr nn z1 z2 | (rw [Yh20_4_12 rr nn z1 z2]; split <;> first | omega | (split <;> omega)), by intro rr nn z1 z2; rw [← ev2]; first | exact Yh20_4_13 rr nn z1 z2 | (rw [Yh20_4_13 rr nn z1 z2]; split <;> first | omega | (split <;> omega))⟩⟩
                  · exfalso; omega
def msx13 : Zms := [(1004, 1004, 7, 8)]
-- WheelLand.aim(II)Z
theorem x13 {sc : List Int} (h : Hp) (C : CI h) (a b : Int) (q_a : -2147483648 ≤ a ∧ a ≤ 2147483647) (q_b : -2147483648 ≤ b ∧ b ≤ 2147483647) : zwC sc 6 13 [(2, 1), (0, a), (0, b)] h (zwRt 0 (fun x g => CI g ∧ zXR msx13 (0) (0) h g ∧ (0 ≤ x ∧ x ≤ 1) ∧ (((x = 1) ∧ (0 ≤ a ∧ a < fld h 3 2 ∧ 4 ≤ b ∧ b ≤ 60) ∧ (∀ (rr : Int) (nn : Nat), 365 < rr → sh h rr = some (4, nn) → fld g rr 7 = if rr = fld h (fld h 3 1) a.toNat then b else fld h rr 7)) ∨ ((x = 0) ∧ (g = h) ∧ (a < 0 ∨ fld h 3 2 ≤ a ∨ b < 4 ∨ 60 < b))))) := by
  refine zwC_of (D := 5) 4 (by decide +kernel) rfl (ls := [(2, 1), (0, a), (0, b), (9, 0)]) rfl ?_
  have X : zXR msx13 0 0 h h := zXR.rf _ _
  refine zwW_p [(1, 0, 2), (1, 1, 0)] (q := 2) (ls' := [(2, 1), (0, a), (0, b), (9, 0)]) (st' := [(0, a), (2, 1)]) (by decide +kernel) rfl ?_
  refine zwW_cm C.1 (op := 60) (k' := 109) (n := 1) (kd := 12) (m := 13) (nx := 5) (r := 1) (tl := [(0, a)]) (st' := []) (by decide +kernel) rfl (by decide +kernel) rfl (x109 h C a (by omega)) ?_
  rintro v2 _ ⟨rfl, ⟨rfl, c1⟩ | ⟨Gv2, c1⟩⟩
  · refine zwW_p [(2, 3, 2), (1, 3, 2)] (q := 7) (ls' := [(2, 1), (0, a), (0, b), (2, 0)]) (st' := [(2, 0)]) (by decide +kernel) rfl ?_
    refine zwnu_eq (q := 20) (nx := 10) (by decide +kernel) (by decide) (fun c3 => ?_) (fun c3 => ?_)
    · refine zwW_p [(0, 0, 0)] (q := 21) (ls' := [(2, 1), (0, a), (0, b), (2, 0)]) (st' := [(0, 0)]) (by decide +kernel) rfl ?_
      refine zwW_ret (nx := 22) (a := 1) (b := 0) (by decide +kernel) rfl (Or.inr (Or.inl ⟨rfl, Or.inl rfl⟩)) ?_
      exact ⟨C, X.le (by decide) (by decide), by omega, by exact Or.inr ⟨by omega, by rfl, by omega⟩⟩
    · exfalso; omega
  · have lv2 := Gv2.1
    have ev2 := c1.2.2
    refine zwW_p [(2, 3, 2), (1, 3, 2)] (q := 7) (ls' := [(2, 1), (0, a), (0, b), (2, v2)]) (st' := [(2, v2)]) (by decide +kernel) rfl ?_
    refine zwnu_eq (q := 20) (nx := 10) (by decide +kernel) (by omega) (fun c4 => ?_) (fun c4 => ?_)
    · exfalso; omega
    · refine zwW_p [(1, 2, 0), (0, 4, 0), (0, 60, 0)] (q := 14) (ls' := [(2, 1), (0, a), (0, b), (2, v2)]) (st' := [(0, 60), (0, 4), (0, b)]) (by decide +kernel) rfl ?_
      refine zwW_cs (k' := 98) (n := 3) (nx := 17) (as := [(0, b), (0, 4), (0, 60)]) (st' := []) (by decide +kernel) rfl (x98 h C b 4 60 (by omega) (by omega) (by omega)) rfl ?_
      rintro x _ ⟨rfl, ⟨rfl, c5⟩ | ⟨rfl, c5⟩⟩
      · refine zwif_eq (q := 22) (nx := 20) (by decide +kernel) (fun c6 => ?_) (fun c6 => ?_)
        · exfalso; omega
        · refine zwW_p [(0, 0, 0)] (q := 21) (ls' := [(2, 1), (0, a), (0, b), (2, v2)]) (st' := [(0, 0)]) (by decide +kernel) rfl ?_
          refine zwW_ret (nx := 22) (a := 1) (b := 0) (by decide +kernel) rfl (Or.inr (Or.inl ⟨rfl, Or.inl rfl⟩)) ?_
          exact ⟨C, X.le (by decide) (by decide), by omega, by exact Or.inr ⟨by omega, by rfl, by omega⟩⟩
      · refine zwif_eq (q := 22) (nx := 20) (by decide +kernel) (fun c7 => ?_) (fun c7 => ?_)
        · refine zwW_p [(1, 3, 2), (1, 2, 0)] (q := 24) (ls' := [(2, 1), (0, a), (0, b), (2, v2)]) (st' := [(0, b), (2, v2)]) (by decide +kernel) rfl ?_
          refine zwX_pi C (kd := 4) (bn := 7) (n := 19) (nx := 27) (by decide +kernel) Gv2.2.1 Gv2.1 (by first | omega | exact ⟨by omega, by omega⟩) ?_
          rintro h8 eh8 Ch8 Qh8
          have Xh8 : zXR msx13 (0) (0) h h8 := X.tr (c2 := 0) (s2 := 0) Qh8 (by decide +kernel) (by decide) (by decide)
          have Gh8_0 : gH h8 v2 := Gv2.x Qh8
          have Yh8_4_7 : ∀ (rr : Int) (nn : Nat), 365 < rr → sh h rr = some (4, nn) → fld h8 rr 7 = (if rr = v2 then b else fld h rr 7) := by
            intro rr nn z1 z2
            by_cases zq : rr = v2
            · rw [if_pos zq, zq, eh8]; exact fld_wr_eq Gv2.2.1 (by decide)
            · rw [if_neg zq, eh8, fld_wr (Or.inl zq)]
          refine zwW_p [(0, 1, 0)] (q := 28) (ls' := [(2, 1), (0, a), (0, b), (2, v2)]) (st' := [(0, 1)]) (by decide +kernel) rfl ?_
          refine zwW_ret (nx := 29) (a := 1) (b := 0) (by decide +kernel) rfl (Or.inr (Or.inl ⟨rfl, Or.inr rfl⟩)) ?_
          exact ⟨Ch8, Xh8.le (by decide) (by decide), by omega, by exact Or.inl ⟨by omega, by omega, by intro rr nn z1 z2; rw [← ev2]; first | exact Yh8_4_7 rr nn z1 z2 | (rw [Yh8_4_7 rr nn z1 z2]; split <;> first | omega | (split <;> omega))⟩⟩
        · exfalso; omega
def msx15 : Zms := [(1004, 1004, 6, 7)]
-- WheelLand.coins(II)I
theorem x15 {sc : List Int} (h : Hp) (C : CI h) (a b : Int) (q_a : -2147483648 ≤ a ∧ a ≤ 2147483647) (q_b : -2147483648 ≤ b ∧ b ≤ 2147483647) : zwC sc 6 15 [(2, 1), (0, a), (0, b)] h (zwRt 0 (fun x g => CI g ∧ zXR msx15 (0) (0) h g ∧ (-2147483648 ≤ x ∧ x ≤ 2147483647))) := by
  refine zwC_of (D := 5) 4 (by decide +kernel) rfl (ls := [(2, 1), (0, a), (0, b), (9, 0)]) rfl ?_
  have X : zXR msx15 0 0 h h := zXR.rf _ _
  refine zwW_p [(1, 0, 2), (1, 1, 0)] (q := 2) (ls' := [(2, 1), (0, a), (0, b), (9, 0)]) (st' := [(0, a), (2, 1)]) (by decide +kernel) rfl ?_
  refine zwW_cm C.1 (op := 60) (k' := 109) (n := 1) (kd := 12) (m := 13) (nx := 5) (r := 1) (tl := [(0, a)]) (st' := []) (by decide +kernel) rfl (by decide +kernel) rfl (x109 h C a (by omega)) ?_
  rintro v2 _ ⟨rfl, ⟨rfl, c1⟩ | ⟨Gv2, c1⟩⟩
  · refine zwW_p [(2, 3, 2), (1, 3, 2)] (q := 7) (ls' := [(2, 1), (0, a), (0, b), (2, 0)]) (st' := [(2, 0)]) (by decide +kernel) rfl ?_
    refine zwnu_eq (q := 23) (nx := 10) (by decide +kernel) (by decide) (fun c3 => ?_) (fun c3 => ?_)
    · refine zwW_p [(0, -2147483648, 0)] (q := 25) (ls' := [(2, 1), (0, a), (0, b), (2, 0)]) (st' := [(0, -2147483648)]) (by decide +kernel) rfl ?_
      refine zwW_ret (nx := 26) (a := 0) (b := 0) (by decide +kernel) rfl (Or.inl rfl) ?_
      exact ⟨C, X.le (by decide) (by decide), by omega⟩
    · exfalso; omega
  · have lv2 := Gv2.1
    have ev2 := c1.2.2
    refine zwW_p [(2, 3, 2), (1, 3, 2)] (q := 7) (ls' := [(2, 1), (0, a), (0, b), (2, v2)]) (st' := [(2, v2)]) (by decide +kernel) rfl ?_
    refine zwnu_eq (q := 23) (nx := 10) (by decide +kernel) (by omega) (fun c4 => ?_) (fun c4 => ?_)
    · exfalso; omega
    · refine zwW_p [(1, 2, 0), (0, -9999, 0), (0, 9999, 0)] (q := 17) (ls' := [(2, 1), (0, a), (0, b), (2, v2)]) (st' := [(0, 9999), (0, -9999), (0, b)]) (by decide +kernel) rfl ?_
      refine zwW_cs (k' := 98) (n := 3) (nx := 20) (as := [(0, b), (0, -9999), (0, 9999)]) (st' := []) (by decide +kernel) rfl (x98 h C b (-9999) 9999 (by omega) (by omega) (by omega)) rfl ?_
      rintro x _ ⟨rfl, ⟨rfl, c5⟩ | ⟨rfl, c5⟩⟩
      · refine zwif_eq (q := 26) (nx := 23) (by decide +kernel) (fun c6 => ?_) (fun c6 => ?_)
        · exfalso; omega
        · refine zwW_p [(0, -2147483648, 0)] (q := 25) (ls' := [(2, 1), (0, a), (0, b), (2, v2)]) (st' := [(0, -2147483648)]) (by decide +kernel) rfl ?_
          refine zwW_ret (nx := 26) (a := 0) (b := 0) (by decide +kernel) rfl (Or.inl rfl) ?_
          exact ⟨C, X.le (by decide) (by decide), by omega⟩
      · refine zwif_eq (q := 26) (nx := 23) (by decide +kernel) (fun c7 => ?_) (fun c7 => ?_)
        · refine zwW_p [(1, 3, 2), (12, 0, 0)] (q := 28) (ls' := [(2, 1), (0, a), (0, b), (2, v2)]) (st' := [(2, v2), (2, v2)]) (by decide +kernel) rfl ?_
          refine zwX_gi C (kd := 4) (bn := 6) (n := 19) (nx := 31) (by decide +kernel) Gv2.2.1 Gv2.1 rfl ?_
          intro v8 ev8 lv8 uv8
          refine zwW_p [(1, 2, 0)] (q := 32) (ls' := [(2, 1), (0, a), (0, b), (2, v2)]) (st' := [(0, b), (0, v8), (2, v2)]) (by decide +kernel) rfl ?_
          refine zwW_adw (nx := 33) (by decide +kernel) ?_
          intro v9 ev9 lv9 uv9
          have Ev9 : v9 = w32 ((fld h v2 6) + b) := by rw [ev9, ev8]
          refine zwX_pi C (kd := 4) (bn := 6) (n := 19) (nx := 36) (by decide +kernel) Gv2.2.1 Gv2.1 (by first | omega | exact ⟨by omega, by omega⟩) ?_
          rintro h10 eh10 Ch10 Qh10
          have Xh10 : zXR msx15 (0) (0) h h10 := X.tr (c2 := 0) (s2 := 0) Qh10 (by decide +kernel) (by decide) (by decide)
          have Gh10_0 : gH h10 v2 := Gv2.x Qh10
          refine zwW_p [(1, 3, 2)] (q := 37) (ls' := [(2, 1), (0, a), (0, b), (2, v2)]) (st' := [(2, v2)]) (by decide +kernel) rfl ?_
          refine zwX_gi Ch10 (kd := 4) (bn := 6) (n := 19) (nx := 40) (by decide +kernel) Gh10_0.2.1 Gh10_0.1 rfl ?_
          intro v11 ev11 lv11 uv11
          have wv11 : v11 = v9 := by rw [ev11, eh10]; exact fld_wr_eq Gv2.2.1 (by decide)
          refine zwW_ret (nx := 41) (a := 0) (b := 0) (by decide +kernel) rfl (Or.inl rfl) ?_
          exact ⟨Ch10, Xh10.le (by decide) (by decide), by omega⟩
        · exfalso; omega
def msx17 : Zms := [(1011, 1011, 3, 4)]
-- WheelLand.cotton(II)I
theorem x17 {sc : List Int} (h : Hp) (C : CI h) (a b : Int) (q_a : -2147483648 ≤ a ∧ a ≤ 2147483647) (q_b : -2147483648 ≤ b ∧ b ≤ 2147483647) : zwC sc 6 17 [(2, 1), (0, a), (0, b)] h (zwRt 0 (fun x g => CI g ∧ zXR msx17 (0) (0) h g ∧ (-2147483648 ≤ x ∧ x ≤ 2147483647))) := by
  refine zwC_of (D := 5) 4 (by decide +kernel) rfl (ls := [(2, 1), (0, a), (0, b), (9, 0)]) rfl ?_
  have X : zXR msx17 0 0 h h := zXR.rf _ _
  refine zwW_p [(1, 0, 2), (1, 1, 0)] (q := 2) (ls' := [(2, 1), (0, a), (0, b), (9, 0)]) (st' := [(0, a), (2, 1)]) (by decide +kernel) rfl ?_
  refine zwW_cm C.1 (op := 60) (k' := 102) (n := 1) (kd := 12) (m := 13) (nx := 5) (r := 1) (tl := [(0, a)]) (st' := []) (by decide +kernel) rfl (by decide +kernel) rfl (x102 h C a (by omega)) ?_
  rintro v2 _ ⟨rfl, ⟨rfl, c1⟩ | ⟨Gv2, c1⟩⟩
  · refine zwW_p [(2, 3, 2), (1, 3, 2)] (q := 7) (ls' := [(2, 1), (0, a), (0, b), (2, 0)]) (st' := [(2, 0)]) (by decide +kernel) rfl ?_
    refine zwnu_eq (q := 33) (nx := 10) (by decide +kernel) (by decide) (fun c3 => ?_) (fun c3 => ?_)
    · refine zwW_p [(0, -1, 0)] (q := 34) (ls' := [(2, 1), (0, a), (0, b), (2, 0)]) (st' := [(0, -1)]) (by decide +kernel) rfl ?_
      refine zwW_ret (nx := 35) (a := 0) (b := 0) (by decide +kernel) rfl (Or.inl rfl) ?_
      exact ⟨C, X.le (by decide) (by decide), by omega⟩
    · exfalso; omega
  · have lv2 := Gv2.1
    have ev2 := c1.2.2
    refine zwW_p [(2, 3, 2), (1, 3, 2)] (q := 7) (ls' := [(2, 1), (0, a), (0, b), (2, v2)]) (st' := [(2, v2)]) (by decide +kernel) rfl ?_
    refine zwnu_eq (q := 33) (nx := 10) (by decide +kernel) (by omega) (fun c4 => ?_) (fun c4 => ?_)
    · exfalso; omega
    · refine zwW_p [(1, 2, 0), (0, 1, 0), (0, 999, 0)] (q := 15) (ls' := [(2, 1), (0, a), (0, b), (2, v2)]) (st' := [(0, 999), (0, 1), (0, b)]) (by decide +kernel) rfl ?_
      refine zwW_cs (k' := 98) (n := 3) (nx := 18) (as := [(0, b), (0, 1), (0, 999)]) (st' := []) (by decide +kernel) rfl (x98 h C b 1 999 (by omega) (by omega) (by omega)) rfl ?_
      rintro x _ ⟨rfl, ⟨rfl, c5⟩ | ⟨rfl, c5⟩⟩
      · refine zwif_ne (q := 33) (nx := 21) (by decide +kernel) (fun c6 => ?_) (fun c6 => ?_)
        · refine zwW_p [(0, -1, 0)] (q := 34) (ls' := [(2, 1), (0, a), (0, b), (2, v2)]) (st' := [(0, -1)]) (by decide +kernel) rfl ?_
          refine zwW_ret (nx := 35) (a := 0) (b := 0) (by decide +kernel) rfl (Or.inl rfl) ?_
          exact ⟨C, X.le (by decide) (by decide), by omega⟩
        · exfalso; omega
      · refine zwif_ne (q := 33) (nx := 21) (by decide +kernel) (fun c7 => ?_) (fun c7 => ?_)
        · exfalso; omega
        · refine zwW_p [(1, 3, 2)] (q := 22) (ls' := [(2, 1), (0, a), (0, b), (2, v2)]) (st' := [(2, v2)]) (by decide +kernel) rfl ?_
          refine zwX_gi C (kd := 11) (bn := 3) (n := 17) (nx := 25) (by decide +kernel) Gv2.2.1 Gv2.1 rfl ?_
          intro v8 ev8 lv8 uv8
          refine zwW_p [(1, 2, 0)] (q := 26) (ls' := [(2, 1), (0, a), (0, b), (2, v2)]) (st' := [(0, b), (0, v8)]) (by decide +kernel) rfl ?_
          refine zwW_adw (nx := 27) (by decide +kernel) ?_
          intro v9 ev9 lv9 uv9
          have Ev9 : v9 = w32 ((fld h v2 3) + b) := by rw [ev9, ev8]
          refine zwW_p [(0, 9999, 0)] (q := 30) (ls' := [(2, 1), (0, a), (0, b), (2, v2)]) (st' := [(0, 9999), (0, v9)]) (by decide +kernel) rfl ?_
          refine zwic_le (q := 35) (nx := 33) (by decide +kernel) (fun c10 => ?_) (fun c10 => ?_)
          · refine zwW_p [(1, 3, 2), (12, 0, 0)] (q := 37) (ls' := [(2, 1), (0, a), (0, b), (2, v2)]) (st' := [(2, v2), (2, v2)]) (by decide +kernel) rfl ?_
            refine zwX_gi C (kd := 11) (bn := 3) (n := 17) (nx := 40) (by decide +kernel) Gv2.2.1 Gv2.1 rfl ?_
            intro v11 ev11 lv11 uv11
            refine zwW_p [(1, 2, 0)] (q := 41) (ls' := [(2, 1), (0, a), (0, b), (2, v2)]) (st' := [(0, b), (0, v11), (2, v2)]) (by decide +kernel) rfl ?_
            refine zwW_adw (nx := 42) (by decide +kernel) ?_
            intro v12 ev12 lv12 uv12
            have Ev12 : v12 = w32 ((fld h v2 3) + b) := by rw [ev12, ev11]
            refine zwX_pi C (kd := 11) (bn := 3) (n := 17) (nx := 45) (by decide +kernel) Gv2.2.1 Gv2.1 (by first | omega | exact ⟨by omega, by omega⟩) ?_
            rintro h13 eh13 Ch13 Qh13
            have Xh13 : zXR msx17 (0) (0) h h13 := X.tr (c2 := 0) (s2 := 0) Qh13 (by decide +kernel) (by decide) (by decide)
            have Gh13_0 : gV h13 v2 := Gv2.x Qh13
            refine zwW_p [(1, 3, 2)] (q := 46) (ls' := [(2, 1), (0, a), (0, b), (2, v2)]) (st' := [(2, v2)]) (by decide +kernel) rfl ?_
            refine zwX_gi Ch13 (kd := 11) (bn := 3) (n := 17) (nx := 49) (by decide +kernel) Gh13_0.2.1 Gh13_0.1 rfl ?_
            intro v14 ev14 lv14 uv14
            have wv14 : v14 = v12 := by rw [ev14, eh13]; exact fld_wr_eq Gv2.2.1 (by decide)
            refine zwW_ret (nx := 50) (a := 0) (b := 0) (by decide +kernel) rfl (Or.inl rfl) ?_
            exact ⟨Ch13, Xh13.le (by decide) (by decide), by omega⟩
          · refine zwW_p [(0, -1, 0)] (q := 34) (ls' := [(2, 1), (0, a), (0, b), (2, v2)]) (st' := [(0, -1)]) (by decide +kernel) rfl ?_
            refine zwW_ret (nx := 35) (a := 0) (b := 0) (by decide +kernel) rfl (Or.inl rfl) ?_
            exact ⟨C, X.le (by decide) (by decide), by omega⟩
def msx19 : Zms := [(1, 1, 0, 1), (1, 1, 1, 2), (4, 4, 0, 3), (17, 17, 0, 13), (18, 18, 0, 400), (34, 34, 2, 3), (35, 35, 0, 936), (36, 36, 0, 8), (1004, 1004, 6, 7), (1004, 1004, 8, 9), (1004, 1004, 9, 10), (1004, 1004, 10, 11), (1004, 1004, 14, 15), (1004, 1004, 15, 16), (1004, 1004, 18, 19), (1011, 1011, 3, 4), (1011, 1011, 4, 5), (1011, 1011, 5, 6), (1011, 1011, 6, 7), (1011, 1011, 7, 8), (1011, 1011, 9, 10), (1011, 1011, 10, 11), (1011, 1011, 13, 14), (1011, 1011, 14, 15), (1011, 1011, 15, 16), (1020, 1020, 0, 100000)]
-- WheelLand.go(I)I
theorem x19 {sc : List Int} (h : Hp) (C : CI h) (a : Int) (q_a : -2147483648 ≤ a ∧ a ≤ 2147483647) (hl : h.length ≤ 999910000) : zwC sc 9 19 [(2, 1), (0, a)] h (zwRt 0 (fun x g => CI g ∧ zXR msx19 (0) (0) h g ∧ (-2147483648 ≤ x ∧ x ≤ 2147483647) ∧ ((0 ≤ a ∧ a ≤ 26 ∧ x = min 156 (fld h 1 0 + a) ∧ fld g 1 0 = x) ∨ (x = -1 ∧ fld g 1 0 = fld h 1 0 ∧ (a < 0 ∨ 26 < a))))) := by
  refine zwC_of (D := 8) 3 (by decide +kernel) rfl (ls := [(2, 1), (0, a), (9, 0)]) rfl ?_
  have X : zXR msx19 0 0 h h := zXR.rf _ _
  refine zwW_p [(1, 1, 0), (0, 0, 0), (0, 26, 0)] (q := 4) (ls' := [(2, 1), (0, a), (9, 0)]) (st' := [(0, 26), (0, 0), (0, a)]) (by decide +kernel) rfl ?_
  refine zwW_cs (k' := 98) (n := 3) (nx := 7) (as := [(0, a), (0, 0), (0, 26)]) (st' := []) (by decide +kernel) rfl (x98 h C a 0 26 (by omega) (by omega) (by omega)) rfl ?_
  rintro x _ ⟨rfl, ⟨rfl, c1⟩ | ⟨rfl, c1⟩⟩
  · refine zwif_eq (q := 12) (nx := 10) (by decide +kernel) (fun c2 => ?_) (fun c2 => ?_)
    · exfalso; omega
    · refine zwW_p [(0, -1, 0)] (q := 11) (ls' := [(2, 1), (0, a), (9, 0)]) (st' := [(0, -1)]) (by decide +kernel) rfl ?_
      refine zwW_ret (nx := 12) (a := 0) (b := 0) (by decide +kernel) rfl (Or.inl rfl) ?_
      exact ⟨C, X.le (by decide) (by decide), by omega, by omega⟩
  · refine zwif_eq (q := 12) (nx := 10) (by decide +kernel) (fun c3 => ?_) (fun c3 => ?_)
    · refine zwW_p [(0, 0, 0), (2, 2, 0)] (q := 14) (ls' := [(2, 1), (0, a), (0, 0)]) (st' := []) (by decide +kernel) rfl ?_
      have L4 : ∀ (n : Nat) (v2L4 : Int) (hL4 : Hp), n = ((1000 - v2L4)).toNat → (v2L4 ≤ a) → (fld hL4 1 0 = fld h 1 0 + v2L4) → (0 ≤ v2L4 ∧ v2L4 ≤ 26) → CI hL4 → zXR msx19 (0) (0) h hL4 → zwW sc (8) 19 14 [(2, 1), (0, a), (0, v2L4)] [] hL4 (zwRt 0 (fun x g => CI g ∧ zXR msx19 (0) (0) h g ∧ (-2147483648 ≤ x ∧ x ≤ 2147483647) ∧ ((0 ≤ a ∧ a ≤ 26 ∧ x = min 156 (fld h 1 0 + a) ∧ fld g 1 0 = x) ∨ (x = -1 ∧ fld g 1 0 = fld h 1 0 ∧ (a < 0 ∨ 26 < a))))) := by
        intro n
        induction n using Nat.strongRecOn with
        | ind n IHL4 =>
          intro v2L4 hL4 hnL4 iL4_0 iL4_1 iL4_2 ChL4 XhL4
          refine zwW_p [(1, 2, 0), (1, 1, 0)] (q := 16) (ls' := [(2, 1), (0, a), (0, v2L4)]) (st' := [(0, a), (0, v2L4)]) (by decide +kernel) rfl ?_
          refine zwic_ge (q := 39) (nx := 19) (by decide +kernel) (fun c5 => ?_) (fun c5 => ?_)
          · refine zwW_p [(1, 0, 2)] (q := 40) (ls' := [(2, 1), (0, a), (0, v2L4)]) (st' := [(2, 1)]) (by decide +kernel) rfl ?_
            refine zwW_gs ChL4.1 (kd := 12) (bn := 0) (n := 13) (t := 0) (lo := 0) (hi := 156) (nx := 43) (by decide +kernel) ?_
            intro v6 ev6 lv6 uv6
            refine zwW_ret (nx := 44) (a := 0) (b := 0) (by decide +kernel) rfl (Or.inl rfl) ?_
            exact ⟨ChL4, XhL4.le (by decide) (by decide), by omega, by omega⟩
          · refine zwW_p [(1, 0, 2)] (q := 20) (ls' := [(2, 1), (0, a), (0, v2L4)]) (st' := [(2, 1)]) (by decide +kernel) rfl ?_
            refine zwW_gs ChL4.1 (kd := 12) (bn := 0) (n := 13) (t := 0) (lo := 0) (hi := 156) (nx := 23) (by decide +kernel) ?_
            intro v7 ev7 lv7 uv7
            refine zwW_p [(0, 156, 0)] (q := 26) (ls' := [(2, 1), (0, a), (0, v2L4)]) (st' := [(0, 156), (0, v7)]) (by decide +kernel) rfl ?_
            refine zwic_ge (q := 39) (nx := 29) (by decide +kernel) (fun c8 => ?_) (fun c8 => ?_)
            · refine zwW_p [(1, 0, 2)] (q := 40) (ls' := [(2, 1), (0, a), (0, v2L4)]) (st' := [(2, 1)]) (by decide +kernel) rfl ?_
              refine zwW_gs ChL4.1 (kd := 12) (bn := 0) (n := 13) (t := 0) (lo := 0) (hi := 156) (nx := 43) (by decide +kernel) ?_
              intro v9 ev9 lv9 uv9
              refine zwW_ret (nx := 44) (a := 0) (b := 0) (by decide +kernel) rfl (Or.inl rfl) ?_
              exact ⟨ChL4, XhL4.le (by decide) (by decide), by omega, by omega⟩
            · refine zwW_p [(1, 0, 2)] (q := 30) (ls' := [(2, 1), (0, a), (0, v2L4)]) (st' := [(2, 1)]) (by decide +kernel) rfl ?_
              refine zwW_cmv ChL4.1 (op := 60) (k' := 113) (n := 0) (kd := 12) (m := 13) (nx := 33) (r := 1) (tl := []) (st' := []) (by decide +kernel) rfl (by decide +kernel) rfl (x113 hL4 ChL4 (by omega) (by have := XhL4.hl C ChL4 (by decide) hl; omega)) ?_
              rintro h11 ⟨Ch11, Qh11, f10⟩
              have Xh11 : zXR msx19 (0) (0) h h11 := XhL4.tr (c2 := 0) (s2 := 0) Qh11 (by decide +kernel) (by decide) (by decide)
              refine zwW_inc (i := 2) (c := 1) (x := v2L4) (nx := 36) (by decide +kernel) rfl (by first | omega | exact ⟨by omega, by omega⟩) (ls' := [(2, 1), (0, a), (0, (v2L4 + 1))]) rfl ?_
              refine zwW_p [(24, 14, 0)] (q := 14) (ls' := [(2, 1), (0, a), (0, (v2L4 + 1))]) (st' := []) (by decide +kernel) rfl ?_
              exact IHL4 ((1000 - (v2L4 + 1))).toNat (by omega) (v2L4 + 1) h11 rfl (by omega) (by omega) (by omega) Ch11 (Xh11.le (by decide) (by decide))
      exact L4 _ 0 h rfl (by omega) (by omega) (by omega) C (X.le (by decide) (by decide))
    · exfalso; omega
-- WheelLand.lot(II)I
theorem x21 {sc : List Int} (h : Hp) (C : CI h) (a b : Int) (q_a : -2147483648 ≤ a ∧ a ≤ 2147483647) (q_b : -2147483648 ≤ b ∧ b ≤ 2147483647) : zwC sc 6 21 [(2, 1), (0, a), (0, b)] h (zwRt 0 (fun x g => h = g ∧ (-2147483648 ≤ x ∧ x ≤ 2147483647))) := by
  refine zwC_of (D := 5) 4 (by decide +kernel) rfl (ls := [(2, 1), (0, a), (0, b), (9, 0)]) rfl ?_
  refine zwW_p [(1, 0, 2), (1, 1, 0)] (q := 2) (ls' := [(2, 1), (0, a), (0, b), (9, 0)]) (st' := [(0, a), (2, 1)]) (by decide +kernel) rfl ?_
  refine zwW_cm C.1 (op := 60) (k' := 115) (n := 1) (kd := 12) (m := 13) (nx := 5) (r := 1) (tl := [(0, a)]) (st' := []) (by decide +kernel) rfl (by decide +kernel) rfl (x115 h C a (by omega)) ?_
  rintro v2 _ ⟨rfl, ⟨rfl, c1⟩ | ⟨Gv2, c1⟩⟩
  · refine zwW_p [(2, 3, 2), (1, 3, 2)] (q := 7) (ls' := [(2, 1), (0, a), (0, b), (2, 0)]) (st' := [(2, 0)]) (by decide +kernel) rfl ?_
    refine zwnu_ne (q := 12) (nx := 10) (by decide +kernel) (by decide) (fun c3 => ?_) (fun c3 => ?_)
    · exfalso; omega
    · refine zwW_p [(0, -1, 0)] (q := 11) (ls' := [(2, 1), (0, a), (0, b), (2, 0)]) (st' := [(0, -1)]) (by decide +kernel) rfl ?_
      refine zwW_ret (nx := 12) (a := 0) (b := 0) (by decide +kernel) rfl (Or.inl rfl) ?_
      exact ⟨rfl, by omega⟩
  · have lv2 := Gv2.1
    have ev2 := c1.2.2
    refine zwW_p [(2, 3, 2), (1, 3, 2)] (q := 7) (ls' := [(2, 1), (0, a), (0, b), (2, v2)]) (st' := [(2, v2)]) (by decide +kernel) rfl ?_
    refine zwnu_ne (q := 12) (nx := 10) (by decide +kernel) (by omega) (fun c4 => ?_) (fun c4 => ?_)
    · refine zwW_p [(1, 2, 0)] (q := 13) (ls' := [(2, 1), (0, a), (0, b), (2, v2)]) (st' := [(0, b)]) (by decide +kernel) rfl ?_
      refine zwW_sw (d := 85) (os := [0, 52, 1, 60, 2, 65, 3, 70, 4, 75, 5, 80]) (by decide +kernel) ?_
      refine ⟨fun c5 => ?_, fun c5 => ?_⟩
      · show zwW _ _ _ 52 _ _ _ _
        refine zwW_p [(1, 3, 2)] (q := 53) (ls' := [(2, 1), (0, a), (0, b), (2, v2)]) (st' := [(2, v2)]) (by decide +kernel) rfl ?_
        refine zwW_get (kd := 6) (bn := 1) (t := 2) (n := 7) (nx := 56) (by decide +kernel) Gv2.2.1 rfl ?_
        obtain ⟨v6, ev6⟩ : ∃ z, z = fld h v2 1 := ⟨_, rfl⟩
        rw [← ev6]
        have Gv6 : gH h v6 := by rw [ev6]; exact Gv2.2.2
        have lv6 := Gv6.1
        refine zwX_gi C (kd := 4) (bn := 0) (n := 19) (nx := 59) (by decide +kernel) Gv6.2.1 Gv6.1 rfl ?_
        intro v7 ev7 lv7 uv7
        refine zwW_ret (nx := 60) (a := 0) (b := 0) (by decide +kernel) rfl (Or.inl rfl) ?_
        exact ⟨rfl, by omega⟩
      refine ⟨fun c8 => ?_, fun c8 => ?_⟩
      · show zwW _ _ _ 60 _ _ _ _
        refine zwW_p [(1, 3, 2)] (q := 61) (ls' := [(2, 1), (0, a), (0, b), (2, v2)]) (st' := [(2, v2)]) (by decide +kernel) rfl ?_
        refine zwX_gi C (kd := 6) (bn := 2) (n := 7) (nx := 64) (by decide +kernel) Gv2.2.1 Gv2.1 rfl ?_
        intro v9 ev9 lv9 uv9
        refine zwW_ret (nx := 65) (a := 0) (b := 0) (by decide +kernel) rfl (Or.inl rfl) ?_
        exact ⟨rfl, by omega⟩
      refine ⟨fun c10 => ?_, fun c10 => ?_⟩
      · show zwW _ _ _ 65 _ _ _ _
        refine zwW_p [(1, 3, 2)] (q := 66) (ls' := [(2, 1), (0, a), (0, b), (2, v2)]) (st' := [(2, v2)]) (by decide +kernel) rfl ?_
        refine zwX_gi C (kd := 6) (bn := 3) (n := 7) (nx := 69) (by decide +kernel) Gv2.2.1 Gv2.1 rfl ?_
        intro v11 ev11 lv11 uv11
        refine zwW_ret (nx := 70) (a := 0) (b := 0) (by decide +kernel) rfl (Or.inl rfl) ?_
        exact ⟨rfl, by omega⟩
      refine ⟨fun c12 => ?_, fun c12 => ?_⟩
      · show zwW _ _ _ 70 _ _ _ _
        refine zwW_p [(1, 3, 2)] (q := 71) (ls' := [(2, 1), (0, a), (0, b), (2, v2)]) (st' := [(2, v2)]) (by decide +kernel) rfl ?_
        refine zwX_gi C (kd := 6) (bn := 4) (n := 7) (nx := 74) (by decide +kernel) Gv2.2.1 Gv2.1 rfl ?_
        intro v13 ev13 lv13 uv13
        refine zwW_ret (nx := 75) (a := 0) (b := 0) (by decide +kernel) rfl (Or.inl rfl) ?_
        exact ⟨rfl, by omega⟩
      refine ⟨fun c14 => ?_, fun c14 => ?_⟩
      · show zwW _ _ _ 75 _ _ _ _
        refine zwW_p [(1, 3, 2)] (q := 76) (ls' := [(2, 1), (0, a), (0, b), (2, v2)]) (st' := [(2, v2)]) (by decide +kernel) rfl ?_
        refine zwX_gi C (kd := 6) (bn := 5) (n := 7) (nx := 79) (by decide +kernel) Gv2.2.1 Gv2.1 rfl ?_
        intro v15 ev15 lv15 uv15
        refine zwW_ret (nx := 80) (a := 0) (b := 0) (by decide +kernel) rfl (Or.inl rfl) ?_
        exact ⟨rfl, by omega⟩
      refine ⟨fun c16 => ?_, fun c16 => ?_⟩
      · show zwW _ _ _ 80 _ _ _ _
        refine zwW_p [(1, 3, 2)] (q := 81) (ls' := [(2, 1), (0, a), (0, b), (2, v2)]) (st' := [(2, v2)]) (by decide +kernel) rfl ?_
        refine zwX_gi C (kd := 6) (bn := 6) (n := 7) (nx := 84) (by decide +kernel) Gv2.2.1 Gv2.1 rfl ?_
        intro v17 ev17 lv17 uv17
        refine zwW_ret (nx := 85) (a := 0) (b := 0) (by decide +kernel) rfl (Or.inl rfl) ?_
        exact ⟨rfl, by omega⟩
      show zwW _ _ _ 85 _ _ _ _
      refine zwW_p [(0, -1, 0)] (q := 86) (ls' := [(2, 1), (0, a), (0, b), (2, v2)]) (st' := [(0, -1)]) (by decide +kernel) rfl ?_
      refine zwW_ret (nx := 87) (a := 0) (b := 0) (by decide +kernel) rfl (Or.inl rfl) ?_
      exact ⟨rfl, by omega⟩
    · exfalso; omega
def msx23 : Zms := [(9, 9, 0, 1), (10, 10, 0, 400)]
-- WheelLand.feed(IIIII)I
theorem x23 {sc : List Int} (h : Hp) (C : CI h) (a b c d e : Int) (q_a : -2147483648 ≤ a ∧ a ≤ 2147483647) (q_b : -2147483648 ≤ b ∧ b ≤ 2147483647) (q_c : -2147483648 ≤ c ∧ c ≤ 2147483647) (q_d : -2147483648 ≤ d ∧ d ≤ 2147483647) (q_e : -2147483648 ≤ e ∧ e ≤ 2147483647) : zwC sc 2 23 [(2, 1), (0, a), (0, b), (0, c), (0, d), (0, e)] h (zwRt 0 (fun x g => CI g ∧ zXR msx23 (0) (0) h g ∧ (-2147483648 ≤ x ∧ x ≤ 2147483647))) := by
  refine zwC_of (D := 1) 6 (by decide +kernel) rfl (ls := [(2, 1), (0, a), (0, b), (0, c), (0, d), (0, e)]) rfl ?_
  have X : zXR msx23 0 0 h h := zXR.rf _ _
  refine zwW_p [(1, 0, 2)] (q := 1) (ls' := [(2, 1), (0, a), (0, b), (0, c), (0, d), (0, e)]) (st' := [(2, 1)]) (by decide +kernel) rfl ?_
  refine zwW_gc C.1 (kd := 12) (bn := 7) (n := 13) (c := 9) (nx := 4) (by decide +kernel) ?_
  refine zwW_p [(0, 20, 0)] (q := 6) (ls' := [(2, 1), (0, a), (0, b), (0, c), (0, d), (0, e)]) (st' := [(0, 20), (2, 9)]) (by decide +kernel) rfl ?_
  refine zwW_cm C.1 (op := 60) (k' := 117) (n := 1) (kd := 7) (m := 9) (nx := 9) (r := 9) (tl := [(0, 20)]) (st' := []) (by decide +kernel) rfl (by decide +kernel) rfl (x117 h C 20 (by omega)) ?_
  rintro x _ ⟨rfl, ⟨rfl, c1⟩ | ⟨rfl, c1⟩⟩
  · refine zwif_ne (q := 14) (nx := 12) (by decide +kernel) (fun c2 => ?_) (fun c2 => ?_)
    · refine zwW_p [(1, 0, 2)] (q := 15) (ls' := [(2, 1), (0, a), (0, b), (0, c), (0, d), (0, e)]) (st' := [(2, 1)]) (by decide +kernel) rfl ?_
      refine zwW_gc C.1 (kd := 12) (bn := 7) (n := 13) (c := 9) (nx := 18) (by decide +kernel) ?_
      refine zwW_p [(1, 1, 0)] (q := 19) (ls' := [(2, 1), (0, a), (0, b), (0, c), (0, d), (0, e)]) (st' := [(0, a), (2, 9)]) (by decide +kernel) rfl ?_
      refine zwW_cmv C.1 (op := 60) (k' := 118) (n := 1) (kd := 7) (m := 9) (nx := 22) (r := 9) (tl := [(0, a)]) (st' := []) (by decide +kernel) rfl (by decide +kernel) rfl (x118 h C a (by omega)) ?_
      rintro h3 ⟨Ch3, Qh3⟩
      have Xh3 : zXR msx23 (0) (0) h h3 := X.tr (c2 := 0) (s2 := 0) Qh3 (by decide +kernel) (by decide) (by decide)
      refine zwW_p [(1, 0, 2)] (q := 23) (ls' := [(2, 1), (0, a), (0, b), (0, c), (0, d), (0, e)]) (st' := [(2, 1)]) (by decide +kernel) rfl ?_
      refine zwW_gc Ch3.1 (kd := 12) (bn := 7) (n := 13) (c := 9) (nx := 26) (by decide +kernel) ?_
      refine zwW_p [(1, 2, 0)] (q := 27) (ls' := [(2, 1), (0, a), (0, b), (0, c), (0, d), (0, e)]) (st' := [(0, b), (2, 9)]) (by decide +kernel) rfl ?_
      refine zwW_cmv Ch3.1 (op := 60) (k' := 118) (n := 1) (kd := 7) (m := 9) (nx := 30) (r := 9) (tl := [(0, b)]) (st' := []) (by decide +kernel) rfl (by decide +kernel) rfl (x118 h3 Ch3 b (by omega)) ?_
      rintro h4 ⟨Ch4, Qh4⟩
      have Xh4 : zXR msx23 (0) (0) h h4 := Xh3.tr (c2 := 0) (s2 := 0) Qh4 (by decide +kernel) (by decide) (by decide)
      refine zwW_p [(1, 0, 2)] (q := 31) (ls' := [(2, 1), (0, a), (0, b), (0, c), (0, d), (0, e)]) (st' := [(2, 1)]) (by decide +kernel) rfl ?_
      refine zwW_gc Ch4.1 (kd := 12) (bn := 7) (n := 13) (c := 9) (nx := 34) (by decide +kernel) ?_
      refine zwW_p [(1, 3, 0)] (q := 35) (ls' := [(2, 1), (0, a), (0, b), (0, c), (0, d), (0, e)]) (st' := [(0, c), (2, 9)]) (by decide +kernel) rfl ?_
      refine zwW_cmv Ch4.1 (op := 60) (k' := 118) (n := 1) (kd := 7) (m := 9) (nx := 38) (r := 9) (tl := [(0, c)]) (st' := []) (by decide +kernel) rfl (by decide +kernel) rfl (x118 h4 Ch4 c (by omega)) ?_
      rintro h5 ⟨Ch5, Qh5⟩
      have Xh5 : zXR msx23 (0) (0) h h5 := Xh4.tr (c2 := 0) (s2 := 0) Qh5 (by decide +kernel) (by decide) (by decide)
      refine zwW_p [(1, 0, 2)] (q := 39) (ls' := [(2, 1), (0, a), (0, b), (0, c), (0, d), (0, e)]) (st' := [(2, 1)]) (by decide +kernel) rfl ?_
      refine zwW_gc Ch5.1 (kd := 12) (bn := 7) (n := 13) (c := 9) (nx := 42) (by decide +kernel) ?_
      refine zwW_p [(1, 4, 0)] (q := 44) (ls' := [(2, 1), (0, a), (0, b), (0, c), (0, d), (0, e)]) (st' := [(0, d), (2, 9)]) (by decide +kernel) rfl ?_
      refine zwW_cmv Ch5.1 (op := 60) (k' := 118) (n := 1) (kd := 7) (m := 9) (nx := 47) (r := 9) (tl := [(0, d)]) (st' := []) (by decide +kernel) rfl (by decide +kernel) rfl (x118 h5 Ch5 d (by omega)) ?_
      rintro h6 ⟨Ch6, Qh6⟩
      have Xh6 : zXR msx23 (0) (0) h h6 := Xh5.tr (c2 := 0) (s2 := 0) Qh6 (by decide +kernel) (by decide) (by decide)
      refine zwW_p [(1, 0, 2)] (q := 48) (ls' := [(2, 1), (0, a), (0, b), (0, c), (0, d), (0, e)]) (st' := [(2, 1)]) (by decide +kernel) rfl ?_
      refine zwW_gc Ch6.1 (kd := 12) (bn := 7) (n := 13) (c := 9) (nx := 51) (by decide +kernel) ?_
      refine zwW_p [(1, 5, 0)] (q := 53) (ls' := [(2, 1), (0, a), (0, b), (0, c), (0, d), (0, e)]) (st' := [(0, e), (2, 9)]) (by decide +kernel) rfl ?_
      refine zwW_cmv Ch6.1 (op := 60) (k' := 118) (n := 1) (kd := 7) (m := 9) (nx := 56) (r := 9) (tl := [(0, e)]) (st' := []) (by decide +kernel) rfl (by decide +kernel) rfl (x118 h6 Ch6 e (by omega)) ?_
      rintro h7 ⟨Ch7, Qh7⟩
      have Xh7 : zXR msx23 (0) (0) h h7 := Xh6.tr (c2 := 0) (s2 := 0) Qh7 (by decide +kernel) (by decide) (by decide)
      refine zwW_p [(1, 0, 2)] (q := 57) (ls' := [(2, 1), (0, a), (0, b), (0, c), (0, d), (0, e)]) (st' := [(2, 1)]) (by decide +kernel) rfl ?_
      refine zwW_gc Ch7.1 (kd := 12) (bn := 7) (n := 13) (c := 9) (nx := 60) (by decide +kernel) ?_
      refine zwW_gs Ch7.1 (kd := 7) (bn := 0) (n := 9) (t := 0) (lo := 0) (hi := 400) (nx := 63) (by decide +kernel) ?_
      intro v8 ev8 lv8 uv8
      refine zwW_ret (nx := 64) (a := 0) (b := 0) (by decide +kernel) rfl (Or.inl rfl) ?_
      exact ⟨Ch7, Xh7.le (by decide) (by decide), by omega⟩
    · exfalso; omega
  · refine zwif_ne (q := 14) (nx := 12) (by decide +kernel) (fun c9 => ?_) (fun c9 => ?_)
    · exfalso; omega
    · refine zwW_p [(0, -1, 0)] (q := 13) (ls' := [(2, 1), (0, a), (0, b), (0, c), (0, d), (0, e)]) (st' := [(0, -1)]) (by decide +kernel) rfl ?_
      refine zwW_ret (nx := 14) (a := 0) (b := 0) (by decide +kernel) rfl (Or.inl rfl) ?_
      exact ⟨C, X.le (by decide) (by decide), by omega⟩
def msx25 : Zms := [(9, 9, 0, 1)]
-- WheelLand.end(I)Z
theorem x25 {sc : List Int} (h : Hp) (C : CI h) (a : Int) (q_a : -2147483648 ≤ a ∧ a ≤ 2147483647) : zwC sc 2 25 [(2, 1), (0, a)] h (zwRt 0 (fun x g => CI g ∧ zXR msx25 (0) (0) h g ∧ (0 ≤ x ∧ x ≤ 1))) := by
  refine zwC_of (D := 1) 2 (by decide +kernel) rfl (ls := [(2, 1), (0, a)]) rfl ?_
  have X : zXR msx25 0 0 h h := zXR.rf _ _
  refine zwW_p [(1, 1, 0), (0, 0, 0), (1, 0, 2)] (q := 3) (ls' := [(2, 1), (0, a)]) (st' := [(2, 1), (0, 0), (0, a)]) (by decide +kernel) rfl ?_
  refine zwW_gc C.1 (kd := 12) (bn := 7) (n := 13) (c := 9) (nx := 6) (by decide +kernel) ?_
  refine zwW_gs C.1 (kd := 7) (bn := 0) (n := 9) (t := 0) (lo := 0) (hi := 400) (nx := 9) (by decide +kernel) ?_
  intro v1 ev1 lv1 uv1
  refine zwW_cs (k' := 98) (n := 3) (nx := 12) (as := [(0, a), (0, 0), (0, v1)]) (st' := []) (by decide +kernel) rfl (x98 h C a 0 v1 (by omega) (by omega) (by omega)) rfl ?_
  rintro x _ ⟨rfl, ⟨rfl, c2⟩ | ⟨rfl, c2⟩⟩
  · refine zwif_eq (q := 17) (nx := 15) (by decide +kernel) (fun c3 => ?_) (fun c3 => ?_)
    · exfalso; omega
    · refine zwW_p [(0, 0, 0)] (q := 16) (ls' := [(2, 1), (0, a)]) (st' := [(0, 0)]) (by decide +kernel) rfl ?_
      refine zwW_ret (nx := 17) (a := 1) (b := 0) (by decide +kernel) rfl (Or.inr (Or.inl ⟨rfl, Or.inl rfl⟩)) ?_
      exact ⟨C, X.le (by decide) (by decide), by omega⟩
  · refine zwif_eq (q := 17) (nx := 15) (by decide +kernel) (fun c4 => ?_) (fun c4 => ?_)
    · refine zwW_p [(1, 0, 2)] (q := 18) (ls' := [(2, 1), (0, a)]) (st' := [(2, 1)]) (by decide +kernel) rfl ?_
      refine zwW_gc C.1 (kd := 12) (bn := 7) (n := 13) (c := 9) (nx := 21) (by decide +kernel) ?_
      refine zwW_p [(1, 1, 0)] (q := 22) (ls' := [(2, 1), (0, a)]) (st' := [(0, a), (2, 9)]) (by decide +kernel) rfl ?_
      refine zwW_ps C.1 (kd := 7) (bn := 0) (n := 9) (lo := 0) (hi := 400) (nx := 25) (by decide +kernel) (by first | omega | exact ⟨by omega, by omega⟩) ?_
      intro h5 eh5 Ih5
      have Ch5 : CI h5 := C.wc eh5 Ih5 (by decide) (by decide)
      have Qh5 : zXR [(9, 9, 0, 1)] 0 0 h h5 := zXR.wc eh5 rfl ⟨by decide, by decide, Or.inl (by decide)⟩ (by first | decide | exact ⟨by decide, by decide⟩)
      have Xh5 : zXR msx25 (0) (0) h h5 := X.tr (c2 := 0) (s2 := 0) Qh5 (by decide +kernel) (by decide) (by decide)
      refine zwW_p [(0, 1, 0)] (q := 26) (ls' := [(2, 1), (0, a)]) (st' := [(0, 1)]) (by decide +kernel) rfl ?_
      refine zwW_ret (nx := 27) (a := 1) (b := 0) (by decide +kernel) rfl (Or.inr (Or.inl ⟨rfl, Or.inr rfl⟩)) ?_
      exact ⟨Ch5, Xh5.le (by decide) (by decide), by omega⟩
    · exfalso; omega
def msx27 : Zms := [(9, 9, 2, 7), (11, 11, 0, 400), (12, 12, 0, 5)]
-- WheelLand.fault()I
theorem x27 {sc : List Int} (h : Hp) (C : CI h) : zwC sc 233 27 [(2, 1)] h (zwRt 0 (fun x g => CI g ∧ zXR msx27 (0) (0) h g ∧ (-2147483648 ≤ x ∧ x ≤ 2147483647))) := by
  refine zwC_of (D := 232) 1 (by decide +kernel) rfl (ls := [(2, 1)]) rfl ?_
  have X : zXR msx27 0 0 h h := zXR.rf _ _
  refine zwW_p [(1, 0, 2)] (q := 1) (ls' := [(2, 1)]) (st' := [(2, 1)]) (by decide +kernel) rfl ?_
  refine zwW_gc C.1 (kd := 12) (bn := 7) (n := 13) (c := 9) (nx := 4) (by decide +kernel) ?_
  refine zwW_cm C.1 (op := 60) (k' := 120) (n := 0) (kd := 7) (m := 9) (nx := 7) (r := 9) (tl := []) (st' := []) (by decide +kernel) rfl (by decide +kernel) rfl (x120 h C) ?_
  rintro v2 h3 ⟨Ch3, Qh3, f1⟩
  have Xh3 : zXR msx27 (0) (0) h h3 := X.tr (c2 := 0) (s2 := 0) Qh3 (by decide +kernel) (by decide) (by decide)
  refine zwW_ret (nx := 8) (a := 0) (b := 0) (by decide +kernel) rfl (Or.inl rfl) ?_
  exact ⟨Ch3, Xh3.le (by decide) (by decide), by omega⟩
def msx29 : Zms := [(9, 9, 0, 1), (9, 9, 2, 7), (11, 11, 0, 400), (12, 12, 0, 5), (14, 14, 0, 3)]
-- WheelLand.sheet()I
theorem x29 {sc : List Int} (h : Hp) (C : CI h) (hl : h.length ≤ 997670000) : zwC sc 233 29 [(2, 1)] h (zwRt 0 (fun x g => CI g ∧ zXR msx29 (4) (1408) h g ∧ (-2147483648 ≤ x ∧ x ≤ 2147483647))) := by
  refine zwC_of (D := 232) 1 (by decide +kernel) rfl (ls := [(2, 1)]) rfl ?_
  have X : zXR msx29 0 0 h h := zXR.rf _ _
  refine zwW_p [(1, 0, 2)] (q := 1) (ls' := [(2, 1)]) (st' := [(2, 1)]) (by decide +kernel) rfl ?_
  refine zwW_gc C.1 (kd := 12) (bn := 8) (n := 13) (c := 13) (nx := 4) (by decide +kernel) ?_
  refine zwW_gc C.1 (kd := 9) (bn := 0) (n := 6) (c := 14) (nx := 7) (by decide +kernel) ?_
  refine zwW_cm C.1 (op := 60) (k' := 96) (n := 0) (kd := 0) (m := 3) (nx := 10) (r := 14) (tl := []) (st' := []) (by decide +kernel) rfl (by decide +kernel) rfl (x96_14 C) ?_
  rintro v1 _ ⟨rfl, ev1⟩
  have bv1 := zLb_14 C
  refine zwW_p [(0, 8, 0)] (q := 12) (ls' := [(2, 1)]) (st' := [(0, 8), (0, v1)]) (by decide +kernel) rfl ?_
  refine zwic_ge (q := 26) (nx := 15) (by decide +kernel) (fun c2 => ?_) (fun c2 => ?_)
  · refine zwW_p [(0, -1, 0)] (q := 27) (ls' := [(2, 1)]) (st' := [(0, -1)]) (by decide +kernel) rfl ?_
    refine zwW_ret (nx := 28) (a := 0) (b := 0) (by decide +kernel) rfl (Or.inl rfl) ?_
    exact ⟨C, X.le (by decide) (by decide), by omega⟩
  · refine zwW_p [(1, 0, 2)] (q := 16) (ls' := [(2, 1)]) (st' := [(2, 1)]) (by decide +kernel) rfl ?_
    refine zwW_gc C.1 (kd := 12) (bn := 7) (n := 13) (c := 9) (nx := 19) (by decide +kernel) ?_
    refine zwW_cm C.1 (op := 60) (k' := 120) (n := 0) (kd := 7) (m := 9) (nx := 22) (r := 9) (tl := []) (st' := []) (by decide +kernel) rfl (by decide +kernel) rfl (x120 h C) ?_
    rintro v4 h5 ⟨Ch5, Qh5, f3⟩
    have Xh5 : zXR msx29 (0) (0) h h5 := X.tr (c2 := 0) (s2 := 0) Qh5 (by decide +kernel) (by decide) (by decide)
    have th5_14_2 : fld h5 14 2 = fld h 14 2 := Qh5.f (a1 := 14) (a2 := 14) (j1 := 2) (j2 := 3) (by decide +kernel) (by first | decide | exact ⟨by decide, by decide⟩) (by first | decide | exact ⟨by decide, by decide⟩) (by first | decide | exact ⟨by decide, by decide⟩)
    refine zwW_p [(0, -1, 0)] (q := 23) (ls' := [(2, 1)]) (st' := [(0, -1), (0, v4)]) (by decide +kernel) rfl ?_
    refine zwic_eq (q := 28) (nx := 26) (by decide +kernel) (fun c6 => ?_) (fun c6 => ?_)
    · refine zwW_p [(1, 0, 2)] (q := 29) (ls' := [(2, 1)]) (st' := [(2, 1)]) (by decide +kernel) rfl ?_
      refine zwW_gc Ch5.1 (kd := 12) (bn := 8) (n := 13) (c := 13) (nx := 32) (by decide +kernel) ?_
      refine zwW_gc Ch5.1 (kd := 9) (bn := 0) (n := 6) (c := 14) (nx := 35) (by decide +kernel) ?_
      refine zwW_p [(1, 0, 2)] (q := 36) (ls' := [(2, 1)]) (st' := [(2, 1), (2, 14)]) (by decide +kernel) rfl ?_
      refine zwW_gc Ch5.1 (kd := 12) (bn := 7) (n := 13) (c := 9) (nx := 39) (by decide +kernel) ?_
      refine zwW_p [(1, 0, 2)] (q := 40) (ls' := [(2, 1)]) (st' := [(2, 1), (2, 9), (2, 14)]) (by decide +kernel) rfl ?_
      refine zwW_gc Ch5.1 (kd := 12) (bn := 8) (n := 13) (c := 13) (nx := 43) (by decide +kernel) ?_
      refine zwW_gc Ch5.1 (kd := 9) (bn := 0) (n := 6) (c := 14) (nx := 46) (by decide +kernel) ?_
      refine zwW_cm Ch5.1 (op := 60) (k' := 96) (n := 0) (kd := 0) (m := 3) (nx := 49) (r := 14) (tl := []) (st' := [(2, 9), (2, 14)]) (by decide +kernel) rfl (by decide +kernel) rfl (x96_14 Ch5) ?_
      rintro v7 _ ⟨rfl, ev7⟩
      have bv7 := zLb_14 Ch5
      refine zwW_cm Ch5.1 (op := 60) (k' := 122) (n := 1) (kd := 7) (m := 9) (nx := 52) (r := 9) (tl := [(0, v7)]) (st' := [(2, 14)]) (by decide +kernel) rfl (by decide +kernel) rfl (x122 h5 Ch5 v7 (by omega)) ?_
      rintro v9 h10 ⟨Ch10, Qh10, f8⟩
      have Xh10 : zXR msx29 (3) (408) h h10 := Xh5.tr (c2 := 3) (s2 := 408) Qh10 (by decide +kernel) (by decide) (by decide)
      have th10_14_2 : fld h10 14 2 = fld h5 14 2 := Qh10.f (a1 := 14) (a2 := 14) (j1 := 2) (j2 := 3) (by decide +kernel) (by first | decide | exact ⟨by decide, by decide⟩) (by first | decide | exact ⟨by decide, by decide⟩) (by first | decide | exact ⟨by decide, by decide⟩)
      have lv9 := f8.1
      refine zwW_cm Ch10.1 (op := 60) (k' := 100) (n := 1) (kd := 0) (m := 3) (nx := 55) (r := 14) (tl := [(2, v9)]) (st' := []) (by decide +kernel) rfl (by decide +kernel) rfl (x100_14 Ch10 f8 (by omega) (by have := Xh10.hl C Ch10 (by decide) hl; omega)) ?_
      rintro x h12 ⟨rfl, Ah12⟩
      have Ch12 := Ah12.1
      have Qh12 : zXR [(14, 14, 0, 3)] (1) (1000) h10 h12 := Ah12.2.1
      have zh12 : fld h12 14 2 = fld h10 14 2 + 1 := Ah12.2.2.1
      have Xh12 : zXR msx29 (4) (1408) h h12 := Xh10.tr (c2 := 4) (s2 := 1408) Qh12 (by decide +kernel) (by decide) (by decide)
      refine zwW_p [(15, 0, 0), (1, 0, 2)] (q := 57) (ls' := [(2, 1)]) (st' := [(2, 1)]) (by decide +kernel) rfl ?_
      refine zwW_gc Ch12.1 (kd := 12) (bn := 7) (n := 13) (c := 9) (nx := 60) (by decide +kernel) ?_
      refine zwW_p [(0, 0, 0)] (q := 61) (ls' := [(2, 1)]) (st' := [(0, 0), (2, 9)]) (by decide +kernel) rfl ?_
      refine zwW_ps Ch12.1 (kd := 7) (bn := 0) (n := 9) (lo := 0) (hi := 400) (nx := 64) (by decide +kernel) (by first | decide | exact ⟨by decide, by decide⟩) ?_
      intro h13 eh13 Ih13
      have Ch13 : CI h13 := Ch12.wc eh13 Ih13 (by decide) (by decide)
      have Qh13 : zXR [(9, 9, 0, 1)] 0 0 h12 h13 := zXR.wc eh13 rfl ⟨by decide, by decide, Or.inl (by decide)⟩ (by first | decide | exact ⟨by decide, by decide⟩)
      have Xh13 : zXR msx29 (4) (1408) h h13 := Xh12.tr (c2 := 4) (s2 := 1408) Qh13 (by decide +kernel) (by decide) (by decide)
      have th13_14_2 : fld h13 14 2 = fld h12 14 2 := Qh13.f (a1 := 14) (a2 := 14) (j1 := 2) (j2 := 3) (by decide +kernel) (by first | decide | exact ⟨by decide, by decide⟩) (by first | decide | exact ⟨by decide, by decide⟩) (by first | decide | exact ⟨by decide, by decide⟩)
      refine zwW_p [(1, 0, 2)] (q := 65) (ls' := [(2, 1)]) (st' := [(2, 1)]) (by decide +kernel) rfl ?_
      refine zwW_gc Ch13.1 (kd := 12) (bn := 8) (n := 13) (c := 13) (nx := 68) (by decide +kernel) ?_
      refine zwW_gc Ch13.1 (kd := 9) (bn := 0) (n := 6) (c := 14) (nx := 71) (by decide +kernel) ?_
      refine zwW_cm Ch13.1 (op := 60) (k' := 96) (n := 0) (kd := 0) (m := 3) (nx := 74) (r := 14) (tl := []) (st' := []) (by decide +kernel) rfl (by decide +kernel) rfl (x96_14 Ch13) ?_
      rintro v14 _ ⟨rfl, ev14⟩
      have bv14 := zLb_14 Ch13
      refine zwW_p [(0, 1, 0)] (q := 75) (ls' := [(2, 1)]) (st' := [(0, 1), (0, v14)]) (by decide +kernel) rfl ?_
      refine zwW_sub (nx := 76) (by decide +kernel) (by first | omega | exact ⟨by omega, by omega⟩) ?_
      refine zwW_ret (nx := 77) (a := 0) (b := 0) (by decide +kernel) rfl (Or.inl rfl) ?_
      exact ⟨Ch13, Xh13.le (by decide) (by decide), by omega⟩
    · refine zwW_p [(0, -1, 0)] (q := 27) (ls' := [(2, 1)]) (st' := [(0, -1)]) (by decide +kernel) rfl ?_
      refine zwW_ret (nx := 28) (a := 0) (b := 0) (by decide +kernel) rfl (Or.inl rfl) ?_
      exact ⟨Ch5, Xh5.le (by decide) (by decide), by omega⟩
def msx31 : Zms := [(13, 13, 1, 2), (15, 15, 0, 12), (16, 16, 0, 12)]
-- WheelLand.force(II)I
theorem x31 {sc : List Int} (h : Hp) (C : CI h) (a b : Int) (q_a : -2147483648 ≤ a ∧ a ≤ 2147483647) (q_b : -2147483648 ≤ b ∧ b ≤ 2147483647) (hl : h.length ≤ 999950000) : zwC sc 5 31 [(2, 1), (0, a), (0, b)] h (zwRt 0 (fun x g => CI g ∧ zXR msx31 (0) (0) h g ∧ (-2147483648 ≤ x ∧ x ≤ 2147483647))) := by
  refine zwC_of (D := 4) 3 (by decide +kernel) rfl (ls := [(2, 1), (0, a), (0, b)]) rfl ?_
  have X : zXR msx31 0 0 h h := zXR.rf _ _
  refine zwW_p [(1, 1, 0)] (q := 1) (ls' := [(2, 1), (0, a), (0, b)]) (st' := [(0, a)]) (by decide +kernel) rfl ?_
  refine zwif_lt (q := 44) (nx := 4) (by decide +kernel) (fun c1 => ?_) (fun c1 => ?_)
  · refine zwW_p [(0, -1, 0)] (q := 45) (ls' := [(2, 1), (0, a), (0, b)]) (st' := [(0, -1)]) (by decide +kernel) rfl ?_
    refine zwW_ret (nx := 46) (a := 0) (b := 0) (by decide +kernel) rfl (Or.inl rfl) ?_
    exact ⟨C, X.le (by decide) (by decide), by omega⟩
  · refine zwW_p [(1, 1, 0), (1, 0, 2)] (q := 6) (ls' := [(2, 1), (0, a), (0, b)]) (st' := [(2, 1), (0, a)]) (by decide +kernel) rfl ?_
    refine zwW_gc C.1 (kd := 12) (bn := 8) (n := 13) (c := 13) (nx := 9) (by decide +kernel) ?_
    refine zwW_gc C.1 (kd := 9) (bn := 0) (n := 6) (c := 14) (nx := 12) (by decide +kernel) ?_
    refine zwW_cm C.1 (op := 60) (k' := 96) (n := 0) (kd := 0) (m := 3) (nx := 15) (r := 14) (tl := []) (st' := [(0, a)]) (by decide +kernel) rfl (by decide +kernel) rfl (x96_14 C) ?_
    rintro v2 _ ⟨rfl, ev2⟩
    have bv2 := zLb_14 C
    refine zwic_ge (q := 44) (nx := 18) (by decide +kernel) (fun c3 => ?_) (fun c3 => ?_)
    · refine zwW_p [(0, -1, 0)] (q := 45) (ls' := [(2, 1), (0, a), (0, b)]) (st' := [(0, -1)]) (by decide +kernel) rfl ?_
      refine zwW_ret (nx := 46) (a := 0) (b := 0) (by decide +kernel) rfl (Or.inl rfl) ?_
      exact ⟨C, X.le (by decide) (by decide), by omega⟩
    · refine zwW_p [(1, 2, 0), (1, 0, 2)] (q := 20) (ls' := [(2, 1), (0, a), (0, b)]) (st' := [(2, 1), (0, b)]) (by decide +kernel) rfl ?_
      refine zwW_gs C.1 (kd := 12) (bn := 0) (n := 13) (t := 0) (lo := 0) (hi := 156) (nx := 23) (by decide +kernel) ?_
      intro v4 ev4 lv4 uv4
      refine zwW_p [(0, 155, 0)] (q := 26) (ls' := [(2, 1), (0, a), (0, b)]) (st' := [(0, 155), (0, v4), (0, b)]) (by decide +kernel) rfl ?_
      refine zwW_cs (k' := 98) (n := 3) (nx := 29) (as := [(0, b), (0, v4), (0, 155)]) (st' := []) (by decide +kernel) rfl (x98 h C b v4 155 (by omega) (by omega) (by omega)) rfl ?_
      rintro x _ ⟨rfl, ⟨rfl, c5⟩ | ⟨rfl, c5⟩⟩
      · refine zwif_ne (q := 44) (nx := 32) (by decide +kernel) (fun c6 => ?_) (fun c6 => ?_)
        · refine zwW_p [(0, -1, 0)] (q := 45) (ls' := [(2, 1), (0, a), (0, b)]) (st' := [(0, -1)]) (by decide +kernel) rfl ?_
          refine zwW_ret (nx := 46) (a := 0) (b := 0) (by decide +kernel) rfl (Or.inl rfl) ?_
          exact ⟨C, X.le (by decide) (by decide), by omega⟩
        · exfalso; omega
      · refine zwif_ne (q := 44) (nx := 32) (by decide +kernel) (fun c7 => ?_) (fun c7 => ?_)
        · exfalso; omega
        · refine zwW_p [(1, 0, 2)] (q := 33) (ls' := [(2, 1), (0, a), (0, b)]) (st' := [(2, 1)]) (by decide +kernel) rfl ?_
          refine zwW_gc C.1 (kd := 12) (bn := 8) (n := 13) (c := 13) (nx := 36) (by decide +kernel) ?_
          refine zwW_gs C.1 (kd := 9) (bn := 1) (n := 6) (t := 0) (lo := 0) (hi := 12) (nx := 39) (by decide +kernel) ?_
          intro v8 ev8 lv8 uv8
          refine zwW_p [(0, 12, 0)] (q := 41) (ls' := [(2, 1), (0, a), (0, b)]) (st' := [(0, 12), (0, v8)]) (by decide +kernel) rfl ?_
          refine zwic_lt (q := 46) (nx := 44) (by decide +kernel) (fun c9 => ?_) (fun c9 => ?_)
          · refine zwW_p [(1, 0, 2)] (q := 47) (ls' := [(2, 1), (0, a), (0, b)]) (st' := [(2, 1)]) (by decide +kernel) rfl ?_
            refine zwW_gc C.1 (kd := 12) (bn := 8) (n := 13) (c := 13) (nx := 50) (by decide +kernel) ?_
            refine zwW_p [(1, 0, 2)] (q := 51) (ls' := [(2, 1), (0, a), (0, b)]) (st' := [(2, 1), (2, 13)]) (by decide +kernel) rfl ?_
            refine zwW_gc C.1 (kd := 12) (bn := 8) (n := 13) (c := 13) (nx := 54) (by decide +kernel) ?_
            refine zwW_gc C.1 (kd := 9) (bn := 0) (n := 6) (c := 14) (nx := 57) (by decide +kernel) ?_
            refine zwW_p [(1, 1, 0)] (q := 58) (ls' := [(2, 1), (0, a), (0, b)]) (st' := [(0, a), (2, 14), (2, 13)]) (by decide +kernel) rfl ?_
            refine zwW_cm C.1 (op := 60) (k' := 123) (n := 1) (kd := 0) (m := 3) (nx := 61) (r := 14) (tl := [(0, a)]) (st' := [(2, 13)]) (by decide +kernel) rfl (by decide +kernel) rfl (x123_14 C (i := a) (by first | omega | exact ⟨by omega, by omega⟩)) ?_
            rintro v10 _ ⟨rfl, Gv10, ev10⟩
            have lv10 := Gv10.1
            refine zwW_cast (a := 10) (kd := 10) (n := 3) (nx := 64) (by decide +kernel) rfl (Or.inr Gv10.2.1) ?_
            refine zwW_p [(1, 2, 0)] (q := 65) (ls' := [(2, 1), (0, a), (0, b)]) (st' := [(0, b), (2, v10), (2, 13)]) (by decide +kernel) rfl ?_
            refine zwW_cmv C.1 (op := 60) (k' := 124) (n := 2) (kd := 9) (m := 6) (nx := 68) (r := 13) (tl := [(2, v10), (0, b)]) (st' := []) (by decide +kernel) rfl (by decide +kernel) rfl (x124 h C v10 b Gv10 (by omega) (by omega)) ?_
            rintro h11 ⟨Ch11, Qh11⟩
            have Xh11 : zXR msx31 (0) (0) h h11 := X.tr (c2 := 0) (s2 := 0) Qh11 (by decide +kernel) (by decide) (by decide)
            refine zwW_p [(1, 0, 2)] (q := 69) (ls' := [(2, 1), (0, a), (0, b)]) (st' := [(2, 1)]) (by decide +kernel) rfl ?_
            refine zwW_gc Ch11.1 (kd := 12) (bn := 8) (n := 13) (c := 13) (nx := 72) (by decide +kernel) ?_
            refine zwW_gs Ch11.1 (kd := 9) (bn := 1) (n := 6) (t := 0) (lo := 0) (hi := 12) (nx := 75) (by decide +kernel) ?_
            intro v12 ev12 lv12 uv12
            refine zwW_ret (nx := 76) (a := 0) (b := 0) (by decide +kernel) rfl (Or.inl rfl) ?_
            exact ⟨Ch11, Xh11.le (by decide) (by decide), by omega⟩
          · refine zwW_p [(0, -1, 0)] (q := 45) (ls' := [(2, 1), (0, a), (0, b)]) (st' := [(0, -1)]) (by decide +kernel) rfl ?_
            refine zwW_ret (nx := 46) (a := 0) (b := 0) (by decide +kernel) rfl (Or.inl rfl) ?_
            exact ⟨C, X.le (by decide) (by decide), by omega⟩
-- WheelLand.why(II)I
theorem x33 {sc : List Int} (h : Hp) (C : CI h) (a b : Int) (q_a : -2147483648 ≤ a ∧ a ≤ 2147483647) (q_b : -2147483648 ≤ b ∧ b ≤ 2147483647) : zwC sc 3 33 [(2, 1), (0, a), (0, b)] h (zwRt 0 (fun x g => h = g ∧ (-2147483648 ≤ x ∧ x ≤ 2147483647))) := by
  refine zwC_of (D := 2) 4 (by decide +kernel) rfl (ls := [(2, 1), (0, a), (0, b), (9, 0)]) rfl ?_
  refine zwW_p [(1, 1, 0), (0, 0, 0), (0, 4, 0)] (q := 3) (ls' := [(2, 1), (0, a), (0, b), (9, 0)]) (st' := [(0, 4), (0, 0), (0, a)]) (by decide +kernel) rfl ?_
  refine zwW_cs (k' := 98) (n := 3) (nx := 6) (as := [(0, a), (0, 0), (0, 4)]) (st' := []) (by decide +kernel) rfl (x98 h C a 0 4 (by omega) (by omega) (by omega)) rfl ?_
  rintro x _ ⟨rfl, ⟨rfl, c1⟩ | ⟨rfl, c1⟩⟩
  · refine zwif_ne (q := 20) (nx := 9) (by decide +kernel) (fun c2 => ?_) (fun c2 => ?_)
    · refine zwW_p [(0, -1, 0)] (q := 21) (ls' := [(2, 1), (0, a), (0, b), (9, 0)]) (st' := [(0, -1)]) (by decide +kernel) rfl ?_
      refine zwW_ret (nx := 22) (a := 0) (b := 0) (by decide +kernel) rfl (Or.inl rfl) ?_
      exact ⟨rfl, by omega⟩
    · exfalso; omega
  · refine zwif_ne (q := 20) (nx := 9) (by decide +kernel) (fun c3 => ?_) (fun c3 => ?_)
    · exfalso; omega
    · refine zwW_p [(1, 2, 0), (0, 0, 0), (0, 155, 0)] (q := 14) (ls' := [(2, 1), (0, a), (0, b), (9, 0)]) (st' := [(0, 155), (0, 0), (0, b)]) (by decide +kernel) rfl ?_
      refine zwW_cs (k' := 98) (n := 3) (nx := 17) (as := [(0, b), (0, 0), (0, 155)]) (st' := []) (by decide +kernel) rfl (x98 h C b 0 155 (by omega) (by omega) (by omega)) rfl ?_
      rintro x _ ⟨rfl, ⟨rfl, c4⟩ | ⟨rfl, c4⟩⟩
      · refine zwif_eq (q := 22) (nx := 20) (by decide +kernel) (fun c5 => ?_) (fun c5 => ?_)
        · exfalso; omega
        · refine zwW_p [(0, -1, 0)] (q := 21) (ls' := [(2, 1), (0, a), (0, b), (9, 0)]) (st' := [(0, -1)]) (by decide +kernel) rfl ?_
          refine zwW_ret (nx := 22) (a := 0) (b := 0) (by decide +kernel) rfl (Or.inl rfl) ?_
          exact ⟨rfl, by omega⟩
      · refine zwif_eq (q := 22) (nx := 20) (by decide +kernel) (fun c6 => ?_) (fun c6 => ?_)
        · refine zwW_p [(1, 0, 2)] (q := 23) (ls' := [(2, 1), (0, a), (0, b), (9, 0)]) (st' := [(2, 1)]) (by decide +kernel) rfl ?_
          refine zwW_gc C.1 (kd := 12) (bn := 8) (n := 13) (c := 13) (nx := 26) (by decide +kernel) ?_
          refine zwW_p [(1, 1, 0), (1, 2, 0)] (q := 28) (ls' := [(2, 1), (0, a), (0, b), (9, 0)]) (st' := [(0, b), (0, a), (2, 13)]) (by decide +kernel) rfl ?_
          refine zwW_cm C.1 (op := 60) (k' := 125) (n := 2) (kd := 9) (m := 6) (nx := 31) (r := 13) (tl := [(0, a), (0, b)]) (st' := []) (by decide +kernel) rfl (by decide +kernel) rfl (x125 h C a b (by omega) (by omega)) ?_
          rintro v8 _ ⟨rfl, rfl | Gv8⟩
          · refine zwW_p [(2, 3, 2), (1, 3, 2)] (q := 33) (ls' := [(2, 1), (0, a), (0, b), (2, 0)]) (st' := [(2, 0)]) (by decide +kernel) rfl ?_
            refine zwnu_ne (q := 40) (nx := 36) (by decide +kernel) (by decide) (fun c9 => ?_) (fun c9 => ?_)
            · exfalso; omega
            · refine zwW_p [(0, -1, 0), (24, 44, 0)] (q := 44) (ls' := [(2, 1), (0, a), (0, b), (2, 0)]) (st' := [(0, -1)]) (by decide +kernel) rfl ?_
              refine zwW_ret (nx := 45) (a := 0) (b := 0) (by decide +kernel) rfl (Or.inl rfl) ?_
              exact ⟨rfl, by omega⟩
          · have lv8 := Gv8.1
            refine zwW_p [(2, 3, 2), (1, 3, 2)] (q := 33) (ls' := [(2, 1), (0, a), (0, b), (2, v8)]) (st' := [(2, v8)]) (by decide +kernel) rfl ?_
            refine zwnu_ne (q := 40) (nx := 36) (by decide +kernel) (by omega) (fun c10 => ?_) (fun c10 => ?_)
            · refine zwW_p [(1, 3, 2)] (q := 41) (ls' := [(2, 1), (0, a), (0, b), (2, v8)]) (st' := [(2, v8)]) (by decide +kernel) rfl ?_
              refine zwX_gi C (kd := 10) (bn := 0) (n := 3) (nx := 44) (by decide +kernel) Gv8.2.1 Gv8.1 rfl ?_
              intro v11 ev11 lv11 uv11
              refine zwW_ret (nx := 45) (a := 0) (b := 0) (by decide +kernel) rfl (Or.inl rfl) ?_
              exact ⟨rfl, by omega⟩
            · exfalso; omega
        · exfalso; omega
def msx35 : Zms := [(34, 34, 0, 1), (1004, 1004, 16, 17), (1004, 1004, 17, 18), (1006, 1006, 6, 7)]
-- WheelLand.pay(III)I
theorem x35 {sc : List Int} (h : Hp) (C : CI h) (a b c : Int) (q_a : -2147483648 ≤ a ∧ a ≤ 2147483647) (q_b : -2147483648 ≤ b ∧ b ≤ 2147483647) (q_c : -2147483648 ≤ c ∧ c ≤ 2147483647) : zwC sc 6 35 [(2, 1), (0, a), (0, b), (0, c)] h (zwRt 0 (fun x g => CI g ∧ zXR msx35 (0) (0) h g ∧ (-2147483648 ≤ x ∧ x ≤ 2147483647))) := by
  refine zwC_of (D := 5) 6 (by decide +kernel) rfl (ls := [(2, 1), (0, a), (0, b), (0, c), (9, 0), (9, 0)]) rfl ?_
  have X : zXR msx35 0 0 h h := zXR.rf _ _
  refine zwW_p [(1, 0, 2), (1, 1, 0)] (q := 2) (ls' := [(2, 1), (0, a), (0, b), (0, c), (9, 0), (9, 0)]) (st' := [(0, a), (2, 1)]) (by decide +kernel) rfl ?_
  refine zwW_cm C.1 (op := 60) (k' := 109) (n := 1) (kd := 12) (m := 13) (nx := 5) (r := 1) (tl := [(0, a)]) (st' := []) (by decide +kernel) rfl (by decide +kernel) rfl (x109 h C a (by omega)) ?_
  rintro v2 _ ⟨rfl, ⟨rfl, c1⟩ | ⟨Gv2, c1⟩⟩
  · refine zwW_p [(2, 4, 2), (1, 0, 2), (1, 2, 0)] (q := 9) (ls' := [(2, 1), (0, a), (0, b), (0, c), (2, 0), (9, 0)]) (st' := [(0, b), (2, 1)]) (by decide +kernel) rfl ?_
    refine zwW_cm C.1 (op := 60) (k' := 115) (n := 1) (kd := 12) (m := 13) (nx := 12) (r := 1) (tl := [(0, b)]) (st' := []) (by decide +kernel) rfl (by decide +kernel) rfl (x115 h C b (by omega)) ?_
    rintro v4 _ ⟨rfl, ⟨rfl, c3⟩ | ⟨Gv4, c3⟩⟩
    · refine zwW_p [(2, 5, 2), (1, 4, 2)] (q := 16) (ls' := [(2, 1), (0, a), (0, b), (0, c), (2, 0), (2, 0)]) (st' := [(2, 0)]) (by decide +kernel) rfl ?_
      refine zwnu_eq (q := 37) (nx := 19) (by decide +kernel) (by decide) (fun c5 => ?_) (fun c5 => ?_)
      · refine zwW_p [(0, -2147483648, 0)] (q := 39) (ls' := [(2, 1), (0, a), (0, b), (0, c), (2, 0), (2, 0)]) (st' := [(0, -2147483648)]) (by decide +kernel) rfl ?_
        refine zwW_ret (nx := 40) (a := 0) (b := 0) (by decide +kernel) rfl (Or.inl rfl) ?_
        exact ⟨C, X.le (by decide) (by decide), by omega⟩
      · exfalso; omega
    · have lv4 := Gv4.1
      have ev4 := c3.2.2
      refine zwW_p [(2, 5, 2), (1, 4, 2)] (q := 16) (ls' := [(2, 1), (0, a), (0, b), (0, c), (2, 0), (2, v4)]) (st' := [(2, 0)]) (by decide +kernel) rfl ?_
      refine zwnu_eq (q := 37) (nx := 19) (by decide +kernel) (by decide) (fun c6 => ?_) (fun c6 => ?_)
      · refine zwW_p [(0, -2147483648, 0)] (q := 39) (ls' := [(2, 1), (0, a), (0, b), (0, c), (2, 0), (2, v4)]) (st' := [(0, -2147483648)]) (by decide +kernel) rfl ?_
        refine zwW_ret (nx := 40) (a := 0) (b := 0) (by decide +kernel) rfl (Or.inl rfl) ?_
        exact ⟨C, X.le (by decide) (by decide), by omega⟩
      · exfalso; omega
  · have lv2 := Gv2.1
    have ev2 := c1.2.2
    refine zwW_p [(2, 4, 2), (1, 0, 2), (1, 2, 0)] (q := 9) (ls' := [(2, 1), (0, a), (0, b), (0, c), (2, v2), (9, 0)]) (st' := [(0, b), (2, 1)]) (by decide +kernel) rfl ?_
    refine zwW_cm C.1 (op := 60) (k' := 115) (n := 1) (kd := 12) (m := 13) (nx := 12) (r := 1) (tl := [(0, b)]) (st' := []) (by decide +kernel) rfl (by decide +kernel) rfl (x115 h C b (by omega)) ?_
    rintro v8 _ ⟨rfl, ⟨rfl, c7⟩ | ⟨Gv8, c7⟩⟩
    · refine zwW_p [(2, 5, 2), (1, 4, 2)] (q := 16) (ls' := [(2, 1), (0, a), (0, b), (0, c), (2, v2), (2, 0)]) (st' := [(2, v2)]) (by decide +kernel) rfl ?_
      refine zwnu_eq (q := 37) (nx := 19) (by decide +kernel) (by omega) (fun c9 => ?_) (fun c9 => ?_)
      · exfalso; omega
      · refine zwW_p [(1, 5, 2)] (q := 21) (ls' := [(2, 1), (0, a), (0, b), (0, c), (2, v2), (2, 0)]) (st' := [(2, 0)]) (by decide +kernel) rfl ?_
        refine zwnu_eq (q := 37) (nx := 24) (by decide +kernel) (by decide) (fun c10 => ?_) (fun c10 => ?_)
        · refine zwW_p [(0, -2147483648, 0)] (q := 39) (ls' := [(2, 1), (0, a), (0, b), (0, c), (2, v2), (2, 0)]) (st' := [(0, -2147483648)]) (by decide +kernel) rfl ?_
          refine zwW_ret (nx := 40) (a := 0) (b := 0) (by decide +kernel) rfl (Or.inl rfl) ?_
          exact ⟨C, X.le (by decide) (by decide), by omega⟩
        · exfalso; omega
    · have lv8 := Gv8.1
      have ev8 := c7.2.2
      refine zwW_p [(2, 5, 2), (1, 4, 2)] (q := 16) (ls' := [(2, 1), (0, a), (0, b), (0, c), (2, v2), (2, v8)]) (st' := [(2, v2)]) (by decide +kernel) rfl ?_
      refine zwnu_eq (q := 37) (nx := 19) (by decide +kernel) (by omega) (fun c11 => ?_) (fun c11 => ?_)
      · exfalso; omega
      · refine zwW_p [(1, 5, 2)] (q := 21) (ls' := [(2, 1), (0, a), (0, b), (0, c), (2, v2), (2, v8)]) (st' := [(2, v8)]) (by decide +kernel) rfl ?_
        refine zwnu_eq (q := 37) (nx := 24) (by decide +kernel) (by omega) (fun c12 => ?_) (fun c12 => ?_)
        · exfalso; omega
        · refine zwW_p [(1, 3, 0), (0, 1, 0), (1, 5, 2)] (q := 28) (ls' := [(2, 1), (0, a), (0, b), (0, c), (2, v2), (2, v8)]) (st' := [(2, v8), (0, 1), (0, c)]) (by decide +kernel) rfl ?_
          refine zwX_gi C (kd := 6) (bn := 6) (n := 7) (nx := 31) (by decide +kernel) Gv8.2.1 Gv8.1 rfl ?_
          intro v13 ev13 lv13 uv13
          refine zwW_cs (k' := 98) (n := 3) (nx := 34) (as := [(0, c), (0, 1), (0, v13)]) (st' := []) (by decide +kernel) rfl (x98 h C c 1 v13 (by omega) (by omega) (by omega)) rfl ?_
          rintro x _ ⟨rfl, ⟨rfl, c14⟩ | ⟨rfl, c14⟩⟩
          · refine zwif_eq (q := 40) (nx := 37) (by decide +kernel) (fun c15 => ?_) (fun c15 => ?_)
            · exfalso; omega
            · refine zwW_p [(0, -2147483648, 0)] (q := 39) (ls' := [(2, 1), (0, a), (0, b), (0, c), (2, v2), (2, v8)]) (st' := [(0, -2147483648)]) (by decide +kernel) rfl ?_
              refine zwW_ret (nx := 40) (a := 0) (b := 0) (by decide +kernel) rfl (Or.inl rfl) ?_
              exact ⟨C, X.le (by decide) (by decide), by omega⟩
          · refine zwif_eq (q := 40) (nx := 37) (by decide +kernel) (fun c16 => ?_) (fun c16 => ?_)
            · refine zwW_p [(1, 5, 2), (12, 0, 0)] (q := 43) (ls' := [(2, 1), (0, a), (0, b), (0, c), (2, v2), (2, v8)]) (st' := [(2, v8), (2, v8)]) (by decide +kernel) rfl ?_
              refine zwX_gi C (kd := 6) (bn := 6) (n := 7) (nx := 46) (by decide +kernel) Gv8.2.1 Gv8.1 rfl ?_
              intro v17 ev17 lv17 uv17
              refine zwW_p [(1, 3, 0)] (q := 47) (ls' := [(2, 1), (0, a), (0, b), (0, c), (2, v2), (2, v8)]) (st' := [(0, c), (0, v17), (2, v8)]) (by decide +kernel) rfl ?_
              refine zwW_sbw (nx := 48) (by decide +kernel) ?_
              intro v18 ev18 lv18 uv18
              have Ev18 : v18 = w32 ((fld h v8 6) - c) := by rw [ev18, ev17]
              refine zwX_pi C (kd := 6) (bn := 6) (n := 7) (nx := 51) (by decide +kernel) Gv8.2.1 Gv8.1 (by first | omega | exact ⟨by omega, by omega⟩) ?_
              rintro h19 eh19 Ch19 Qh19
              have Xh19 : zXR msx35 (0) (0) h h19 := X.tr (c2 := 0) (s2 := 0) Qh19 (by decide +kernel) (by decide) (by decide)
              have Gh19_0 : gH h19 v2 := Gv2.x Qh19
              have Gh19_1 : gL h19 v8 := Gv8.x Qh19
              refine zwW_p [(1, 4, 2), (12, 0, 0)] (q := 54) (ls' := [(2, 1), (0, a), (0, b), (0, c), (2, v2), (2, v8)]) (st' := [(2, v2), (2, v2)]) (by decide +kernel) rfl ?_
              refine zwX_gi Ch19 (kd := 4) (bn := 16) (n := 19) (nx := 57) (by decide +kernel) Gh19_0.2.1 Gh19_0.1 rfl ?_
              intro v20 ev20 lv20 uv20
              refine zwW_p [(1, 3, 0)] (q := 58) (ls' := [(2, 1), (0, a), (0, b), (0, c), (2, v2), (2, v8)]) (st' := [(0, c), (0, v20), (2, v2)]) (by decide +kernel) rfl ?_
              refine zwW_adw (nx := 59) (by decide +kernel) ?_
              intro v21 ev21 lv21 uv21
              have Ev21 : v21 = w32 ((fld h19 v2 16) + c) := by rw [ev21, ev20]
              refine zwX_pi Ch19 (kd := 4) (bn := 16) (n := 19) (nx := 62) (by decide +kernel) Gh19_0.2.1 Gh19_0.1 (by first | omega | exact ⟨by omega, by omega⟩) ?_
              rintro h22 eh22 Ch22 Qh22
              have Xh22 : zXR msx35 (0) (0) h h22 := Xh19.tr (c2 := 0) (s2 := 0) Qh22 (by decide +kernel) (by decide) (by decide)
              have Gh22_0 : gH h22 v2 := Gh19_0.x Qh22
              have Gh22_1 : gL h22 v8 := Gh19_1.x Qh22
              refine zwW_p [(1, 5, 2)] (q := 64) (ls' := [(2, 1), (0, a), (0, b), (0, c), (2, v2), (2, v8)]) (st' := [(2, v8)]) (by decide +kernel) rfl ?_
              refine zwW_get (kd := 6) (bn := 1) (t := 2) (n := 7) (nx := 67) (by decide +kernel) Gh22_1.2.1 rfl ?_
              obtain ⟨v23, ev23⟩ : ∃ z, z = fld h22 v8 1 := ⟨_, rfl⟩
              rw [← ev23]
              have Gv23 : gH h22 v23 := by rw [ev23]; exact Gh22_1.2.2
              have lv23 := Gv23.1
              refine zwW_p [(1, 4, 2)] (q := 69) (ls' := [(2, 1), (0, a), (0, b), (0, c), (2, v2), (2, v8)]) (st' := [(2, v2), (2, v23)]) (by decide +kernel) rfl ?_
              refine zwac_eq (q := 83) (nx := 72) (by decide +kernel) ⟨by omega, by omega, by omega, by omega⟩ (fun c24 => ?_) (fun c24 => ?_)
              · refine zwW_p [(1, 0, 2)] (q := 84) (ls' := [(2, 1), (0, a), (0, b), (0, c), (2, v2), (2, v8)]) (st' := [(2, 1)]) (by decide +kernel) rfl ?_
                refine zwW_gc Ch22.1 (kd := 12) (bn := 11) (n := 13) (c := 34) (nx := 87) (by decide +kernel) ?_
                refine zwW_p [(12, 0, 0)] (q := 88) (ls' := [(2, 1), (0, a), (0, b), (0, c), (2, v2), (2, v8)]) (st' := [(2, 34), (2, 34)]) (by decide +kernel) rfl ?_
                refine zwW_gs Ch22.1 (kd := 5) (bn := 0) (n := 4) (t := 0) (lo := -2147483648) (hi := 2147483647) (nx := 91) (by decide +kernel) ?_
                intro v25 ev25 lv25 uv25
                refine zwW_p [(1, 3, 0)] (q := 92) (ls' := [(2, 1), (0, a), (0, b), (0, c), (2, v2), (2, v8)]) (st' := [(0, c), (0, v25), (2, 34)]) (by decide +kernel) rfl ?_
                refine zwW_adw (nx := 93) (by decide +kernel) ?_
                intro v26 ev26 lv26 uv26
                refine zwW_ps Ch22.1 (kd := 5) (bn := 0) (n := 4) (lo := -2147483648) (hi := 2147483647) (nx := 96) (by decide +kernel) (by first | omega | exact ⟨by omega, by omega⟩) ?_
                intro h27 eh27 Ih27
                have Ch27 : CI h27 := Ch22.wc eh27 Ih27 (by decide) (by decide)
                have Qh27 : zXR [(34, 34, 0, 1)] 0 0 h22 h27 := zXR.wc eh27 rfl ⟨by decide, by decide, Or.inl (by decide)⟩ (by first | decide | exact ⟨by decide, by decide⟩)
                have Xh27 : zXR msx35 (0) (0) h h27 := Xh22.tr (c2 := 0) (s2 := 0) Qh27 (by decide +kernel) (by decide) (by decide)
                have Gh27_0 : gH h27 v2 := Gh22_0.x Qh27
                have Gh27_1 : gL h27 v8 := Gh22_1.x Qh27
                refine zwW_p [(1, 4, 2)] (q := 98) (ls' := [(2, 1), (0, a), (0, b), (0, c), (2, v2), (2, v8)]) (st' := [(2, v2)]) (by decide +kernel) rfl ?_
                refine zwX_gi Ch27 (kd := 4) (bn := 15) (n := 19) (nx := 101) (by decide +kernel) Gh27_0.2.1 Gh27_0.1 rfl ?_
                intro v28 ev28 lv28 uv28
                refine zwW_p [(1, 4, 2)] (q := 103) (ls' := [(2, 1), (0, a), (0, b), (0, c), (2, v2), (2, v8)]) (st' := [(2, v2), (0, v28)]) (by decide +kernel) rfl ?_
                refine zwX_gi Ch27 (kd := 4) (bn := 16) (n := 19) (nx := 106) (by decide +kernel) Gh27_0.2.1 Gh27_0.1 rfl ?_
                intro v29 ev29 lv29 uv29
                refine zwW_sbw (nx := 107) (by decide +kernel) ?_
                intro v30 ev30 lv30 uv30
                have Ev30 : v30 = w32 ((fld h27 v2 15) - (fld h27 v2 16)) := by rw [ev30, ev28, ev29]
                refine zwW_ret (nx := 108) (a := 0) (b := 0) (by decide +kernel) rfl (Or.inl rfl) ?_
                exact ⟨Ch27, Xh27.le (by decide) (by decide), by omega⟩
              · refine zwW_p [(1, 4, 2), (12, 0, 0)] (q := 75) (ls' := [(2, 1), (0, a), (0, b), (0, c), (2, v2), (2, v8)]) (st' := [(2, v2), (2, v2)]) (by decide +kernel) rfl ?_
                refine zwX_gi Ch22 (kd := 4) (bn := 17) (n := 19) (nx := 78) (by decide +kernel) Gh22_0.2.1 Gh22_0.1 rfl ?_
                intro v31 ev31 lv31 uv31
                refine zwW_p [(1, 3, 0)] (q := 79) (ls' := [(2, 1), (0, a), (0, b), (0, c), (2, v2), (2, v8)]) (st' := [(0, c), (0, v31), (2, v2)]) (by decide +kernel) rfl ?_
                refine zwW_adw (nx := 80) (by decide +kernel) ?_
                intro v32 ev32 lv32 uv32
                have Ev32 : v32 = w32 ((fld h22 v2 17) + c) := by rw [ev32, ev31]
                refine zwX_pi Ch22 (kd := 4) (bn := 17) (n := 19) (nx := 83) (by decide +kernel) Gh22_0.2.1 Gh22_0.1 (by first | omega | exact ⟨by omega, by omega⟩) ?_
                rintro h33 eh33 Ch33 Qh33
                have Xh33 : zXR msx35 (0) (0) h h33 := Xh22.tr (c2 := 0) (s2 := 0) Qh33 (by decide +kernel) (by decide) (by decide)
                have Gh33_0 : gH h33 v2 := Gh22_0.x Qh33
                have Gh33_1 : gL h33 v8 := Gh22_1.x Qh33
                refine zwW_p [(1, 0, 2)] (q := 84) (ls' := [(2, 1), (0, a), (0, b), (0, c), (2, v2), (2, v8)]) (st' := [(2, 1)]) (by decide +kernel) rfl ?_
                refine zwW_gc Ch33.1 (kd := 12) (bn := 11) (n := 13) (c := 34) (nx := 87) (by decide +kernel) ?_
                refine zwW_p [(12, 0, 0)] (q := 88) (ls' := [(2, 1), (0, a), (0, b), (0, c), (2, v2), (2, v8)]) (st' := [(2, 34), (2, 34)]) (by decide +kernel) rfl ?_
                refine zwW_gs Ch33.1 (kd := 5) (bn := 0) (n := 4) (t := 0) (lo := -2147483648) (hi := 2147483647) (nx := 91) (by decide +kernel) ?_
                intro v34 ev34 lv34 uv34
                refine zwW_p [(1, 3, 0)] (q := 92) (ls' := [(2, 1), (0, a), (0, b), (0, c), (2, v2), (2, v8)]) (st' := [(0, c), (0, v34), (2, 34)]) (by decide +kernel) rfl ?_
                refine zwW_adw (nx := 93) (by decide +kernel) ?_
                intro v35 ev35 lv35 uv35
                refine zwW_ps Ch33.1 (kd := 5) (bn := 0) (n := 4) (lo := -2147483648) (hi := 2147483647) (nx := 96) (by decide +kernel) (by first | omega | exact ⟨by omega, by omega⟩) ?_
                intro h36 eh36 Ih36
                have Ch36 : CI h36 := Ch33.wc eh36 Ih36 (by decide) (by decide)
                have Qh36 : zXR [(34, 34, 0, 1)] 0 0 h33 h36 := zXR.wc eh36 rfl ⟨by decide, by decide, Or.inl (by decide)⟩ (by first | decide | exact ⟨by decide, by decide⟩)
                have Xh36 : zXR msx35 (0) (0) h h36 := Xh33.tr (c2 := 0) (s2 := 0) Qh36 (by decide +kernel) (by decide) (by decide)
                have Gh36_0 : gH h36 v2 := Gh33_0.x Qh36
                have Gh36_1 : gL h36 v8 := Gh33_1.x Qh36
                refine zwW_p [(1, 4, 2)] (q := 98) (ls' := [(2, 1), (0, a), (0, b), (0, c), (2, v2), (2, v8)]) (st' := [(2, v2)]) (by decide +kernel) rfl ?_
                refine zwX_gi Ch36 (kd := 4) (bn := 15) (n := 19) (nx := 101) (by decide +kernel) Gh36_0.2.1 Gh36_0.1 rfl ?_
                intro v37 ev37 lv37 uv37
                refine zwW_p [(1, 4, 2)] (q := 103) (ls' := [(2, 1), (0, a), (0, b), (0, c), (2, v2), (2, v8)]) (st' := [(2, v2), (0, v37)]) (by decide +kernel) rfl ?_
                refine zwX_gi Ch36 (kd := 4) (bn := 16) (n := 19) (nx := 106) (by decide +kernel) Gh36_0.2.1 Gh36_0.1 rfl ?_
                intro v38 ev38 lv38 uv38
                refine zwW_sbw (nx := 107) (by decide +kernel) ?_
                intro v39 ev39 lv39 uv39
                have Ev39 : v39 = w32 ((fld h36 v2 15) - (fld h36 v2 16)) := by rw [ev39, ev37, ev38]
                refine zwW_ret (nx := 108) (a := 0) (b := 0) (by decide +kernel) rfl (Or.inl rfl) ?_
                exact ⟨Ch36, Xh36.le (by decide) (by decide), by omega⟩
            · exfalso; omega
-- WheelLand.due(II)I
theorem x37 {sc : List Int} (h : Hp) (C : CI h) (a b : Int) (q_a : -2147483648 ≤ a ∧ a ≤ 2147483647) (q_b : -2147483648 ≤ b ∧ b ≤ 2147483647) : zwC sc 6 37 [(2, 1), (0, a), (0, b)] h (zwRt 0 (fun x g => h = g ∧ (-2147483648 ≤ x ∧ x ≤ 2147483647))) := by
  refine zwC_of (D := 5) 4 (by decide +kernel) rfl (ls := [(2, 1), (0, a), (0, b), (9, 0)]) rfl ?_
  refine zwW_p [(1, 0, 2), (1, 1, 0)] (q := 2) (ls' := [(2, 1), (0, a), (0, b), (9, 0)]) (st' := [(0, a), (2, 1)]) (by decide +kernel) rfl ?_
  refine zwW_cm C.1 (op := 60) (k' := 109) (n := 1) (kd := 12) (m := 13) (nx := 5) (r := 1) (tl := [(0, a)]) (st' := []) (by decide +kernel) rfl (by decide +kernel) rfl (x109 h C a (by omega)) ?_
  rintro v2 _ ⟨rfl, ⟨rfl, c1⟩ | ⟨Gv2, c1⟩⟩
  · refine zwW_p [(2, 3, 2), (1, 3, 2)] (q := 7) (ls' := [(2, 1), (0, a), (0, b), (2, 0)]) (st' := [(2, 0)]) (by decide +kernel) rfl ?_
    refine zwnu_ne (q := 13) (nx := 10) (by decide +kernel) (by decide) (fun c3 => ?_) (fun c3 => ?_)
    · exfalso; omega
    · refine zwW_p [(0, -2147483648, 0)] (q := 12) (ls' := [(2, 1), (0, a), (0, b), (2, 0)]) (st' := [(0, -2147483648)]) (by decide +kernel) rfl ?_
      refine zwW_ret (nx := 13) (a := 0) (b := 0) (by decide +kernel) rfl (Or.inl rfl) ?_
      exact ⟨rfl, by omega⟩
  · have lv2 := Gv2.1
    have ev2 := c1.2.2
    refine zwW_p [(2, 3, 2), (1, 3, 2)] (q := 7) (ls' := [(2, 1), (0, a), (0, b), (2, v2)]) (st' := [(2, v2)]) (by decide +kernel) rfl ?_
    refine zwnu_ne (q := 13) (nx := 10) (by decide +kernel) (by omega) (fun c4 => ?_) (fun c4 => ?_)
    · refine zwW_p [(1, 2, 0)] (q := 14) (ls' := [(2, 1), (0, a), (0, b), (2, v2)]) (st' := [(0, b)]) (by decide +kernel) rfl ?_
      refine zwW_sw (d := 87) (os := [0, 48, 1, 58, 2, 63, 3, 68, 4, 82]) (by decide +kernel) ?_
      refine ⟨fun c5 => ?_, fun c5 => ?_⟩
      · show zwW _ _ _ 48 _ _ _ _
        refine zwW_p [(1, 3, 2)] (q := 49) (ls' := [(2, 1), (0, a), (0, b), (2, v2)]) (st' := [(2, v2)]) (by decide +kernel) rfl ?_
        refine zwX_gi C (kd := 4) (bn := 15) (n := 19) (nx := 52) (by decide +kernel) Gv2.2.1 Gv2.1 rfl ?_
        intro v6 ev6 lv6 uv6
        refine zwW_p [(1, 3, 2)] (q := 53) (ls' := [(2, 1), (0, a), (0, b), (2, v2)]) (st' := [(2, v2), (0, v6)]) (by decide +kernel) rfl ?_
        refine zwX_gi C (kd := 4) (bn := 16) (n := 19) (nx := 56) (by decide +kernel) Gv2.2.1 Gv2.1 rfl ?_
        intro v7 ev7 lv7 uv7
        refine zwW_sbw (nx := 57) (by decide +kernel) ?_
        intro v8 ev8 lv8 uv8
        have Ev8 : v8 = w32 ((fld h v2 15) - (fld h v2 16)) := by rw [ev8, ev6, ev7]
        refine zwW_ret (nx := 58) (a := 0) (b := 0) (by decide +kernel) rfl (Or.inl rfl) ?_
        exact ⟨rfl, by omega⟩
      refine ⟨fun c9 => ?_, fun c9 => ?_⟩
      · show zwW _ _ _ 58 _ _ _ _
        refine zwW_p [(1, 3, 2)] (q := 59) (ls' := [(2, 1), (0, a), (0, b), (2, v2)]) (st' := [(2, v2)]) (by decide +kernel) rfl ?_
        refine zwX_gi C (kd := 4) (bn := 16) (n := 19) (nx := 62) (by decide +kernel) Gv2.2.1 Gv2.1 rfl ?_
        intro v10 ev10 lv10 uv10
        refine zwW_ret (nx := 63) (a := 0) (b := 0) (by decide +kernel) rfl (Or.inl rfl) ?_
        exact ⟨rfl, by omega⟩
      refine ⟨fun c11 => ?_, fun c11 => ?_⟩
      · show zwW _ _ _ 63 _ _ _ _
        refine zwW_p [(1, 3, 2)] (q := 64) (ls' := [(2, 1), (0, a), (0, b), (2, v2)]) (st' := [(2, v2)]) (by decide +kernel) rfl ?_
        refine zwX_gi C (kd := 4) (bn := 18) (n := 19) (nx := 67) (by decide +kernel) Gv2.2.1 Gv2.1 rfl ?_
        intro v12 ev12 lv12 uv12
        refine zwW_ret (nx := 68) (a := 0) (b := 0) (by decide +kernel) rfl (Or.inl rfl) ?_
        exact ⟨rfl, by omega⟩
      refine ⟨fun c13 => ?_, fun c13 => ?_⟩
      · show zwW _ _ _ 68 _ _ _ _
        refine zwW_p [(1, 3, 2)] (q := 69) (ls' := [(2, 1), (0, a), (0, b), (2, v2)]) (st' := [(2, v2)]) (by decide +kernel) rfl ?_
        refine zwX_gi C (kd := 4) (bn := 16) (n := 19) (nx := 72) (by decide +kernel) Gv2.2.1 Gv2.1 rfl ?_
        intro v14 ev14 lv14 uv14
        refine zwW_p [(1, 3, 2)] (q := 73) (ls' := [(2, 1), (0, a), (0, b), (2, v2)]) (st' := [(2, v2), (0, v14)]) (by decide +kernel) rfl ?_
        refine zwX_gi C (kd := 4) (bn := 18) (n := 19) (nx := 76) (by decide +kernel) Gv2.2.1 Gv2.1 rfl ?_
        intro v15 ev15 lv15 uv15
        refine zwW_sbw (nx := 77) (by decide +kernel) ?_
        intro v16 ev16 lv16 uv16
        have Ev16 : v16 = w32 ((fld h v2 16) - (fld h v2 18)) := by rw [ev16, ev14, ev15]
        refine zwW_p [(0, 0, 0)] (q := 78) (ls' := [(2, 1), (0, a), (0, b), (2, v2)]) (st' := [(0, 0), (0, v16)]) (by decide +kernel) rfl ?_
        refine zwW_max (nx := 81) (by decide +kernel) rfl ?_
        intro v17 ev17
        refine zwW_ret (nx := 82) (a := 0) (b := 0) (by decide +kernel) rfl (Or.inl rfl) ?_
        exact ⟨rfl, by omega⟩
      refine ⟨fun c18 => ?_, fun c18 => ?_⟩
      · show zwW _ _ _ 82 _ _ _ _
        refine zwW_p [(1, 3, 2)] (q := 83) (ls' := [(2, 1), (0, a), (0, b), (2, v2)]) (st' := [(2, v2)]) (by decide +kernel) rfl ?_
        refine zwX_gi C (kd := 4) (bn := 17) (n := 19) (nx := 86) (by decide +kernel) Gv2.2.1 Gv2.1 rfl ?_
        intro v19 ev19 lv19 uv19
        refine zwW_ret (nx := 87) (a := 0) (b := 0) (by decide +kernel) rfl (Or.inl rfl) ?_
        exact ⟨rfl, by omega⟩
      show zwW _ _ _ 87 _ _ _ _
      refine zwW_p [(0, -2147483648, 0)] (q := 89) (ls' := [(2, 1), (0, a), (0, b), (2, v2)]) (st' := [(0, -2147483648)]) (by decide +kernel) rfl ?_
      refine zwW_ret (nx := 90) (a := 0) (b := 0) (by decide +kernel) rfl (Or.inl rfl) ?_
      exact ⟨rfl, by omega⟩
    · exfalso; omega
def msx39 : Zms := [(17, 17, 0, 13), (18, 18, 0, 400)]
-- WheelLand.bar(III)I
theorem x39 {sc : List Int} (h : Hp) (C : CI h) (a b c : Int) (q_a : -2147483648 ≤ a ∧ a ≤ 2147483647) (q_b : -2147483648 ≤ b ∧ b ≤ 2147483647) (q_c : -2147483648 ≤ c ∧ c ≤ 2147483647) : zwC sc 7 39 [(2, 1), (0, a), (0, b), (0, c)] h (zwRt 0 (fun x g => CI g ∧ zXR msx39 (0) (0) h g ∧ (-2147483648 ≤ x ∧ x ≤ 2147483647))) := by
  refine zwC_of (D := 6) 6 (by decide +kernel) rfl (ls := [(2, 1), (0, a), (0, b), (0, c), (9, 0), (9, 0)]) rfl ?_
  have X : zXR msx39 0 0 h h := zXR.rf _ _
  refine zwW_p [(1, 0, 2), (1, 1, 0)] (q := 2) (ls' := [(2, 1), (0, a), (0, b), (0, c), (9, 0), (9, 0)]) (st' := [(0, a), (2, 1)]) (by decide +kernel) rfl ?_
  refine zwW_cm C.1 (op := 60) (k' := 109) (n := 1) (kd := 12) (m := 13) (nx := 5) (r := 1) (tl := [(0, a)]) (st' := []) (by decide +kernel) rfl (by decide +kernel) rfl (x109 h C a (by omega)) ?_
  rintro v2 _ ⟨rfl, ⟨rfl, c1⟩ | ⟨Gv2, c1⟩⟩
  · refine zwW_p [(2, 4, 2), (1, 0, 2), (1, 2, 0)] (q := 9) (ls' := [(2, 1), (0, a), (0, b), (0, c), (2, 0), (9, 0)]) (st' := [(0, b), (2, 1)]) (by decide +kernel) rfl ?_
    refine zwW_cm C.1 (op := 60) (k' := 115) (n := 1) (kd := 12) (m := 13) (nx := 12) (r := 1) (tl := [(0, b)]) (st' := []) (by decide +kernel) rfl (by decide +kernel) rfl (x115 h C b (by omega)) ?_
    rintro v4 _ ⟨rfl, ⟨rfl, c3⟩ | ⟨Gv4, c3⟩⟩
    · refine zwW_p [(2, 5, 2), (1, 4, 2)] (q := 16) (ls' := [(2, 1), (0, a), (0, b), (0, c), (2, 0), (2, 0)]) (st' := [(2, 0)]) (by decide +kernel) rfl ?_
      refine zwnu_eq (q := 31) (nx := 19) (by decide +kernel) (by decide) (fun c5 => ?_) (fun c5 => ?_)
      · refine zwW_p [(0, -1, 0)] (q := 32) (ls' := [(2, 1), (0, a), (0, b), (0, c), (2, 0), (2, 0)]) (st' := [(0, -1)]) (by decide +kernel) rfl ?_
        refine zwW_ret (nx := 33) (a := 0) (b := 0) (by decide +kernel) rfl (Or.inl rfl) ?_
        exact ⟨C, X.le (by decide) (by decide), by omega⟩
      · exfalso; omega
    · have lv4 := Gv4.1
      have ev4 := c3.2.2
      refine zwW_p [(2, 5, 2), (1, 4, 2)] (q := 16) (ls' := [(2, 1), (0, a), (0, b), (0, c), (2, 0), (2, v4)]) (st' := [(2, 0)]) (by decide +kernel) rfl ?_
      refine zwnu_eq (q := 31) (nx := 19) (by decide +kernel) (by decide) (fun c6 => ?_) (fun c6 => ?_)
      · refine zwW_p [(0, -1, 0)] (q := 32) (ls' := [(2, 1), (0, a), (0, b), (0, c), (2, 0), (2, v4)]) (st' := [(0, -1)]) (by decide +kernel) rfl ?_
        refine zwW_ret (nx := 33) (a := 0) (b := 0) (by decide +kernel) rfl (Or.inl rfl) ?_
        exact ⟨C, X.le (by decide) (by decide), by omega⟩
      · exfalso; omega
  · have lv2 := Gv2.1
    have ev2 := c1.2.2
    refine zwW_p [(2, 4, 2), (1, 0, 2), (1, 2, 0)] (q := 9) (ls' := [(2, 1), (0, a), (0, b), (0, c), (2, v2), (9, 0)]) (st' := [(0, b), (2, 1)]) (by decide +kernel) rfl ?_
    refine zwW_cm C.1 (op := 60) (k' := 115) (n := 1) (kd := 12) (m := 13) (nx := 12) (r := 1) (tl := [(0, b)]) (st' := []) (by decide +kernel) rfl (by decide +kernel) rfl (x115 h C b (by omega)) ?_
    rintro v8 _ ⟨rfl, ⟨rfl, c7⟩ | ⟨Gv8, c7⟩⟩
    · refine zwW_p [(2, 5, 2), (1, 4, 2)] (q := 16) (ls' := [(2, 1), (0, a), (0, b), (0, c), (2, v2), (2, 0)]) (st' := [(2, v2)]) (by decide +kernel) rfl ?_
      refine zwnu_eq (q := 31) (nx := 19) (by decide +kernel) (by omega) (fun c9 => ?_) (fun c9 => ?_)
      · exfalso; omega
      · refine zwW_p [(1, 5, 2)] (q := 21) (ls' := [(2, 1), (0, a), (0, b), (0, c), (2, v2), (2, 0)]) (st' := [(2, 0)]) (by decide +kernel) rfl ?_
        refine zwnu_eq (q := 31) (nx := 24) (by decide +kernel) (by decide) (fun c10 => ?_) (fun c10 => ?_)
        · refine zwW_p [(0, -1, 0)] (q := 32) (ls' := [(2, 1), (0, a), (0, b), (0, c), (2, v2), (2, 0)]) (st' := [(0, -1)]) (by decide +kernel) rfl ?_
          refine zwW_ret (nx := 33) (a := 0) (b := 0) (by decide +kernel) rfl (Or.inl rfl) ?_
          exact ⟨C, X.le (by decide) (by decide), by omega⟩
        · exfalso; omega
    · have lv8 := Gv8.1
      have ev8 := c7.2.2
      refine zwW_p [(2, 5, 2), (1, 4, 2)] (q := 16) (ls' := [(2, 1), (0, a), (0, b), (0, c), (2, v2), (2, v8)]) (st' := [(2, v2)]) (by decide +kernel) rfl ?_
      refine zwnu_eq (q := 31) (nx := 19) (by decide +kernel) (by omega) (fun c11 => ?_) (fun c11 => ?_)
      · exfalso; omega
      · refine zwW_p [(1, 5, 2)] (q := 21) (ls' := [(2, 1), (0, a), (0, b), (0, c), (2, v2), (2, v8)]) (st' := [(2, v8)]) (by decide +kernel) rfl ?_
        refine zwnu_eq (q := 31) (nx := 24) (by decide +kernel) (by omega) (fun c12 => ?_) (fun c12 => ?_)
        · exfalso; omega
        · refine zwW_p [(1, 3, 0)] (q := 25) (ls' := [(2, 1), (0, a), (0, b), (0, c), (2, v2), (2, v8)]) (st' := [(0, c)]) (by decide +kernel) rfl ?_
          refine zwW_cs (k' := 130) (n := 1) (nx := 28) (as := [(0, c)]) (st' := []) (by decide +kernel) rfl (x130 h C c (by omega)) rfl ?_
          rintro x _ ⟨rfl, ⟨rfl, c13⟩ | ⟨rfl, c13⟩⟩
          · refine zwif_ne (q := 33) (nx := 31) (by decide +kernel) (fun c14 => ?_) (fun c14 => ?_)
            · refine zwW_p [(1, 0, 2), (1, 4, 2), (1, 5, 2), (1, 3, 0)] (q := 39) (ls' := [(2, 1), (0, a), (0, b), (0, c), (2, v2), (2, v8)]) (st' := [(0, c), (2, v8), (2, v2), (2, 1)]) (by decide +kernel) rfl ?_
              refine zwW_cm C.1 (op := 60) (k' := 131) (n := 3) (kd := 12) (m := 13) (nx := 42) (r := 1) (tl := [(2, v2), (2, v8), (0, c)]) (st' := []) (by decide +kernel) rfl (by decide +kernel) rfl (x131 h C v2 v8 c Gv2 Gv8 (by omega)) ?_
              rintro v16 h17 ⟨Ch17, Qh17, f15⟩
              have Xh17 : zXR msx39 (0) (0) h h17 := X.tr (c2 := 0) (s2 := 0) Qh17 (by decide +kernel) (by decide) (by decide)
              have Gh17_0 : gH h17 v2 := Gv2.x Qh17
              have Gh17_1 : gL h17 v8 := Gv8.x Qh17
              refine zwW_ret (nx := 43) (a := 0) (b := 0) (by decide +kernel) rfl (Or.inl rfl) ?_
              exact ⟨Ch17, Xh17.le (by decide) (by decide), by omega⟩
            · exfalso; omega
          · refine zwif_ne (q := 33) (nx := 31) (by decide +kernel) (fun c18 => ?_) (fun c18 => ?_)
            · exfalso; omega
            · refine zwW_p [(0, -1, 0)] (q := 32) (ls' := [(2, 1), (0, a), (0, b), (0, c), (2, v2), (2, v8)]) (st' := [(0, -1)]) (by decide +kernel) rfl ?_
              refine zwW_ret (nx := 33) (a := 0) (b := 0) (by decide +kernel) rfl (Or.inl rfl) ?_
              exact ⟨C, X.le (by decide) (by decide), by omega⟩
end
section
/-! contracts of the class -/
def msx41 : Zms := [(5, 5, 0, 3), (17, 17, 0, 13), (18, 18, 0, 400), (34, 34, 1, 2), (1004, 1004, 6, 7), (1004, 1004, 14, 15), (1006, 1006, 6, 7)]
-- WheelLand.weave(III)I
theorem x41 {sc : List Int} (h : Hp) (C : CI h) (a b c : Int) (q_a : -2147483648 ≤ a ∧ a ≤ 2147483647) (q_b : -2147483648 ≤ b ∧ b ≤ 2147483647) (q_c : -2147483648 ≤ c ∧ c ≤ 2147483647) (hl : h.length ≤ 999930000) : zwC sc 7 41 [(2, 1), (0, a), (0, b), (0, c)] h (zwRt 0 (fun x g => CI g ∧ zXR msx41 (2) (1006) h g ∧ (-2147483648 ≤ x ∧ x ≤ 2147483647))) := by
  refine zwC_of (D := 6) 8 (by decide +kernel) rfl (ls := [(2, 1), (0, a), (0, b), (0, c), (9, 0), (9, 0), (9, 0), (9, 0)]) rfl ?_
  have X : zXR msx41 0 0 h h := zXR.rf _ _
  refine zwW_p [(1, 0, 2), (1, 1, 0)] (q := 2) (ls' := [(2, 1), (0, a), (0, b), (0, c), (9, 0), (9, 0), (9, 0), (9, 0)]) (st' := [(0, a), (2, 1)]) (by decide +kernel) rfl ?_
  refine zwW_cm C.1 (op := 60) (k' := 109) (n := 1) (kd := 12) (m := 13) (nx := 5) (r := 1) (tl := [(0, a)]) (st' := []) (by decide +kernel) rfl (by decide +kernel) rfl (x109 h C a (by omega)) ?_
  rintro v2 _ ⟨rfl, ⟨rfl, c1⟩ | ⟨Gv2, c1⟩⟩
  · refine zwW_p [(2, 4, 2), (1, 0, 2), (1, 2, 0)] (q := 9) (ls' := [(2, 1), (0, a), (0, b), (0, c), (2, 0), (9, 0), (9, 0), (9, 0)]) (st' := [(0, b), (2, 1)]) (by decide +kernel) rfl ?_
    refine zwW_cm C.1 (op := 60) (k' := 115) (n := 1) (kd := 12) (m := 13) (nx := 12) (r := 1) (tl := [(0, b)]) (st' := []) (by decide +kernel) rfl (by decide +kernel) rfl (x115 h C b (by omega)) ?_
    rintro v4 _ ⟨rfl, ⟨rfl, c3⟩ | ⟨Gv4, c3⟩⟩
    · refine zwW_p [(2, 5, 2), (1, 4, 2)] (q := 16) (ls' := [(2, 1), (0, a), (0, b), (0, c), (2, 0), (2, 0), (9, 0), (9, 0)]) (st' := [(2, 0)]) (by decide +kernel) rfl ?_
      refine zwnu_eq (q := 66) (nx := 19) (by decide +kernel) (by decide) (fun c5 => ?_) (fun c5 => ?_)
      · refine zwW_p [(0, -1, 0)] (q := 67) (ls' := [(2, 1), (0, a), (0, b), (0, c), (2, 0), (2, 0), (9, 0), (9, 0)]) (st' := [(0, -1)]) (by decide +kernel) rfl ?_
        refine zwW_ret (nx := 68) (a := 0) (b := 0) (by decide +kernel) rfl (Or.inl rfl) ?_
        exact ⟨C, X.le (by decide) (by decide), by omega⟩
      · exfalso; omega
    · have lv4 := Gv4.1
      have ev4 := c3.2.2
      refine zwW_p [(2, 5, 2), (1, 4, 2)] (q := 16) (ls' := [(2, 1), (0, a), (0, b), (0, c), (2, 0), (2, v4), (9, 0), (9, 0)]) (st' := [(2, 0)]) (by decide +kernel) rfl ?_
      refine zwnu_eq (q := 66) (nx := 19) (by decide +kernel) (by decide) (fun c6 => ?_) (fun c6 => ?_)
      · refine zwW_p [(0, -1, 0)] (q := 67) (ls' := [(2, 1), (0, a), (0, b), (0, c), (2, 0), (2, v4), (9, 0), (9, 0)]) (st' := [(0, -1)]) (by decide +kernel) rfl ?_
        refine zwW_ret (nx := 68) (a := 0) (b := 0) (by decide +kernel) rfl (Or.inl rfl) ?_
        exact ⟨C, X.le (by decide) (by decide), by omega⟩
      · exfalso; omega
  · have lv2 := Gv2.1
    have ev2 := c1.2.2
    refine zwW_p [(2, 4, 2), (1, 0, 2), (1, 2, 0)] (q := 9) (ls' := [(2, 1), (0, a), (0, b), (0, c), (2, v2), (9, 0), (9, 0), (9, 0)]) (st' := [(0, b), (2, 1)]) (by decide +kernel) rfl ?_
    refine zwW_cm C.1 (op := 60) (k' := 115) (n := 1) (kd := 12) (m := 13) (nx := 12) (r := 1) (tl := [(0, b)]) (st' := []) (by decide +kernel) rfl (by decide +kernel) rfl (x115 h C b (by omega)) ?_
    rintro v8 _ ⟨rfl, ⟨rfl, c7⟩ | ⟨Gv8, c7⟩⟩
    · refine zwW_p [(2, 5, 2), (1, 4, 2)] (q := 16) (ls' := [(2, 1), (0, a), (0, b), (0, c), (2, v2), (2, 0), (9, 0), (9, 0)]) (st' := [(2, v2)]) (by decide +kernel) rfl ?_
      refine zwnu_eq (q := 66) (nx := 19) (by decide +kernel) (by omega) (fun c9 => ?_) (fun c9 => ?_)
      · exfalso; omega
      · refine zwW_p [(1, 5, 2)] (q := 21) (ls' := [(2, 1), (0, a), (0, b), (0, c), (2, v2), (2, 0), (9, 0), (9, 0)]) (st' := [(2, 0)]) (by decide +kernel) rfl ?_
        refine zwnu_eq (q := 66) (nx := 24) (by decide +kernel) (by decide) (fun c10 => ?_) (fun c10 => ?_)
        · refine zwW_p [(0, -1, 0)] (q := 67) (ls' := [(2, 1), (0, a), (0, b), (0, c), (2, v2), (2, 0), (9, 0), (9, 0)]) (st' := [(0, -1)]) (by decide +kernel) rfl ?_
          refine zwW_ret (nx := 68) (a := 0) (b := 0) (by decide +kernel) rfl (Or.inl rfl) ?_
          exact ⟨C, X.le (by decide) (by decide), by omega⟩
        · exfalso; omega
    · have lv8 := Gv8.1
      have ev8 := c7.2.2
      refine zwW_p [(2, 5, 2), (1, 4, 2)] (q := 16) (ls' := [(2, 1), (0, a), (0, b), (0, c), (2, v2), (2, v8), (9, 0), (9, 0)]) (st' := [(2, v2)]) (by decide +kernel) rfl ?_
      refine zwnu_eq (q := 66) (nx := 19) (by decide +kernel) (by omega) (fun c11 => ?_) (fun c11 => ?_)
      · exfalso; omega
      · refine zwW_p [(1, 5, 2)] (q := 21) (ls' := [(2, 1), (0, a), (0, b), (0, c), (2, v2), (2, v8), (9, 0), (9, 0)]) (st' := [(2, v8)]) (by decide +kernel) rfl ?_
        refine zwnu_eq (q := 66) (nx := 24) (by decide +kernel) (by omega) (fun c12 => ?_) (fun c12 => ?_)
        · exfalso; omega
        · refine zwW_p [(1, 3, 0)] (q := 25) (ls' := [(2, 1), (0, a), (0, b), (0, c), (2, v2), (2, v8), (9, 0), (9, 0)]) (st' := [(0, c)]) (by decide +kernel) rfl ?_
          refine zwW_cs (k' := 130) (n := 1) (nx := 28) (as := [(0, c)]) (st' := []) (by decide +kernel) rfl (x130 h C c (by omega)) rfl ?_
          rintro x _ ⟨rfl, ⟨rfl, c13⟩ | ⟨rfl, c13⟩⟩
          · refine zwif_eq (q := 66) (nx := 31) (by decide +kernel) (fun c14 => ?_) (fun c14 => ?_)
            · exfalso; omega
            · refine zwW_p [(1, 0, 2)] (q := 32) (ls' := [(2, 1), (0, a), (0, b), (0, c), (2, v2), (2, v8), (9, 0), (9, 0)]) (st' := [(2, 1)]) (by decide +kernel) rfl ?_
              refine zwW_gc C.1 (kd := 12) (bn := 5) (n := 13) (c := 5) (nx := 35) (by decide +kernel) ?_
              refine zwW_cm C.1 (op := 60) (k' := 96) (n := 0) (kd := 0) (m := 3) (nx := 38) (r := 5) (tl := []) (st' := []) (by decide +kernel) rfl (by decide +kernel) rfl (x96_5 C) ?_
              rintro v15 _ ⟨rfl, ev15⟩
              have bv15 := zLb_5 C
              refine zwW_p [(0, 200, 0)] (q := 41) (ls' := [(2, 1), (0, a), (0, b), (0, c), (2, v2), (2, v8), (9, 0), (9, 0)]) (st' := [(0, 200), (0, v15)]) (by decide +kernel) rfl ?_
              refine zwic_ge (q := 66) (nx := 44) (by decide +kernel) (fun c16 => ?_) (fun c16 => ?_)
              · refine zwW_p [(0, -1, 0)] (q := 67) (ls' := [(2, 1), (0, a), (0, b), (0, c), (2, v2), (2, v8), (9, 0), (9, 0)]) (st' := [(0, -1)]) (by decide +kernel) rfl ?_
                refine zwW_ret (nx := 68) (a := 0) (b := 0) (by decide +kernel) rfl (Or.inl rfl) ?_
                exact ⟨C, X.le (by decide) (by decide), by omega⟩
              · refine zwW_p [(1, 0, 2)] (q := 45) (ls' := [(2, 1), (0, a), (0, b), (0, c), (2, v2), (2, v8), (9, 0), (9, 0)]) (st' := [(2, 1)]) (by decide +kernel) rfl ?_
                refine zwW_gs C.1 (kd := 12) (bn := 0) (n := 13) (t := 0) (lo := 0) (hi := 156) (nx := 48) (by decide +kernel) ?_
                intro v17 ev17 lv17 uv17
                refine zwW_p [(0, 156, 0)] (q := 51) (ls' := [(2, 1), (0, a), (0, b), (0, c), (2, v2), (2, v8), (9, 0), (9, 0)]) (st' := [(0, 156), (0, v17)]) (by decide +kernel) rfl ?_
                refine zwic_ge (q := 66) (nx := 54) (by decide +kernel) (fun c18 => ?_) (fun c18 => ?_)
                · refine zwW_p [(0, -1, 0)] (q := 67) (ls' := [(2, 1), (0, a), (0, b), (0, c), (2, v2), (2, v8), (9, 0), (9, 0)]) (st' := [(0, -1)]) (by decide +kernel) rfl ?_
                  refine zwW_ret (nx := 68) (a := 0) (b := 0) (by decide +kernel) rfl (Or.inl rfl) ?_
                  exact ⟨C, X.le (by decide) (by decide), by omega⟩
                · refine zwW_p [(1, 0, 2), (1, 4, 2), (1, 5, 2), (1, 3, 0)] (q := 60) (ls' := [(2, 1), (0, a), (0, b), (0, c), (2, v2), (2, v8), (9, 0), (9, 0)]) (st' := [(0, c), (2, v8), (2, v2), (2, 1)]) (by decide +kernel) rfl ?_
                  refine zwW_cm C.1 (op := 60) (k' := 131) (n := 3) (kd := 12) (m := 13) (nx := 63) (r := 1) (tl := [(2, v2), (2, v8), (0, c)]) (st' := []) (by decide +kernel) rfl (by decide +kernel) rfl (x131 h C v2 v8 c Gv2 Gv8 (by omega)) ?_
                  rintro v20 h21 ⟨Ch21, Qh21, f19⟩
                  have Xh21 : zXR msx41 (0) (0) h h21 := X.tr (c2 := 0) (s2 := 0) Qh21 (by decide +kernel) (by decide) (by decide)
                  have Gh21_0 : gH h21 v2 := Gv2.x Qh21
                  have Gh21_1 : gL h21 v8 := Gv8.x Qh21
                  have th21_5_2 : fld h21 5 2 = fld h 5 2 := Qh21.f (a1 := 5) (a2 := 5) (j1 := 2) (j2 := 3) (by decide +kernel) (by first | decide | exact ⟨by decide, by decide⟩) (by first | decide | exact ⟨by decide, by decide⟩) (by first | decide | exact ⟨by decide, by decide⟩)
                  refine zwif_eq (q := 68) (nx := 66) (by decide +kernel) (fun c22 => ?_) (fun c22 => ?_)
                  · refine zwW_p [(1, 0, 2), (0, 1, 0), (1, 4, 2), (1, 5, 2), (1, 3, 0)] (q := 75) (ls' := [(2, 1), (0, a), (0, b), (0, c), (2, v2), (2, v8), (9, 0), (9, 0)]) (st' := [(0, c), (2, v8), (2, v2), (0, 1), (2, 1)]) (by decide +kernel) rfl ?_
                    refine zwW_cm Ch21.1 (op := 60) (k' := 134) (n := 4) (kd := 12) (m := 13) (nx := 78) (r := 1) (tl := [(0, 1), (2, v2), (2, v8), (0, c)]) (st' := []) (by decide +kernel) rfl (by decide +kernel) rfl (x134 h21 Ch21 1 v2 v8 c (by omega) Gh21_0 Gh21_1 (by omega)) ?_
                    rintro v24 h25 ⟨Ch25, Qh25, f23⟩
                    have Xh25 : zXR msx41 (0) (0) h h25 := Xh21.tr (c2 := 0) (s2 := 0) Qh25 (by decide +kernel) (by decide) (by decide)
                    have Gh25_0 : gH h25 v2 := Gh21_0.x Qh25
                    have Gh25_1 : gL h25 v8 := Gh21_1.x Qh25
                    have th25_5_2 : fld h25 5 2 = fld h21 5 2 := Qh25.f (a1 := 5) (a2 := 5) (j1 := 2) (j2 := 3) (by decide +kernel) (by first | decide | exact ⟨by decide, by decide⟩) (by first | decide | exact ⟨by decide, by decide⟩) (by first | decide | exact ⟨by decide, by decide⟩)
                    refine zwW_p [(0, 0, 0)] (q := 79) (ls' := [(2, 1), (0, a), (0, b), (0, c), (2, v2), (2, v8), (9, 0), (9, 0)]) (st' := [(0, 0), (0, v24)]) (by decide +kernel) rfl ?_
                    refine zwW_max (nx := 82) (by decide +kernel) rfl ?_
                    intro v26 ev26
                    refine zwW_p [(2, 6, 0), (1, 0, 2), (0, 4, 0), (1, 4, 2), (1, 5, 2), (1, 3, 0)] (q := 91) (ls' := [(2, 1), (0, a), (0, b), (0, c), (2, v2), (2, v8), (0, v26), (9, 0)]) (st' := [(0, c), (2, v8), (2, v2), (0, 4), (2, 1)]) (by decide +kernel) rfl ?_
                    refine zwW_cm Ch25.1 (op := 60) (k' := 134) (n := 4) (kd := 12) (m := 13) (nx := 94) (r := 1) (tl := [(0, 4), (2, v2), (2, v8), (0, c)]) (st' := []) (by decide +kernel) rfl (by decide +kernel) rfl (x134 h25 Ch25 4 v2 v8 c (by omega) Gh25_0 Gh25_1 (by omega)) ?_
                    rintro v28 h29 ⟨Ch29, Qh29, f27⟩
                    have Xh29 : zXR msx41 (0) (0) h h29 := Xh25.tr (c2 := 0) (s2 := 0) Qh29 (by decide +kernel) (by decide) (by decide)
                    have Gh29_0 : gH h29 v2 := Gh25_0.x Qh29
                    have Gh29_1 : gL h29 v8 := Gh25_1.x Qh29
                    have th29_5_2 : fld h29 5 2 = fld h25 5 2 := Qh29.f (a1 := 5) (a2 := 5) (j1 := 2) (j2 := 3) (by decide +kernel) (by first | decide | exact ⟨by decide, by decide⟩) (by first | decide | exact ⟨by decide, by decide⟩) (by first | decide | exact ⟨by decide, by decide⟩)
                    refine zwif_eq (q := 101) (nx := 97) (by decide +kernel) (fun c30 => ?_) (fun c30 => ?_)
                    · refine zwW_p [(0, 0, 0), (2, 7, 0), (1, 5, 2), (12, 0, 0)] (q := 107) (ls' := [(2, 1), (0, a), (0, b), (0, c), (2, v2), (2, v8), (0, v26), (0, 0)]) (st' := [(2, v8), (2, v8)]) (by decide +kernel) rfl ?_
                      refine zwX_gi Ch29 (kd := 6) (bn := 6) (n := 7) (nx := 110) (by decide +kernel) Gh29_1.2.1 Gh29_1.1 rfl ?_
                      intro v31 ev31 lv31 uv31
                      refine zwW_p [(1, 3, 0)] (q := 111) (ls' := [(2, 1), (0, a), (0, b), (0, c), (2, v2), (2, v8), (0, v26), (0, 0)]) (st' := [(0, c), (0, v31), (2, v8)]) (by decide +kernel) rfl ?_
                      refine zwW_sbw (nx := 112) (by decide +kernel) ?_
                      intro v32 ev32 lv32 uv32
                      have Ev32 : v32 = w32 ((fld h29 v8 6) - c) := by rw [ev32, ev31]
                      refine zwX_pi Ch29 (kd := 6) (bn := 6) (n := 7) (nx := 115) (by decide +kernel) Gh29_1.2.1 Gh29_1.1 (by first | omega | exact ⟨by omega, by omega⟩) ?_
                      rintro h33 eh33 Ch33 Qh33
                      have Xh33 : zXR msx41 (0) (0) h h33 := Xh29.tr (c2 := 0) (s2 := 0) Qh33 (by decide +kernel) (by decide) (by decide)
                      have Gh33_0 : gH h33 v2 := Gh29_0.x Qh33
                      have Gh33_1 : gL h33 v8 := Gh29_1.x Qh33
                      have th33_5_2 : fld h33 5 2 = fld h29 5 2 := Qh33.f (a1 := 5) (a2 := 5) (j1 := 2) (j2 := 3) (by decide +kernel) (by first | decide | exact ⟨by decide, by decide⟩) (by first | decide | exact ⟨by decide, by decide⟩) (by first | decide | exact ⟨by decide, by decide⟩)
                      refine zwW_p [(1, 5, 2)] (q := 117) (ls' := [(2, 1), (0, a), (0, b), (0, c), (2, v2), (2, v8), (0, v26), (0, 0)]) (st' := [(2, v8)]) (by decide +kernel) rfl ?_
                      refine zwW_get (kd := 6) (bn := 1) (t := 2) (n := 7) (nx := 120) (by decide +kernel) Gh33_1.2.1 rfl ?_
                      obtain ⟨v34, ev34⟩ : ∃ z, z = fld h33 v8 1 := ⟨_, rfl⟩
                      rw [← ev34]
                      have Gv34 : gH h33 v34 := by rw [ev34]; exact Gh33_1.2.2
                      have lv34 := Gv34.1
                      refine zwW_p [(12, 0, 0)] (q := 121) (ls' := [(2, 1), (0, a), (0, b), (0, c), (2, v2), (2, v8), (0, v26), (0, 0)]) (st' := [(2, v34), (2, v34)]) (by decide +kernel) rfl ?_
                      refine zwX_gi Ch33 (kd := 4) (bn := 6) (n := 19) (nx := 124) (by decide +kernel) Gv34.2.1 Gv34.1 rfl ?_
                      intro v35 ev35 lv35 uv35
                      refine zwW_p [(1, 6, 0)] (q := 126) (ls' := [(2, 1), (0, a), (0, b), (0, c), (2, v2), (2, v8), (0, v26), (0, 0)]) (st' := [(0, v26), (0, v35), (2, v34)]) (by decide +kernel) rfl ?_
                      refine zwW_sbw (nx := 127) (by decide +kernel) ?_
                      intro v36 ev36 lv36 uv36
                      have Ev36 : v36 = w32 ((fld h33 v34 6) - v26) := by rw [ev36, ev35]
                      refine zwX_pi Ch33 (kd := 4) (bn := 6) (n := 19) (nx := 130) (by decide +kernel) Gv34.2.1 Gv34.1 (by first | omega | exact ⟨by omega, by omega⟩) ?_
                      rintro h37 eh37 Ch37 Qh37
                      have Xh37 : zXR msx41 (0) (0) h h37 := Xh33.tr (c2 := 0) (s2 := 0) Qh37 (by decide +kernel) (by decide) (by decide)
                      have Gh37_0 : gH h37 v2 := Gh33_0.x Qh37
                      have Gh37_1 : gL h37 v8 := Gh33_1.x Qh37
                      have th37_5_2 : fld h37 5 2 = fld h33 5 2 := Qh37.f (a1 := 5) (a2 := 5) (j1 := 2) (j2 := 3) (by decide +kernel) (by first | decide | exact ⟨by decide, by decide⟩) (by first | decide | exact ⟨by decide, by decide⟩) (by first | decide | exact ⟨by decide, by decide⟩)
                      refine zwW_p [(1, 4, 2), (12, 0, 0)] (q := 133) (ls' := [(2, 1), (0, a), (0, b), (0, c), (2, v2), (2, v8), (0, v26), (0, 0)]) (st' := [(2, v2), (2, v2)]) (by decide +kernel) rfl ?_
                      refine zwX_gi Ch37 (kd := 4) (bn := 6) (n := 19) (nx := 136) (by decide +kernel) Gh37_0.2.1 Gh37_0.1 rfl ?_
                      intro v38 ev38 lv38 uv38
                      refine zwW_p [(1, 6, 0)] (q := 138) (ls' := [(2, 1), (0, a), (0, b), (0, c), (2, v2), (2, v8), (0, v26), (0, 0)]) (st' := [(0, v26), (0, v38), (2, v2)]) (by decide +kernel) rfl ?_
                      refine zwW_adw (nx := 139) (by decide +kernel) ?_
                      intro v39 ev39 lv39 uv39
                      have Ev39 : v39 = w32 ((fld h37 v2 6) + v26) := by rw [ev39, ev38]
                      refine zwX_pi Ch37 (kd := 4) (bn := 6) (n := 19) (nx := 142) (by decide +kernel) Gh37_0.2.1 Gh37_0.1 (by first | omega | exact ⟨by omega, by omega⟩) ?_
                      rintro h40 eh40 Ch40 Qh40
                      have Xh40 : zXR msx41 (0) (0) h h40 := Xh37.tr (c2 := 0) (s2 := 0) Qh40 (by decide +kernel) (by decide) (by decide)
                      have Gh40_0 : gH h40 v2 := Gh37_0.x Qh40
                      have Gh40_1 : gL h40 v8 := Gh37_1.x Qh40
                      have th40_5_2 : fld h40 5 2 = fld h37 5 2 := Qh40.f (a1 := 5) (a2 := 5) (j1 := 2) (j2 := 3) (by decide +kernel) (by first | decide | exact ⟨by decide, by decide⟩) (by first | decide | exact ⟨by decide, by decide⟩) (by first | decide | exact ⟨by decide, by decide⟩)
                      refine zwW_p [(1, 4, 2), (12, 0, 0)] (q := 145) (ls' := [(2, 1), (0, a), (0, b), (0, c), (2, v2), (2, v8), (0, v26), (0, 0)]) (st' := [(2, v2), (2, v2)]) (by decide +kernel) rfl ?_
                      refine zwX_gi Ch40 (kd := 4) (bn := 14) (n := 19) (nx := 148) (by decide +kernel) Gh40_0.2.1 Gh40_0.1 rfl ?_
                      intro v41 ev41 lv41 uv41
                      refine zwW_p [(1, 3, 0)] (q := 149) (ls' := [(2, 1), (0, a), (0, b), (0, c), (2, v2), (2, v8), (0, v26), (0, 0)]) (st' := [(0, c), (0, v41), (2, v2)]) (by decide +kernel) rfl ?_
                      refine zwW_adw (nx := 150) (by decide +kernel) ?_
                      intro v42 ev42 lv42 uv42
                      have Ev42 : v42 = w32 ((fld h40 v2 14) + c) := by rw [ev42, ev41]
                      refine zwX_pi Ch40 (kd := 4) (bn := 14) (n := 19) (nx := 153) (by decide +kernel) Gh40_0.2.1 Gh40_0.1 (by first | omega | exact ⟨by omega, by omega⟩) ?_
                      rintro h43 eh43 Ch43 Qh43
                      have Xh43 : zXR msx41 (0) (0) h h43 := Xh40.tr (c2 := 0) (s2 := 0) Qh43 (by decide +kernel) (by decide) (by decide)
                      have Gh43_0 : gH h43 v2 := Gh40_0.x Qh43
                      have Gh43_1 : gL h43 v8 := Gh40_1.x Qh43
                      have th43_5_2 : fld h43 5 2 = fld h40 5 2 := Qh43.f (a1 := 5) (a2 := 5) (j1 := 2) (j2 := 3) (by decide +kernel) (by first | decide | exact ⟨by decide, by decide⟩) (by first | decide | exact ⟨by decide, by decide⟩) (by first | decide | exact ⟨by decide, by decide⟩)
                      refine zwW_p [(1, 0, 2)] (q := 154) (ls' := [(2, 1), (0, a), (0, b), (0, c), (2, v2), (2, v8), (0, v26), (0, 0)]) (st' := [(2, 1)]) (by decide +kernel) rfl ?_
                      refine zwW_gc Ch43.1 (kd := 12) (bn := 11) (n := 13) (c := 34) (nx := 157) (by decide +kernel) ?_
                      refine zwW_p [(12, 0, 0)] (q := 158) (ls' := [(2, 1), (0, a), (0, b), (0, c), (2, v2), (2, v8), (0, v26), (0, 0)]) (st' := [(2, 34), (2, 34)]) (by decide +kernel) rfl ?_
                      refine zwW_gs Ch43.1 (kd := 5) (bn := 1) (n := 4) (t := 0) (lo := -2147483648) (hi := 2147483647) (nx := 161) (by decide +kernel) ?_
                      intro v44 ev44 lv44 uv44
                      refine zwW_p [(1, 3, 0)] (q := 162) (ls' := [(2, 1), (0, a), (0, b), (0, c), (2, v2), (2, v8), (0, v26), (0, 0)]) (st' := [(0, c), (0, v44), (2, 34)]) (by decide +kernel) rfl ?_
                      refine zwW_adw (nx := 163) (by decide +kernel) ?_
                      intro v45 ev45 lv45 uv45
                      refine zwW_ps Ch43.1 (kd := 5) (bn := 1) (n := 4) (lo := -2147483648) (hi := 2147483647) (nx := 166) (by decide +kernel) (by first | omega | exact ⟨by omega, by omega⟩) ?_
                      intro h46 eh46 Ih46
                      have Ch46 : CI h46 := Ch43.wc eh46 Ih46 (by decide) (by decide)
                      have Qh46 : zXR [(34, 34, 1, 2)] 0 0 h43 h46 := zXR.wc eh46 rfl ⟨by decide, by decide, Or.inl (by decide)⟩ (by first | decide | exact ⟨by decide, by decide⟩)
                      have Xh46 : zXR msx41 (0) (0) h h46 := Xh43.tr (c2 := 0) (s2 := 0) Qh46 (by decide +kernel) (by decide) (by decide)
                      have Gh46_0 : gH h46 v2 := Gh43_0.x Qh46
                      have Gh46_1 : gL h46 v8 := Gh43_1.x Qh46
                      have th46_5_2 : fld h46 5 2 = fld h43 5 2 := Qh46.f (a1 := 5) (a2 := 5) (j1 := 2) (j2 := 3) (by decide +kernel) (by first | decide | exact ⟨by decide, by decide⟩) (by first | decide | exact ⟨by decide, by decide⟩) (by first | decide | exact ⟨by decide, by decide⟩)
                      refine zwW_p [(1, 0, 2)] (q := 167) (ls' := [(2, 1), (0, a), (0, b), (0, c), (2, v2), (2, v8), (0, v26), (0, 0)]) (st' := [(2, 1)]) (by decide +kernel) rfl ?_
                      refine zwW_gc Ch46.1 (kd := 12) (bn := 5) (n := 13) (c := 5) (nx := 170) (by decide +kernel) ?_
                      refine zwW_new (kd := 1) (n := 6) (nx := 173) (by decide +kernel) rfl rfl ?_
                      rintro h47 r48 eh47 er48
                      have Oh47 : zOld h46 h47 := by rw [eh47]; exact zOld.app _
                      have Yh47 : zDy h47 := by rw [eh47]; exact Ch46.2.1.app (fun x hx => by rw [List.eq_of_mem_replicate hx]; decide)
                      have Ch47 : CI h47 := Ch46.old Oh47 Yh47
                      have Xh47 := Oh47.X Ch46
                      have th47_5_2 : fld h47 5 2 = fld h46 5 2 := Xh47.f (a1 := 5) (a2 := 5) (j1 := 2) (j2 := 3) (by decide +kernel) (by first | decide | exact ⟨by decide, by decide⟩) (by first | decide | exact ⟨by decide, by decide⟩) (by first | decide | exact ⟨by decide, by decide⟩)
                      have Gh47_0 : gH h47 v2 := Gh46_0.x Xh47
                      have Gh47_1 : gL h47 v8 := Gh46_1.x Xh47
                      refine zwW_p [(12, 0, 0), (1, 5, 2), (1, 4, 2), (1, 0, 2)] (q := 179) (ls' := [(2, 1), (0, a), (0, b), (0, c), (2, v2), (2, v8), (0, v26), (0, 0)]) (st' := [(2, 1), (2, v2), (2, v8), (2, r48), (2, r48), (2, 5)]) (by decide +kernel) rfl ?_
                      refine zwW_gs Ch47.1 (kd := 12) (bn := 0) (n := 13) (t := 0) (lo := 0) (hi := 156) (nx := 182) (by decide +kernel) ?_
                      intro v49 ev49 lv49 uv49
                      refine zwW_p [(1, 3, 0), (0, 2, 0)] (q := 184) (ls' := [(2, 1), (0, a), (0, b), (0, c), (2, v2), (2, v8), (0, v26), (0, 0)]) (st' := [(0, 2), (0, c), (0, v49), (2, v2), (2, v8), (2, r48), (2, r48), (2, 5)]) (by decide +kernel) rfl ?_
                      refine zwW_tdw (nx := 185) (by decide +kernel) (by omega) ?_
                      intro v50 ev50 lv50 uv50
                      refine zwW_p [(1, 7, 0)] (q := 187) (ls' := [(2, 1), (0, a), (0, b), (0, c), (2, v2), (2, v8), (0, v26), (0, 0)]) (st' := [(0, 0), (0, v50), (0, v49), (2, v2), (2, v8), (2, r48), (2, r48), (2, 5)]) (by decide +kernel) rfl ?_
                      subst er48 eh47
                      refine zwW_cvv (op := 62) (k' := 135) (n := 5) (kd := 1) (m := 6) (nx := 190) (r := ((h46.length + 1 : Nat) : Int)) (tl := [(2, v8), (2, v2), (0, v49), (0, v50), (0, 0)]) (st' := [(2, ((h46.length + 1 : Nat) : Int)), (2, 5)]) (by decide +kernel) rfl (by decide +kernel) (sh_new _ _) (x135 h46 Ch46 v8 v2 v49 v50 0 (by omega) (by omega) Gh46_1 Gh46_0 (by omega)) rfl ?_
                      rintro h51 ⟨Ch51, Qh51, Nh51, Fh51_0⟩
                      obtain ⟨nr48, err48⟩ : ∃ z, z = ((h46.length + 1 : Nat) : Int) := ⟨_, rfl⟩
                      rw [← err48] at Nh51 ⊢
                      try rw [← err48] at Fh51_0
                      have Xh51 : zXR msx41 (1) (6) h h51 := Xh46.tr (c2 := 1) (s2 := 6) Qh51 (by decide +kernel) (by decide) (by decide)
                      have Gh51_0 : gH h51 v2 := Gh46_0.x Qh51
                      have Gh51_1 : gL h51 v8 := Gh46_1.x Qh51
                      have th51_5_2 : fld h51 5 2 = fld h46 5 2 := Qh51.f (a1 := 5) (a2 := 5) (j1 := 2) (j2 := 3) (by decide +kernel) (by first | decide | exact ⟨by decide, by decide⟩) (by first | decide | exact ⟨by decide, by decide⟩) (by first | decide | exact ⟨by decide, by decide⟩)
                      have lnr48 := Nh51.1
                      refine zwW_cm Ch51.1 (op := 60) (k' := 100) (n := 1) (kd := 0) (m := 3) (nx := 193) (r := 5) (tl := [(2, nr48)]) (st' := []) (by decide +kernel) rfl (by decide +kernel) rfl (x100_5 Ch51 Nh51 (by omega) (by have := Xh51.hl C Ch51 (by decide) hl; omega)) ?_
                      rintro x h53 ⟨rfl, Ah53⟩
                      have Ch53 := Ah53.1
                      have Qh53 : zXR [(5, 5, 0, 3)] (1) (1000) h51 h53 := Ah53.2.1
                      have zh53 : fld h53 5 2 = fld h51 5 2 + 1 := Ah53.2.2.1
                      have Xh53 : zXR msx41 (2) (1006) h h53 := Xh51.tr (c2 := 2) (s2 := 1006) Qh53 (by decide +kernel) (by decide) (by decide)
                      have Gh53_0 : gH h53 v2 := Gh51_0.x Qh53
                      have Gh53_1 : gL h53 v8 := Gh51_1.x Qh53
                      refine zwW_p [(15, 0, 0), (1, 0, 2)] (q := 195) (ls' := [(2, 1), (0, a), (0, b), (0, c), (2, v2), (2, v8), (0, v26), (0, 0)]) (st' := [(2, 1)]) (by decide +kernel) rfl ?_
                      refine zwW_gc Ch53.1 (kd := 12) (bn := 5) (n := 13) (c := 5) (nx := 198) (by decide +kernel) ?_
                      refine zwW_cm Ch53.1 (op := 60) (k' := 96) (n := 0) (kd := 0) (m := 3) (nx := 201) (r := 5) (tl := []) (st' := []) (by decide +kernel) rfl (by decide +kernel) rfl (x96_5 Ch53) ?_
                      rintro v54 _ ⟨rfl, ev54⟩
                      have bv54 := zLb_5 Ch53
                      refine zwW_p [(0, 1, 0)] (q := 202) (ls' := [(2, 1), (0, a), (0, b), (0, c), (2, v2), (2, v8), (0, v26), (0, 0)]) (st' := [(0, 1), (0, v54)]) (by decide +kernel) rfl ?_
                      refine zwW_sub (nx := 203) (by decide +kernel) (by first | omega | exact ⟨by omega, by omega⟩) ?_
                      refine zwW_ret (nx := 204) (a := 0) (b := 0) (by decide +kernel) rfl (Or.inl rfl) ?_
                      exact ⟨Ch53, Xh53.le (by decide) (by decide), by omega⟩
                    · refine zwW_p [(0, 1, 0), (24, 102, 0), (2, 7, 0), (1, 5, 2), (12, 0, 0)] (q := 107) (ls' := [(2, 1), (0, a), (0, b), (0, c), (2, v2), (2, v8), (0, v26), (0, 1)]) (st' := [(2, v8), (2, v8)]) (by decide +kernel) rfl ?_
                      refine zwX_gi Ch29 (kd := 6) (bn := 6) (n := 7) (nx := 110) (by decide +kernel) Gh29_1.2.1 Gh29_1.1 rfl ?_
                      intro v55 ev55 lv55 uv55
                      refine zwW_p [(1, 3, 0)] (q := 111) (ls' := [(2, 1), (0, a), (0, b), (0, c), (2, v2), (2, v8), (0, v26), (0, 1)]) (st' := [(0, c), (0, v55), (2, v8)]) (by decide +kernel) rfl ?_
                      refine zwW_sbw (nx := 112) (by decide +kernel) ?_
                      intro v56 ev56 lv56 uv56
                      have Ev56 : v56 = w32 ((fld h29 v8 6) - c) := by rw [ev56, ev55]
                      refine zwX_pi Ch29 (kd := 6) (bn := 6) (n := 7) (nx := 115) (by decide +kernel) Gh29_1.2.1 Gh29_1.1 (by first | omega | exact ⟨by omega, by omega⟩) ?_
                      rintro h57 eh57 Ch57 Qh57
                      have Xh57 : zXR msx41 (0) (0) h h57 := Xh29.tr (c2 := 0) (s2 := 0) Qh57 (by decide +kernel) (by decide) (by decide)
                      have Gh57_0 : gH h57 v2 := Gh29_0.x Qh57
                      have Gh57_1 : gL h57 v8 := Gh29_1.x Qh57
                      have th57_5_2 : fld h57 5 2 = fld h29 5 2 := Qh57.f (a1 := 5) (a2 := 5) (j1 := 2) (j2 := 3) (by decide +kernel) (by first | decide | exact ⟨by decide, by decide⟩) (by first | decide | exact ⟨by decide, by decide⟩) (by first | decide | exact ⟨by decide, by decide⟩)
                      refine zwW_p [(1, 5, 2)] (q := 117) (ls' := [(2, 1), (0, a), (0, b), (0, c), (2, v2), (2, v8), (0, v26), (0, 1)]) (st' := [(2, v8)]) (by decide +kernel) rfl ?_
                      refine zwW_get (kd := 6) (bn := 1) (t := 2) (n := 7) (nx := 120) (by decide +kernel) Gh57_1.2.1 rfl ?_
                      obtain ⟨v58, ev58⟩ : ∃ z, z = fld h57 v8 1 := ⟨_, rfl⟩
                      rw [← ev58]
                      have Gv58 : gH h57 v58 := by rw [ev58]; exact Gh57_1.2.2
                      have lv58 := Gv58.1
                      refine zwW_p [(12, 0, 0)] (q := 121) (ls' := [(2, 1), (0, a), (0, b), (0, c), (2, v2), (2, v8), (0, v26), (0, 1)]) (st' := [(2, v58), (2, v58)]) (by decide +kernel) rfl ?_
                      refine zwX_gi Ch57 (kd := 4) (bn := 6) (n := 19) (nx := 124) (by decide +kernel) Gv58.2.1 Gv58.1 rfl ?_
                      intro v59 ev59 lv59 uv59
                      refine zwW_p [(1, 6, 0)] (q := 126) (ls' := [(2, 1), (0, a), (0, b), (0, c), (2, v2), (2, v8), (0, v26), (0, 1)]) (st' := [(0, v26), (0, v59), (2, v58)]) (by decide +kernel) rfl ?_
                      refine zwW_sbw (nx := 127) (by decide +kernel) ?_
                      intro v60 ev60 lv60 uv60
                      have Ev60 : v60 = w32 ((fld h57 v58 6) - v26) := by rw [ev60, ev59]
                      refine zwX_pi Ch57 (kd := 4) (bn := 6) (n := 19) (nx := 130) (by decide +kernel) Gv58.2.1 Gv58.1 (by first | omega | exact ⟨by omega, by omega⟩) ?_
                      rintro h61 eh61 Ch61 Qh61
                      have Xh61 : zXR msx41 (0) (0) h h61 := Xh57.tr (c2 := 0) (s2 := 0) Qh61 (by decide +kernel) (by decide) (by decide)
                      have Gh61_0 : gH h61 v2 := Gh57_0.x Qh61
                      have Gh61_1 : gL h61 v8 := Gh57_1.x Qh61
                      have th61_5_2 : fld h61 5 2 = fld h57 5 2 := Qh61.f (a1 := 5) (a2 := 5) (j1 := 2) (j2 := 3) (by decide +kernel) (by first | decide | exact ⟨by decide, by decide⟩) (by first | decide | exact ⟨by decide, by decide⟩) (by first | decide | exact ⟨by decide, by decide⟩)
                      refine zwW_p [(1, 4, 2), (12, 0, 0)] (q := 133) (ls' := [(2, 1), (0, a), (0, b), (0, c), (2, v2), (2, v8), (0, v26), (0, 1)]) (st' := [(2, v2), (2, v2)]) (by decide +kernel) rfl ?_
                      refine zwX_gi Ch61 (kd := 4) (bn := 6) (n := 19) (nx := 136) (by decide +kernel) Gh61_0.2.1 Gh61_0.1 rfl ?_
                      intro v62 ev62 lv62 uv62
                      refine zwW_p [(1, 6, 0)] (q := 138) (ls' := [(2, 1), (0, a), (0, b), (0, c), (2, v2), (2, v8), (0, v26), (0, 1)]) (st' := [(0, v26), (0, v62), (2, v2)]) (by decide +kernel) rfl ?_
                      refine zwW_adw (nx := 139) (by decide +kernel) ?_
                      intro v63 ev63 lv63 uv63
                      have Ev63 : v63 = w32 ((fld h61 v2 6) + v26) := by rw [ev63, ev62]
                      refine zwX_pi Ch61 (kd := 4) (bn := 6) (n := 19) (nx := 142) (by decide +kernel) Gh61_0.2.1 Gh61_0.1 (by first | omega | exact ⟨by omega, by omega⟩) ?_
                      rintro h64 eh64 Ch64 Qh64
                      have Xh64 : zXR msx41 (0) (0) h h64 := Xh61.tr (c2 := 0) (s2 := 0) Qh64 (by decide +kernel) (by decide) (by decide)
                      have Gh64_0 : gH h64 v2 := Gh61_0.x Qh64
                      have Gh64_1 : gL h64 v8 := Gh61_1.x Qh64
                      have th64_5_2 : fld h64 5 2 = fld h61 5 2 := Qh64.f (a1 := 5) (a2 := 5) (j1 := 2) (j2 := 3) (by decide +kernel) (by first | decide | exact ⟨by decide, by decide⟩) (by first | decide | exact ⟨by decide, by decide⟩) (by first | decide | exact ⟨by decide, by decide⟩)
                      refine zwW_p [(1, 4, 2), (12, 0, 0)] (q := 145) (ls' := [(2, 1), (0, a), (0, b), (0, c), (2, v2), (2, v8), (0, v26), (0, 1)]) (st' := [(2, v2), (2, v2)]) (by decide +kernel) rfl ?_
                      refine zwX_gi Ch64 (kd := 4) (bn := 14) (n := 19) (nx := 148) (by decide +kernel) Gh64_0.2.1 Gh64_0.1 rfl ?_
                      intro v65 ev65 lv65 uv65
                      refine zwW_p [(1, 3, 0)] (q := 149) (ls' := [(2, 1), (0, a), (0, b), (0, c), (2, v2), (2, v8), (0, v26), (0, 1)]) (st' := [(0, c), (0, v65), (2, v2)]) (by decide +kernel) rfl ?_
                      refine zwW_adw (nx := 150) (by decide +kernel) ?_
                      intro v66 ev66 lv66 uv66
                      have Ev66 : v66 = w32 ((fld h64 v2 14) + c) := by rw [ev66, ev65]
                      refine zwX_pi Ch64 (kd := 4) (bn := 14) (n := 19) (nx := 153) (by decide +kernel) Gh64_0.2.1 Gh64_0.1 (by first | omega | exact ⟨by omega, by omega⟩) ?_
                      rintro h67 eh67 Ch67 Qh67
                      have Xh67 : zXR msx41 (0) (0) h h67 := Xh64.tr (c2 := 0) (s2 := 0) Qh67 (by decide +kernel) (by decide) (by decide)
                      have Gh67_0 : gH h67 v2 := Gh64_0.x Qh67
                      have Gh67_1 : gL h67 v8 := Gh64_1.x Qh67
                      have th67_5_2 : fld h67 5 2 = fld h64 5 2 := Qh67.f (a1 := 5) (a2 := 5) (j1 := 2) (j2 := 3) (by decide +kernel) (by first | decide | exact ⟨by decide, by decide⟩) (by first | decide | exact ⟨by decide, by decide⟩) (by first | decide | exact ⟨by decide, by decide⟩)
                      refine zwW_p [(1, 0, 2)] (q := 154) (ls' := [(2, 1), (0, a), (0, b), (0, c), (2, v2), (2, v8), (0, v26), (0, 1)]) (st' := [(2, 1)]) (by decide +kernel) rfl ?_
                      refine zwW_gc Ch67.1 (kd := 12) (bn := 11) (n := 13) (c := 34) (nx := 157) (by decide +kernel) ?_
                      refine zwW_p [(12, 0, 0)] (q := 158) (ls' := [(2, 1), (0, a), (0, b), (0, c), (2, v2), (2, v8), (0, v26), (0, 1)]) (st' := [(2, 34), (2, 34)]) (by decide +kernel) rfl ?_
                      refine zwW_gs Ch67.1 (kd := 5) (bn := 1) (n := 4) (t := 0) (lo := -2147483648) (hi := 2147483647) (nx := 161) (by decide +kernel) ?_
                      intro v68 ev68 lv68 uv68
                      refine zwW_p [(1, 3, 0)] (q := 162) (ls' := [(2, 1), (0, a), (0, b), (0, c), (2, v2), (2, v8), (0, v26), (0, 1)]) (st' := [(0, c), (0, v68), (2, 34)]) (by decide +kernel) rfl ?_
                      refine zwW_adw (nx := 163) (by decide +kernel) ?_
                      intro v69 ev69 lv69 uv69
                      refine zwW_ps Ch67.1 (kd := 5) (bn := 1) (n := 4) (lo := -2147483648) (hi := 2147483647) (nx := 166) (by decide +kernel) (by first | omega | exact ⟨by omega, by omega⟩) ?_
                      intro h70 eh70 Ih70
                      have Ch70 : CI h70 := Ch67.wc eh70 Ih70 (by decide) (by decide)
                      have Qh70 : zXR [(34, 34, 1, 2)] 0 0 h67 h70 := zXR.wc eh70 rfl ⟨by decide, by decide, Or.inl (by decide)⟩ (by first | decide | exact ⟨by decide, by decide⟩)
                      have Xh70 : zXR msx41 (0) (0) h h70 := Xh67.tr (c2 := 0) (s2 := 0) Qh70 (by decide +kernel) (by decide) (by decide)
                      have Gh70_0 : gH h70 v2 := Gh67_0.x Qh70
                      have Gh70_1 : gL h70 v8 := Gh67_1.x Qh70
                      have th70_5_2 : fld h70 5 2 = fld h67 5 2 := Qh70.f (a1 := 5) (a2 := 5) (j1 := 2) (j2 := 3) (by decide +kernel) (by first | decide | exact ⟨by decide, by decide⟩) (by first | decide | exact ⟨by decide, by decide⟩) (by first | decide | exact ⟨by decide, by decide⟩)
                      refine zwW_p [(1, 0, 2)] (q := 167) (ls' := [(2, 1), (0, a), (0, b), (0, c), (2, v2), (2, v8), (0, v26), (0, 1)]) (st' := [(2, 1)]) (by decide +kernel) rfl ?_
                      refine zwW_gc Ch70.1 (kd := 12) (bn := 5) (n := 13) (c := 5) (nx := 170) (by decide +kernel) ?_
                      refine zwW_new (kd := 1) (n := 6) (nx := 173) (by decide +kernel) rfl rfl ?_
                      rintro h71 r72 eh71 er72
                      have Oh71 : zOld h70 h71 := by rw [eh71]; exact zOld.app _
                      have Yh71 : zDy h71 := by rw [eh71]; exact Ch70.2.1.app (fun x hx => by rw [List.eq_of_mem_replicate hx]; decide)
                      have Ch71 : CI h71 := Ch70.old Oh71 Yh71
                      have Xh71 := Oh71.X Ch70
                      have th71_5_2 : fld h71 5 2 = fld h70 5 2 := Xh71.f (a1 := 5) (a2 := 5) (j1 := 2) (j2 := 3) (by decide +kernel) (by first | decide | exact ⟨by decide, by decide⟩) (by first | decide | exact ⟨by decide, by decide⟩) (by first | decide | exact ⟨by decide, by decide⟩)
                      have Gh71_0 : gH h71 v2 := Gh70_0.x Xh71
                      have Gh71_1 : gL h71 v8 := Gh70_1.x Xh71
                      refine zwW_p [(12, 0, 0), (1, 5, 2), (1, 4, 2), (1, 0, 2)] (q := 179) (ls' := [(2, 1), (0, a), (0, b), (0, c), (2, v2), (2, v8), (0, v26), (0, 1)]) (st' := [(2, 1), (2, v2), (2, v8), (2, r72), (2, r72), (2, 5)]) (by decide +kernel) rfl ?_
                      refine zwW_gs Ch71.1 (kd := 12) (bn := 0) (n := 13) (t := 0) (lo := 0) (hi := 156) (nx := 182) (by decide +kernel) ?_
                      intro v73 ev73 lv73 uv73
                      refine zwW_p [(1, 3, 0), (0, 2, 0)] (q := 184) (ls' := [(2, 1), (0, a), (0, b), (0, c), (2, v2), (2, v8), (0, v26), (0, 1)]) (st' := [(0, 2), (0, c), (0, v73), (2, v2), (2, v8), (2, r72), (2, r72), (2, 5)]) (by decide +kernel) rfl ?_
                      refine zwW_tdw (nx := 185) (by decide +kernel) (by omega) ?_
                      intro v74 ev74 lv74 uv74
                      refine zwW_p [(1, 7, 0)] (q := 187) (ls' := [(2, 1), (0, a), (0, b), (0, c), (2, v2), (2, v8), (0, v26), (0, 1)]) (st' := [(0, 1), (0, v74), (0, v73), (2, v2), (2, v8), (2, r72), (2, r72), (2, 5)]) (by decide +kernel) rfl ?_
                      subst er72 eh71
                      refine zwW_cvv (op := 62) (k' := 135) (n := 5) (kd := 1) (m := 6) (nx := 190) (r := ((h70.length + 1 : Nat) : Int)) (tl := [(2, v8), (2, v2), (0, v73), (0, v74), (0, 1)]) (st' := [(2, ((h70.length + 1 : Nat) : Int)), (2, 5)]) (by decide +kernel) rfl (by decide +kernel) (sh_new _ _) (x135 h70 Ch70 v8 v2 v73 v74 1 (by omega) (by omega) Gh70_1 Gh70_0 (by omega)) rfl ?_
                      rintro h75 ⟨Ch75, Qh75, Nh75, Fh75_0⟩
                      obtain ⟨nr72, err72⟩ : ∃ z, z = ((h70.length + 1 : Nat) : Int) := ⟨_, rfl⟩
                      rw [← err72] at Nh75 ⊢
                      try rw [← err72] at Fh75_0
                      have Xh75 : zXR msx41 (1) (6) h h75 := Xh70.tr (c2 := 1) (s2 := 6) Qh75 (by decide +kernel) (by decide) (by decide)
                      have Gh75_0 : gH h75 v2 := Gh70_0.x Qh75
                      have Gh75_1 : gL h75 v8 := Gh70_1.x Qh75
                      have th75_5_2 : fld h75 5 2 = fld h70 5 2 := Qh75.f (a1 := 5) (a2 := 5) (j1 := 2) (j2 := 3) (by decide +kernel) (by first | decide | exact ⟨by decide, by decide⟩) (by first | decide | exact ⟨by decide, by decide⟩) (by first | decide | exact ⟨by decide, by decide⟩)
                      have lnr72 := Nh75.1
                      refine zwW_cm Ch75.1 (op := 60) (k' := 100) (n := 1) (kd := 0) (m := 3) (nx := 193) (r := 5) (tl := [(2, nr72)]) (st' := []) (by decide +kernel) rfl (by decide +kernel) rfl (x100_5 Ch75 Nh75 (by omega) (by have := Xh75.hl C Ch75 (by decide) hl; omega)) ?_
                      rintro x h77 ⟨rfl, Ah77⟩
                      have Ch77 := Ah77.1
                      have Qh77 : zXR [(5, 5, 0, 3)] (1) (1000) h75 h77 := Ah77.2.1
                      have zh77 : fld h77 5 2 = fld h75 5 2 + 1 := Ah77.2.2.1
                      have Xh77 : zXR msx41 (2) (1006) h h77 := Xh75.tr (c2 := 2) (s2 := 1006) Qh77 (by decide +kernel) (by decide) (by decide)
                      have Gh77_0 : gH h77 v2 := Gh75_0.x Qh77
                      have Gh77_1 : gL h77 v8 := Gh75_1.x Qh77
                      refine zwW_p [(15, 0, 0), (1, 0, 2)] (q := 195) (ls' := [(2, 1), (0, a), (0, b), (0, c), (2, v2), (2, v8), (0, v26), (0, 1)]) (st' := [(2, 1)]) (by decide +kernel) rfl ?_
                      refine zwW_gc Ch77.1 (kd := 12) (bn := 5) (n := 13) (c := 5) (nx := 198) (by decide +kernel) ?_
                      refine zwW_cm Ch77.1 (op := 60) (k' := 96) (n := 0) (kd := 0) (m := 3) (nx := 201) (r := 5) (tl := []) (st' := []) (by decide +kernel) rfl (by decide +kernel) rfl (x96_5 Ch77) ?_
                      rintro v78 _ ⟨rfl, ev78⟩
                      have bv78 := zLb_5 Ch77
                      refine zwW_p [(0, 1, 0)] (q := 202) (ls' := [(2, 1), (0, a), (0, b), (0, c), (2, v2), (2, v8), (0, v26), (0, 1)]) (st' := [(0, 1), (0, v78)]) (by decide +kernel) rfl ?_
                      refine zwW_sub (nx := 203) (by decide +kernel) (by first | omega | exact ⟨by omega, by omega⟩) ?_
                      refine zwW_ret (nx := 204) (a := 0) (b := 0) (by decide +kernel) rfl (Or.inl rfl) ?_
                      exact ⟨Ch77, Xh77.le (by decide) (by decide), by omega⟩
                  · refine zwW_p [(0, -1, 0)] (q := 67) (ls' := [(2, 1), (0, a), (0, b), (0, c), (2, v2), (2, v8), (9, 0), (9, 0)]) (st' := [(0, -1)]) (by decide +kernel) rfl ?_
                    refine zwW_ret (nx := 68) (a := 0) (b := 0) (by decide +kernel) rfl (Or.inl rfl) ?_
                    exact ⟨Ch21, Xh21.le (by decide) (by decide), by omega⟩
          · refine zwif_eq (q := 66) (nx := 31) (by decide +kernel) (fun c79 => ?_) (fun c79 => ?_)
            · refine zwW_p [(0, -1, 0)] (q := 67) (ls' := [(2, 1), (0, a), (0, b), (0, c), (2, v2), (2, v8), (9, 0), (9, 0)]) (st' := [(0, -1)]) (by decide +kernel) rfl ?_
              refine zwW_ret (nx := 68) (a := 0) (b := 0) (by decide +kernel) rfl (Or.inl rfl) ?_
              exact ⟨C, X.le (by decide) (by decide), by omega⟩
            · exfalso; omega
-- WheelLand.cloth(II)I
theorem x43 {sc : List Int} (h : Hp) (C : CI h) (a b : Int) (q_a : -2147483648 ≤ a ∧ a ≤ 2147483647) (q_b : -2147483648 ≤ b ∧ b ≤ 2147483647) : zwC sc 6 43 [(2, 1), (0, a), (0, b)] h (zwRt 0 (fun x g => h = g ∧ (-2147483648 ≤ x ∧ x ≤ 2147483647))) := by
  refine zwC_of (D := 5) 4 (by decide +kernel) rfl (ls := [(2, 1), (0, a), (0, b), (9, 0)]) rfl ?_
  refine zwW_p [(1, 0, 2), (1, 1, 0)] (q := 2) (ls' := [(2, 1), (0, a), (0, b), (9, 0)]) (st' := [(0, a), (2, 1)]) (by decide +kernel) rfl ?_
  refine zwW_cm C.1 (op := 60) (k' := 138) (n := 1) (kd := 12) (m := 13) (nx := 5) (r := 1) (tl := [(0, a)]) (st' := []) (by decide +kernel) rfl (by decide +kernel) rfl (x138 h C a (by omega)) ?_
  rintro v2 _ ⟨rfl, ⟨rfl, c1⟩ | ⟨Gv2, c1⟩⟩
  · refine zwW_p [(2, 3, 2), (1, 3, 2)] (q := 7) (ls' := [(2, 1), (0, a), (0, b), (2, 0)]) (st' := [(2, 0)]) (by decide +kernel) rfl ?_
    refine zwnu_ne (q := 12) (nx := 10) (by decide +kernel) (by decide) (fun c3 => ?_) (fun c3 => ?_)
    · exfalso; omega
    · refine zwW_p [(0, -1, 0)] (q := 11) (ls' := [(2, 1), (0, a), (0, b), (2, 0)]) (st' := [(0, -1)]) (by decide +kernel) rfl ?_
      refine zwW_ret (nx := 12) (a := 0) (b := 0) (by decide +kernel) rfl (Or.inl rfl) ?_
      exact ⟨rfl, by omega⟩
  · have lv2 := Gv2.1
    have ev2 := c1.2.2
    refine zwW_p [(2, 3, 2), (1, 3, 2)] (q := 7) (ls' := [(2, 1), (0, a), (0, b), (2, v2)]) (st' := [(2, v2)]) (by decide +kernel) rfl ?_
    refine zwnu_ne (q := 12) (nx := 10) (by decide +kernel) (by omega) (fun c4 => ?_) (fun c4 => ?_)
    · refine zwW_p [(1, 2, 0)] (q := 13) (ls' := [(2, 1), (0, a), (0, b), (2, v2)]) (st' := [(0, b)]) (by decide +kernel) rfl ?_
      refine zwW_sw (d := 123) (os := [0, 60, 1, 68, 2, 76, 3, 81, 4, 86, 5, 99, 6, 110, 7, 118]) (by decide +kernel) ?_
      refine ⟨fun c5 => ?_, fun c5 => ?_⟩
      · show zwW _ _ _ 60 _ _ _ _
        refine zwW_p [(1, 3, 2)] (q := 61) (ls' := [(2, 1), (0, a), (0, b), (2, v2)]) (st' := [(2, v2)]) (by decide +kernel) rfl ?_
        refine zwW_get (kd := 1) (bn := 0) (t := 2) (n := 6) (nx := 64) (by decide +kernel) Gv2.2.1 rfl ?_
        obtain ⟨v6, ev6⟩ : ∃ z, z = fld h v2 0 := ⟨_, rfl⟩
        rw [← ev6]
        have Gv6 : gL h v6 := by rw [ev6]; exact Gv2.2.2.1
        have lv6 := Gv6.1
        refine zwX_gi C (kd := 6) (bn := 0) (n := 7) (nx := 67) (by decide +kernel) Gv6.2.1 Gv6.1 rfl ?_
        intro v7 ev7 lv7 uv7
        refine zwW_ret (nx := 68) (a := 0) (b := 0) (by decide +kernel) rfl (Or.inl rfl) ?_
        exact ⟨rfl, by omega⟩
      refine ⟨fun c8 => ?_, fun c8 => ?_⟩
      · show zwW _ _ _ 68 _ _ _ _
        refine zwW_p [(1, 3, 2)] (q := 69) (ls' := [(2, 1), (0, a), (0, b), (2, v2)]) (st' := [(2, v2)]) (by decide +kernel) rfl ?_
        refine zwW_get (kd := 1) (bn := 1) (t := 2) (n := 6) (nx := 72) (by decide +kernel) Gv2.2.1 rfl ?_
        obtain ⟨v9, ev9⟩ : ∃ z, z = fld h v2 1 := ⟨_, rfl⟩
        rw [← ev9]
        have Gv9 : gH h v9 := by rw [ev9]; exact Gv2.2.2.2
        have lv9 := Gv9.1
        refine zwX_gi C (kd := 4) (bn := 0) (n := 19) (nx := 75) (by decide +kernel) Gv9.2.1 Gv9.1 rfl ?_
        intro v10 ev10 lv10 uv10
        refine zwW_ret (nx := 76) (a := 0) (b := 0) (by decide +kernel) rfl (Or.inl rfl) ?_
        exact ⟨rfl, by omega⟩
      refine ⟨fun c11 => ?_, fun c11 => ?_⟩
      · show zwW _ _ _ 76 _ _ _ _
        refine zwW_p [(1, 3, 2)] (q := 77) (ls' := [(2, 1), (0, a), (0, b), (2, v2)]) (st' := [(2, v2)]) (by decide +kernel) rfl ?_
        refine zwX_gi C (kd := 1) (bn := 2) (n := 6) (nx := 80) (by decide +kernel) Gv2.2.1 Gv2.1 rfl ?_
        intro v12 ev12 lv12 uv12
        refine zwW_ret (nx := 81) (a := 0) (b := 0) (by decide +kernel) rfl (Or.inl rfl) ?_
        exact ⟨rfl, by omega⟩
      refine ⟨fun c13 => ?_, fun c13 => ?_⟩
      · show zwW _ _ _ 81 _ _ _ _
        refine zwW_p [(1, 3, 2)] (q := 82) (ls' := [(2, 1), (0, a), (0, b), (2, v2)]) (st' := [(2, v2)]) (by decide +kernel) rfl ?_
        refine zwX_gi C (kd := 1) (bn := 3) (n := 6) (nx := 85) (by decide +kernel) Gv2.2.1 Gv2.1 rfl ?_
        intro v14 ev14 lv14 uv14
        refine zwW_ret (nx := 86) (a := 0) (b := 0) (by decide +kernel) rfl (Or.inl rfl) ?_
        exact ⟨rfl, by omega⟩
      refine ⟨fun c15 => ?_, fun c15 => ?_⟩
      · show zwW _ _ _ 86 _ _ _ _
        refine zwW_p [(1, 3, 2)] (q := 87) (ls' := [(2, 1), (0, a), (0, b), (2, v2)]) (st' := [(2, v2)]) (by decide +kernel) rfl ?_
        refine zwW_get (kd := 1) (bn := 4) (t := 0) (n := 6) (nx := 90) (by decide +kernel) Gv2.2.1 rfl ?_
        obtain ⟨v16, ev16⟩ : ∃ z, z = fld h v2 4 := ⟨_, rfl⟩
        rw [← ev16]
        refine zwif_eq (q := 97) (nx := 93) (by decide +kernel) (fun c17 => ?_) (fun c17 => ?_)
        · refine zwW_p [(0, 0, 0)] (q := 98) (ls' := [(2, 1), (0, a), (0, b), (2, v2)]) (st' := [(0, 0)]) (by decide +kernel) rfl ?_
          refine zwW_ret (nx := 99) (a := 0) (b := 0) (by decide +kernel) rfl (Or.inl rfl) ?_
          exact ⟨rfl, by omega⟩
        · refine zwW_p [(0, 1, 0), (24, 98, 0)] (q := 98) (ls' := [(2, 1), (0, a), (0, b), (2, v2)]) (st' := [(0, 1)]) (by decide +kernel) rfl ?_
          refine zwW_ret (nx := 99) (a := 0) (b := 0) (by decide +kernel) rfl (Or.inl rfl) ?_
          exact ⟨rfl, by omega⟩
      refine ⟨fun c18 => ?_, fun c18 => ?_⟩
      · show zwW _ _ _ 99 _ _ _ _
        refine zwW_p [(1, 3, 2)] (q := 100) (ls' := [(2, 1), (0, a), (0, b), (2, v2)]) (st' := [(2, v2)]) (by decide +kernel) rfl ?_
        refine zwW_get (kd := 1) (bn := 0) (t := 2) (n := 6) (nx := 103) (by decide +kernel) Gv2.2.1 rfl ?_
        obtain ⟨v19, ev19⟩ : ∃ z, z = fld h v2 0 := ⟨_, rfl⟩
        rw [← ev19]
        have Gv19 : gL h v19 := by rw [ev19]; exact Gv2.2.2.1
        have lv19 := Gv19.1
        refine zwW_get (kd := 6) (bn := 1) (t := 2) (n := 7) (nx := 106) (by decide +kernel) Gv19.2.1 rfl ?_
        obtain ⟨v20, ev20⟩ : ∃ z, z = fld h v19 1 := ⟨_, rfl⟩
        rw [← ev20]
        have Gv20 : gH h v20 := by rw [ev20]; exact Gv19.2.2
        have lv20 := Gv20.1
        refine zwX_gi C (kd := 4) (bn := 0) (n := 19) (nx := 109) (by decide +kernel) Gv20.2.1 Gv20.1 rfl ?_
        intro v21 ev21 lv21 uv21
        refine zwW_ret (nx := 110) (a := 0) (b := 0) (by decide +kernel) rfl (Or.inl rfl) ?_
        exact ⟨rfl, by omega⟩
      refine ⟨fun c22 => ?_, fun c22 => ?_⟩
      · show zwW _ _ _ 110 _ _ _ _
        refine zwW_p [(1, 3, 2)] (q := 111) (ls' := [(2, 1), (0, a), (0, b), (2, v2)]) (st' := [(2, v2)]) (by decide +kernel) rfl ?_
        refine zwW_get (kd := 1) (bn := 0) (t := 2) (n := 6) (nx := 114) (by decide +kernel) Gv2.2.1 rfl ?_
        obtain ⟨v23, ev23⟩ : ∃ z, z = fld h v2 0 := ⟨_, rfl⟩
        rw [← ev23]
        have Gv23 : gL h v23 := by rw [ev23]; exact Gv2.2.2.1
        have lv23 := Gv23.1
        refine zwX_gi C (kd := 6) (bn := 2) (n := 7) (nx := 117) (by decide +kernel) Gv23.2.1 Gv23.1 rfl ?_
        intro v24 ev24 lv24 uv24
        refine zwW_ret (nx := 118) (a := 0) (b := 0) (by decide +kernel) rfl (Or.inl rfl) ?_
        exact ⟨rfl, by omega⟩
      refine ⟨fun c25 => ?_, fun c25 => ?_⟩
      · show zwW _ _ _ 118 _ _ _ _
        refine zwW_p [(1, 3, 2)] (q := 119) (ls' := [(2, 1), (0, a), (0, b), (2, v2)]) (st' := [(2, v2)]) (by decide +kernel) rfl ?_
        refine zwX_gi C (kd := 1) (bn := 5) (n := 6) (nx := 122) (by decide +kernel) Gv2.2.1 Gv2.1 rfl ?_
        intro v26 ev26 lv26 uv26
        refine zwW_ret (nx := 123) (a := 0) (b := 0) (by decide +kernel) rfl (Or.inl rfl) ?_
        exact ⟨rfl, by omega⟩
      show zwW _ _ _ 123 _ _ _ _
      refine zwW_p [(0, -1, 0)] (q := 124) (ls' := [(2, 1), (0, a), (0, b), (2, v2)]) (st' := [(0, -1)]) (by decide +kernel) rfl ?_
      refine zwW_ret (nx := 125) (a := 0) (b := 0) (by decide +kernel) rfl (Or.inl rfl) ?_
      exact ⟨rfl, by omega⟩
    · exfalso; omega
def msx45 : Zms := [(20, 20, 0, 3)]
-- WheelLand.ask(I)I
theorem x45 {sc : List Int} (h : Hp) (C : CI h) (a : Int) (q_a : -2147483648 ≤ a ∧ a ≤ 2147483647) (hl : h.length ≤ 999930000) : zwC sc 7 45 [(2, 1), (0, a)] h (zwRt 0 (fun x g => CI g ∧ zXR msx45 (1) (1000) h g ∧ (-2147483648 ≤ x ∧ x ≤ 2147483647))) := by
  refine zwC_of (D := 6) 3 (by decide +kernel) rfl (ls := [(2, 1), (0, a), (9, 0)]) rfl ?_
  have X : zXR msx45 0 0 h h := zXR.rf _ _
  refine zwW_p [(1, 0, 2), (1, 1, 0)] (q := 2) (ls' := [(2, 1), (0, a), (9, 0)]) (st' := [(0, a), (2, 1)]) (by decide +kernel) rfl ?_
  refine zwW_cm C.1 (op := 60) (k' := 115) (n := 1) (kd := 12) (m := 13) (nx := 5) (r := 1) (tl := [(0, a)]) (st' := []) (by decide +kernel) rfl (by decide +kernel) rfl (x115 h C a (by omega)) ?_
  rintro v2 _ ⟨rfl, ⟨rfl, c1⟩ | ⟨Gv2, c1⟩⟩
  · refine zwW_p [(2, 2, 2), (1, 2, 2)] (q := 7) (ls' := [(2, 1), (0, a), (2, 0)]) (st' := [(2, 0)]) (by decide +kernel) rfl ?_
    refine zwnu_eq (q := 36) (nx := 10) (by decide +kernel) (by decide) (fun c3 => ?_) (fun c3 => ?_)
    · refine zwW_p [(0, -1, 0)] (q := 37) (ls' := [(2, 1), (0, a), (2, 0)]) (st' := [(0, -1)]) (by decide +kernel) rfl ?_
      refine zwW_ret (nx := 38) (a := 0) (b := 0) (by decide +kernel) rfl (Or.inl rfl) ?_
      exact ⟨C, X.le (by decide) (by decide), by omega⟩
    · exfalso; omega
  · have lv2 := Gv2.1
    have ev2 := c1.2.2
    refine zwW_p [(2, 2, 2), (1, 2, 2)] (q := 7) (ls' := [(2, 1), (0, a), (2, v2)]) (st' := [(2, v2)]) (by decide +kernel) rfl ?_
    refine zwnu_eq (q := 36) (nx := 10) (by decide +kernel) (by omega) (fun c4 => ?_) (fun c4 => ?_)
    · exfalso; omega
    · refine zwW_p [(1, 0, 2)] (q := 11) (ls' := [(2, 1), (0, a), (2, v2)]) (st' := [(2, 1)]) (by decide +kernel) rfl ?_
      refine zwW_gc C.1 (kd := 12) (bn := 9) (n := 13) (c := 19) (nx := 14) (by decide +kernel) ?_
      refine zwW_gc C.1 (kd := 3) (bn := 0) (n := 10) (c := 20) (nx := 17) (by decide +kernel) ?_
      refine zwW_cm C.1 (op := 60) (k' := 96) (n := 0) (kd := 0) (m := 3) (nx := 20) (r := 20) (tl := []) (st' := []) (by decide +kernel) rfl (by decide +kernel) rfl (x96_20 C) ?_
      rintro v5 _ ⟨rfl, ev5⟩
      have bv5 := zLb_20 C
      refine zwW_p [(0, 6, 0)] (q := 22) (ls' := [(2, 1), (0, a), (2, v2)]) (st' := [(0, 6), (0, v5)]) (by decide +kernel) rfl ?_
      refine zwic_ge (q := 36) (nx := 25) (by decide +kernel) (fun c6 => ?_) (fun c6 => ?_)
      · refine zwW_p [(0, -1, 0)] (q := 37) (ls' := [(2, 1), (0, a), (2, v2)]) (st' := [(0, -1)]) (by decide +kernel) rfl ?_
        refine zwW_ret (nx := 38) (a := 0) (b := 0) (by decide +kernel) rfl (Or.inl rfl) ?_
        exact ⟨C, X.le (by decide) (by decide), by omega⟩
      · refine zwW_p [(1, 0, 2)] (q := 26) (ls' := [(2, 1), (0, a), (2, v2)]) (st' := [(2, 1)]) (by decide +kernel) rfl ?_
        refine zwW_gc C.1 (kd := 12) (bn := 9) (n := 13) (c := 19) (nx := 29) (by decide +kernel) ?_
        refine zwW_p [(1, 2, 2)] (q := 30) (ls' := [(2, 1), (0, a), (2, v2)]) (st' := [(2, v2), (2, 19)]) (by decide +kernel) rfl ?_
        refine zwW_cm C.1 (op := 60) (k' := 140) (n := 1) (kd := 3) (m := 10) (nx := 33) (r := 19) (tl := [(2, v2)]) (st' := []) (by decide +kernel) rfl (by decide +kernel) rfl (x140 h C v2 Gv2) ?_
        rintro x _ ⟨rfl, ⟨rfl, c7⟩ | ⟨rfl, c7⟩⟩
        · refine zwif_eq (q := 38) (nx := 36) (by decide +kernel) (fun c8 => ?_) (fun c8 => ?_)
          · exfalso; omega
          · refine zwW_p [(0, -1, 0)] (q := 37) (ls' := [(2, 1), (0, a), (2, v2)]) (st' := [(0, -1)]) (by decide +kernel) rfl ?_
            refine zwW_ret (nx := 38) (a := 0) (b := 0) (by decide +kernel) rfl (Or.inl rfl) ?_
            exact ⟨C, X.le (by decide) (by decide), by omega⟩
        · refine zwif_eq (q := 38) (nx := 36) (by decide +kernel) (fun c9 => ?_) (fun c9 => ?_)
          · refine zwW_p [(1, 0, 2)] (q := 39) (ls' := [(2, 1), (0, a), (2, v2)]) (st' := [(2, 1)]) (by decide +kernel) rfl ?_
            refine zwW_gc C.1 (kd := 12) (bn := 9) (n := 13) (c := 19) (nx := 42) (by decide +kernel) ?_
            refine zwW_gc C.1 (kd := 3) (bn := 0) (n := 10) (c := 20) (nx := 45) (by decide +kernel) ?_
            refine zwW_p [(1, 2, 2)] (q := 46) (ls' := [(2, 1), (0, a), (2, v2)]) (st' := [(2, v2), (2, 20)]) (by decide +kernel) rfl ?_
            refine zwW_cm C.1 (op := 60) (k' := 100) (n := 1) (kd := 0) (m := 3) (nx := 49) (r := 20) (tl := [(2, v2)]) (st' := []) (by decide +kernel) rfl (by decide +kernel) rfl (x100_20 C Gv2 (by omega) (by omega)) ?_
            rintro x h11 ⟨rfl, Ah11⟩
            have Ch11 := Ah11.1
            have Qh11 : zXR [(20, 20, 0, 3)] (1) (1000) h h11 := Ah11.2.1
            have zh11 : fld h11 20 2 = fld h 20 2 + 1 := Ah11.2.2.1
            have Xh11 : zXR msx45 (1) (1000) h h11 := X.tr (c2 := 1) (s2 := 1000) Qh11 (by decide +kernel) (by decide) (by decide)
            have Gh11_0 : gL h11 v2 := Gv2.x Qh11
            refine zwW_p [(15, 0, 0), (1, 0, 2)] (q := 51) (ls' := [(2, 1), (0, a), (2, v2)]) (st' := [(2, 1)]) (by decide +kernel) rfl ?_
            refine zwW_gc Ch11.1 (kd := 12) (bn := 9) (n := 13) (c := 19) (nx := 54) (by decide +kernel) ?_
            refine zwW_gc Ch11.1 (kd := 3) (bn := 0) (n := 10) (c := 20) (nx := 57) (by decide +kernel) ?_
            refine zwW_cm Ch11.1 (op := 60) (k' := 96) (n := 0) (kd := 0) (m := 3) (nx := 60) (r := 20) (tl := []) (st' := []) (by decide +kernel) rfl (by decide +kernel) rfl (x96_20 Ch11) ?_
            rintro v12 _ ⟨rfl, ev12⟩
            have bv12 := zLb_20 Ch11
            refine zwW_ret (nx := 61) (a := 0) (b := 0) (by decide +kernel) rfl (Or.inl rfl) ?_
            exact ⟨Ch11, Xh11.le (by decide) (by decide), by omega⟩
          · exfalso; omega
def msx47 : Zms := [(20, 20, 0, 3)]
-- WheelLand.clear()I
theorem x47 {sc : List Int} (h : Hp) (C : CI h) : zwC sc 2 47 [(2, 1)] h (zwRt 0 (fun x g => CI g ∧ zXR msx47 (6) (6000) h g ∧ (-2147483648 ≤ x ∧ x ≤ 2147483647))) := by
  refine zwC_of (D := 1) 2 (by decide +kernel) rfl (ls := [(2, 1), (9, 0)]) rfl ?_
  have X : zXR msx47 0 0 h h := zXR.rf _ _
  refine zwW_p [(1, 0, 2)] (q := 1) (ls' := [(2, 1), (9, 0)]) (st' := [(2, 1)]) (by decide +kernel) rfl ?_
  refine zwW_gc C.1 (kd := 12) (bn := 9) (n := 13) (c := 19) (nx := 4) (by decide +kernel) ?_
  refine zwW_gc C.1 (kd := 3) (bn := 0) (n := 10) (c := 20) (nx := 7) (by decide +kernel) ?_
  refine zwW_cm C.1 (op := 60) (k' := 96) (n := 0) (kd := 0) (m := 3) (nx := 10) (r := 20) (tl := []) (st' := []) (by decide +kernel) rfl (by decide +kernel) rfl (x96_20 C) ?_
  rintro v1 _ ⟨rfl, ev1⟩
  have bv1 := zLb_20 C
  refine zwW_p [(2, 1, 0), (1, 0, 2)] (q := 12) (ls' := [(2, 1), (0, v1)]) (st' := [(2, 1)]) (by decide +kernel) rfl ?_
  refine zwW_gc C.1 (kd := 12) (bn := 9) (n := 13) (c := 19) (nx := 15) (by decide +kernel) ?_
  refine zwW_gc C.1 (kd := 3) (bn := 0) (n := 10) (c := 20) (nx := 18) (by decide +kernel) ?_
  refine zwW_cmv C.1 (op := 60) (k' := 141) (n := 0) (kd := 0) (m := 3) (nx := 21) (r := 20) (tl := []) (st' := []) (by decide +kernel) rfl (by decide +kernel) rfl (x141_20 C) ?_
  rintro h3 ⟨Ch3, Qh3, zh3, oh3⟩
  have zh3 : fld h3 20 2 = 0 := zh3
  have Xh3 : zXR msx47 (6) (6000) h h3 := X.tr (c2 := 6) (s2 := 6000) Qh3 (by decide +kernel) (by decide) (by decide)
  refine zwW_p [(1, 1, 0)] (q := 22) (ls' := [(2, 1), (0, v1)]) (st' := [(0, v1)]) (by decide +kernel) rfl ?_
  refine zwW_ret (nx := 23) (a := 0) (b := 0) (by decide +kernel) rfl (Or.inl rfl) ?_
  exact ⟨Ch3, Xh3.le (by decide) (by decide), by omega⟩
def msx49 : Zms := [(17, 17, 0, 13), (18, 18, 0, 400), (19, 19, 2, 3), (19, 19, 3, 4), (19, 19, 4, 5), (21, 21, 0, 3), (22, 22, 0, 6), (23, 23, 0, 6), (24, 24, 0, 6), (25, 25, 0, 6), (26, 26, 0, 6)]
-- WheelLand.hands(II)I
theorem x49 {sc : List Int} (h : Hp) (C : CI h) (a b : Int) (q_a : -2147483648 ≤ a ∧ a ≤ 2147483647) (q_b : -2147483648 ≤ b ∧ b ≤ 2147483647) (hl : h.length ≤ 999280000) : zwC sc 72 49 [(2, 1), (0, a), (0, b)] h (zwRt 0 (fun x g => CI g ∧ zXR msx49 (6) (6000) h g ∧ (-2147483648 ≤ x ∧ x ≤ 2147483647))) := by
  refine zwC_of (D := 71) 4 (by decide +kernel) rfl (ls := [(2, 1), (0, a), (0, b), (9, 0)]) rfl ?_
  have X : zXR msx49 0 0 h h := zXR.rf _ _
  refine zwW_p [(1, 0, 2), (1, 1, 0), (1, 2, 0)] (q := 3) (ls' := [(2, 1), (0, a), (0, b), (9, 0)]) (st' := [(0, b), (0, a), (2, 1)]) (by decide +kernel) rfl ?_
  refine zwW_cm C.1 (op := 60) (k' := 142) (n := 2) (kd := 12) (m := 13) (nx := 6) (r := 1) (tl := [(0, a), (0, b)]) (st' := []) (by decide +kernel) rfl (by decide +kernel) rfl (x142 h C a b (by omega) (by omega)) ?_
  rintro x _ ⟨rfl, ⟨rfl, c1⟩ | ⟨rfl, c1⟩⟩
  · refine zwif_ne (q := 11) (nx := 9) (by decide +kernel) (fun c2 => ?_) (fun c2 => ?_)
    · refine zwW_p [(1, 0, 2)] (q := 12) (ls' := [(2, 1), (0, a), (0, b), (9, 0)]) (st' := [(2, 1)]) (by decide +kernel) rfl ?_
      refine zwW_gc C.1 (kd := 12) (bn := 9) (n := 13) (c := 19) (nx := 15) (by decide +kernel) ?_
      refine zwW_cmv C.1 (op := 60) (k' := 143) (n := 0) (kd := 3) (m := 10) (nx := 18) (r := 19) (tl := []) (st' := []) (by decide +kernel) rfl (by decide +kernel) rfl (x143 h C) ?_
      rintro h3 ⟨Ch3, Qh3⟩
      have Xh3 : zXR msx49 (6) (6000) h h3 := X.tr (c2 := 6) (s2 := 6000) Qh3 (by decide +kernel) (by decide) (by decide)
      have th3_3_2 : fld h3 3 2 = fld h 3 2 := Qh3.f (a1 := 3) (a2 := 3) (j1 := 2) (j2 := 3) (by decide +kernel) (by first | decide | exact ⟨by decide, by decide⟩) (by first | decide | exact ⟨by decide, by decide⟩) (by first | decide | exact ⟨by decide, by decide⟩)
      have th3_20_2 : fld h3 20 2 = fld h 20 2 := Qh3.f (a1 := 20) (a2 := 20) (j1 := 2) (j2 := 3) (by decide +kernel) (by first | decide | exact ⟨by decide, by decide⟩) (by first | decide | exact ⟨by decide, by decide⟩) (by first | decide | exact ⟨by decide, by decide⟩)
      refine zwW_p [(0, 0, 0), (2, 3, 0)] (q := 20) (ls' := [(2, 1), (0, a), (0, b), (0, 0)]) (st' := []) (by decide +kernel) rfl ?_
      have L4 : ∀ (n : Nat) (v3L4 : Int) (hL4 : Hp), n = ((1000 - v3L4)).toNat → (0 ≤ v3L4 ∧ v3L4 ≤ 1000) → CI hL4 → zXR msx49 (6) (6000) h hL4 → zwW sc (71) 49 20 [(2, 1), (0, a), (0, b), (0, v3L4)] [] hL4 (zwRt 0 (fun x g => CI g ∧ zXR msx49 (6) (6000) h g ∧ (-2147483648 ≤ x ∧ x ≤ 2147483647))) := by
        intro n
        induction n using Nat.strongRecOn with
        | ind n IHL4 =>
          intro v3L4 hL4 hnL4 iL4_0 ChL4 XhL4
          refine zwW_p [(1, 3, 0), (1, 0, 2)] (q := 22) (ls' := [(2, 1), (0, a), (0, b), (0, v3L4)]) (st' := [(2, 1), (0, v3L4)]) (by decide +kernel) rfl ?_
          refine zwW_gc ChL4.1 (kd := 12) (bn := 3) (n := 13) (c := 3) (nx := 25) (by decide +kernel) ?_
          refine zwW_cm ChL4.1 (op := 60) (k' := 96) (n := 0) (kd := 0) (m := 3) (nx := 28) (r := 3) (tl := []) (st' := [(0, v3L4)]) (by decide +kernel) rfl (by decide +kernel) rfl (x96_3 ChL4) ?_
          rintro v5 _ ⟨rfl, ev5⟩
          have bv5 := zLb_3 ChL4
          refine zwic_ge (q := 63) (nx := 31) (by decide +kernel) (fun c6 => ?_) (fun c6 => ?_)
          · refine zwW_p [(0, 0, 0), (2, 3, 0)] (q := 65) (ls' := [(2, 1), (0, a), (0, b), (0, 0)]) (st' := []) (by decide +kernel) rfl ?_
            have L7 : ∀ (n : Nat) (v3L7 : Int) (hL7 : Hp), n = ((1000 - v3L7)).toNat → (0 ≤ v3L7 ∧ v3L7 ≤ 1000) → CI hL7 → zXR msx49 (6) (6000) h hL7 → zwW sc (71) 49 65 [(2, 1), (0, a), (0, b), (0, v3L7)] [] hL7 (zwRt 0 (fun x g => CI g ∧ zXR msx49 (6) (6000) h g ∧ (-2147483648 ≤ x ∧ x ≤ 2147483647))) := by
              intro n
              induction n using Nat.strongRecOn with
              | ind n IHL7 =>
                intro v3L7 hL7 hnL7 iL7_0 ChL7 XhL7
                refine zwW_p [(1, 3, 0), (1, 0, 2)] (q := 67) (ls' := [(2, 1), (0, a), (0, b), (0, v3L7)]) (st' := [(2, 1), (0, v3L7)]) (by decide +kernel) rfl ?_
                refine zwW_gc ChL7.1 (kd := 12) (bn := 9) (n := 13) (c := 19) (nx := 70) (by decide +kernel) ?_
                refine zwW_gc ChL7.1 (kd := 3) (bn := 0) (n := 10) (c := 20) (nx := 73) (by decide +kernel) ?_
                refine zwW_cm ChL7.1 (op := 60) (k' := 96) (n := 0) (kd := 0) (m := 3) (nx := 76) (r := 20) (tl := []) (st' := [(0, v3L7)]) (by decide +kernel) rfl (by decide +kernel) rfl (x96_20 ChL7) ?_
                rintro v8 _ ⟨rfl, ev8⟩
                have bv8 := zLb_20 ChL7
                refine zwic_ge (q := 104) (nx := 79) (by decide +kernel) (fun c9 => ?_) (fun c9 => ?_)
                · refine zwW_p [(1, 0, 2)] (q := 105) (ls' := [(2, 1), (0, a), (0, b), (0, v3L7)]) (st' := [(2, 1)]) (by decide +kernel) rfl ?_
                  refine zwW_gc ChL7.1 (kd := 12) (bn := 9) (n := 13) (c := 19) (nx := 108) (by decide +kernel) ?_
                  refine zwW_cmv ChL7.1 (op := 60) (k' := 146) (n := 0) (kd := 3) (m := 10) (nx := 111) (r := 19) (tl := []) (st' := []) (by decide +kernel) rfl (by decide +kernel) rfl (x146 hL7 ChL7) ?_
                  rintro h10 ⟨Ch10, Qh10⟩
                  have Xh10 : zXR msx49 (6) (6000) h h10 := XhL7.tr (c2 := 6) (s2 := 6000) Qh10 (by decide +kernel) (by decide) (by decide)
                  have th10_3_2 : fld h10 3 2 = fld hL7 3 2 := Qh10.f (a1 := 3) (a2 := 3) (j1 := 2) (j2 := 3) (by decide +kernel) (by first | decide | exact ⟨by decide, by decide⟩) (by first | decide | exact ⟨by decide, by decide⟩) (by first | decide | exact ⟨by decide, by decide⟩)
                  have th10_20_2 : fld h10 20 2 = fld hL7 20 2 := Qh10.f (a1 := 20) (a2 := 20) (j1 := 2) (j2 := 3) (by decide +kernel) (by first | decide | exact ⟨by decide, by decide⟩) (by first | decide | exact ⟨by decide, by decide⟩) (by first | decide | exact ⟨by decide, by decide⟩)
                  refine zwW_p [(1, 2, 0)] (q := 112) (ls' := [(2, 1), (0, a), (0, b), (0, v3L7)]) (st' := [(0, b)]) (by decide +kernel) rfl ?_
                  refine zwW_sw (d := 164) (os := [0, 140, 1, 148, 2, 156]) (by decide +kernel) ?_
                  refine ⟨fun c11 => ?_, fun c11 => ?_⟩
                  · show zwW _ _ _ 140 _ _ _ _
                    refine zwW_p [(1, 0, 2)] (q := 141) (ls' := [(2, 1), (0, a), (0, b), (0, v3L7)]) (st' := [(2, 1)]) (by decide +kernel) rfl ?_
                    refine zwW_gc Ch10.1 (kd := 12) (bn := 9) (n := 13) (c := 19) (nx := 144) (by decide +kernel) ?_
                    refine zwW_gs Ch10.1 (kd := 3) (bn := 2) (n := 10) (t := 0) (lo := -2147483648) (hi := 2147483647) (nx := 147) (by decide +kernel) ?_
                    intro v12 ev12 lv12 uv12
                    refine zwW_ret (nx := 148) (a := 0) (b := 0) (by decide +kernel) rfl (Or.inl rfl) ?_
                    exact ⟨Ch10, Xh10.le (by decide) (by decide), by omega⟩
                  refine ⟨fun c13 => ?_, fun c13 => ?_⟩
                  · show zwW _ _ _ 148 _ _ _ _
                    refine zwW_p [(1, 0, 2)] (q := 149) (ls' := [(2, 1), (0, a), (0, b), (0, v3L7)]) (st' := [(2, 1)]) (by decide +kernel) rfl ?_
                    refine zwW_gc Ch10.1 (kd := 12) (bn := 9) (n := 13) (c := 19) (nx := 152) (by decide +kernel) ?_
                    refine zwW_gs Ch10.1 (kd := 3) (bn := 3) (n := 10) (t := 0) (lo := -2147483648) (hi := 2147483647) (nx := 155) (by decide +kernel) ?_
                    intro v14 ev14 lv14 uv14
                    refine zwW_ret (nx := 156) (a := 0) (b := 0) (by decide +kernel) rfl (Or.inl rfl) ?_
                    exact ⟨Ch10, Xh10.le (by decide) (by decide), by omega⟩
                  refine ⟨fun c15 => ?_, fun c15 => ?_⟩
                  · show zwW _ _ _ 156 _ _ _ _
                    refine zwW_p [(1, 0, 2)] (q := 157) (ls' := [(2, 1), (0, a), (0, b), (0, v3L7)]) (st' := [(2, 1)]) (by decide +kernel) rfl ?_
                    refine zwW_gc Ch10.1 (kd := 12) (bn := 9) (n := 13) (c := 19) (nx := 160) (by decide +kernel) ?_
                    refine zwW_gs Ch10.1 (kd := 3) (bn := 4) (n := 10) (t := 0) (lo := -2147483648) (hi := 2147483647) (nx := 163) (by decide +kernel) ?_
                    intro v16 ev16 lv16 uv16
                    refine zwW_ret (nx := 164) (a := 0) (b := 0) (by decide +kernel) rfl (Or.inl rfl) ?_
                    exact ⟨Ch10, Xh10.le (by decide) (by decide), by omega⟩
                  show zwW _ _ _ 164 _ _ _ _
                  refine zwW_p [(1, 0, 2)] (q := 165) (ls' := [(2, 1), (0, a), (0, b), (0, v3L7)]) (st' := [(2, 1)]) (by decide +kernel) rfl ?_
                  refine zwW_gc Ch10.1 (kd := 12) (bn := 9) (n := 13) (c := 19) (nx := 168) (by decide +kernel) ?_
                  refine zwW_p [(1, 2, 0), (0, 10, 0)] (q := 171) (ls' := [(2, 1), (0, a), (0, b), (0, v3L7)]) (st' := [(0, 10), (0, b), (2, 19)]) (by decide +kernel) rfl ?_
                  refine zwW_sbw (nx := 172) (by decide +kernel) ?_
                  intro v17 ev17 lv17 uv17
                  refine zwW_cm Ch10.1 (op := 60) (k' := 147) (n := 1) (kd := 3) (m := 10) (nx := 175) (r := 19) (tl := [(0, v17)]) (st' := []) (by decide +kernel) rfl (by decide +kernel) rfl (x147 h10 Ch10 v17 (by omega)) ?_
                  rintro v18 _ ⟨rfl, f19⟩
                  refine zwW_ret (nx := 176) (a := 0) (b := 0) (by decide +kernel) rfl (Or.inl rfl) ?_
                  exact ⟨Ch10, Xh10.le (by decide) (by decide), by omega⟩
                · refine zwW_p [(1, 0, 2), (1, 3, 0), (1, 0, 2)] (q := 82) (ls' := [(2, 1), (0, a), (0, b), (0, v3L7)]) (st' := [(2, 1), (0, v3L7), (2, 1)]) (by decide +kernel) rfl ?_
                  refine zwW_gc ChL7.1 (kd := 12) (bn := 9) (n := 13) (c := 19) (nx := 85) (by decide +kernel) ?_
                  refine zwW_gc ChL7.1 (kd := 3) (bn := 0) (n := 10) (c := 20) (nx := 88) (by decide +kernel) ?_
                  refine zwW_p [(1, 3, 0)] (q := 89) (ls' := [(2, 1), (0, a), (0, b), (0, v3L7)]) (st' := [(0, v3L7), (2, 20), (0, v3L7), (2, 1)]) (by decide +kernel) rfl ?_
                  refine zwW_cm ChL7.1 (op := 60) (k' := 123) (n := 1) (kd := 0) (m := 3) (nx := 92) (r := 20) (tl := [(0, v3L7)]) (st' := [(0, v3L7), (2, 1)]) (by decide +kernel) rfl (by decide +kernel) rfl (x123_20 ChL7 (i := v3L7) (by first | omega | exact ⟨by omega, by omega⟩)) ?_
                  rintro v20 _ ⟨rfl, Gv20, ev20⟩
                  have lv20 := Gv20.1
                  refine zwW_cast (a := 6) (kd := 6) (n := 7) (nx := 95) (by decide +kernel) rfl (Or.inr Gv20.2.1) ?_
                  refine zwW_cmv ChL7.1 (op := 60) (k' := 145) (n := 2) (kd := 12) (m := 13) (nx := 98) (r := 1) (tl := [(0, v3L7), (2, v20)]) (st' := []) (by decide +kernel) rfl (by decide +kernel) rfl (x145 hL7 ChL7 v3L7 v20 (by omega) Gv20) ?_
                  rintro h21 ⟨Ch21, Qh21⟩
                  have Xh21 : zXR msx49 (6) (6000) h h21 := XhL7.tr (c2 := 6) (s2 := 6000) Qh21 (by decide +kernel) (by decide) (by decide)
                  have th21_3_2 : fld h21 3 2 = fld hL7 3 2 := Qh21.f (a1 := 3) (a2 := 3) (j1 := 2) (j2 := 3) (by decide +kernel) (by first | decide | exact ⟨by decide, by decide⟩) (by first | decide | exact ⟨by decide, by decide⟩) (by first | decide | exact ⟨by decide, by decide⟩)
                  have th21_20_2 : fld h21 20 2 = fld hL7 20 2 := Qh21.f (a1 := 20) (a2 := 20) (j1 := 2) (j2 := 3) (by decide +kernel) (by first | decide | exact ⟨by decide, by decide⟩) (by first | decide | exact ⟨by decide, by decide⟩) (by first | decide | exact ⟨by decide, by decide⟩)
                  refine zwW_inc (i := 3) (c := 1) (x := v3L7) (nx := 101) (by decide +kernel) rfl (by first | omega | exact ⟨by omega, by omega⟩) (ls' := [(2, 1), (0, a), (0, b), (0, (v3L7 + 1))]) rfl ?_
                  refine zwW_p [(24, 65, 0)] (q := 65) (ls' := [(2, 1), (0, a), (0, b), (0, (v3L7 + 1))]) (st' := []) (by decide +kernel) rfl ?_
                  exact IHL7 ((1000 - (v3L7 + 1))).toNat (by omega) (v3L7 + 1) h21 rfl (by omega) Ch21 (Xh21.le (by decide) (by decide))
            exact L7 _ 0 hL4 rfl (by omega) ChL4 (XhL4.le (by decide) (by decide))
          · refine zwW_p [(1, 1, 0), (1, 3, 0)] (q := 33) (ls' := [(2, 1), (0, a), (0, b), (0, v3L4)]) (st' := [(0, v3L4), (0, a)]) (by decide +kernel) rfl ?_
            refine zwW_any2 (a := 9) (nx := 34) (by decide +kernel) rfl (by first | omega | exact ⟨by omega, by omega⟩) (Or.inr (by first | decide | exact ⟨by decide, by decide⟩)) ?_
            intro v22 lv22 uv22
            refine zwW_p [(0, 1, 0)] (q := 35) (ls' := [(2, 1), (0, a), (0, b), (0, v3L4)]) (st' := [(0, 1), (0, v22)]) (by decide +kernel) rfl ?_
            refine zwW_any2 (a := 5) (nx := 36) (by decide +kernel) rfl (by first | omega | exact ⟨by omega, by omega⟩) (Or.inr (by first | decide | exact ⟨by decide, by decide⟩)) ?_
            intro v23 lv23 uv23
            refine zwif_eq (q := 57) (nx := 39) (by decide +kernel) (fun c24 => ?_) (fun c24 => ?_)
            · refine zwW_inc (i := 3) (c := 1) (x := v3L4) (nx := 60) (by decide +kernel) rfl (by first | omega | exact ⟨by omega, by omega⟩) (ls' := [(2, 1), (0, a), (0, b), (0, (v3L4 + 1))]) rfl ?_
              refine zwW_p [(24, 20, 0)] (q := 20) (ls' := [(2, 1), (0, a), (0, b), (0, (v3L4 + 1))]) (st' := []) (by decide +kernel) rfl ?_
              exact IHL4 ((1000 - (v3L4 + 1))).toNat (by omega) (v3L4 + 1) hL4 rfl (by omega) ChL4 (XhL4.le (by decide) (by decide))
            · refine zwW_p [(1, 0, 2)] (q := 40) (ls' := [(2, 1), (0, a), (0, b), (0, v3L4)]) (st' := [(2, 1)]) (by decide +kernel) rfl ?_
              refine zwW_gc ChL4.1 (kd := 12) (bn := 9) (n := 13) (c := 19) (nx := 43) (by decide +kernel) ?_
              refine zwW_p [(1, 0, 2)] (q := 44) (ls' := [(2, 1), (0, a), (0, b), (0, v3L4)]) (st' := [(2, 1), (2, 19)]) (by decide +kernel) rfl ?_
              refine zwW_gc ChL4.1 (kd := 12) (bn := 3) (n := 13) (c := 3) (nx := 47) (by decide +kernel) ?_
              refine zwW_p [(1, 3, 0)] (q := 48) (ls' := [(2, 1), (0, a), (0, b), (0, v3L4)]) (st' := [(0, v3L4), (2, 3), (2, 19)]) (by decide +kernel) rfl ?_
              refine zwW_cm ChL4.1 (op := 60) (k' := 123) (n := 1) (kd := 0) (m := 3) (nx := 51) (r := 3) (tl := [(0, v3L4)]) (st' := [(2, 19)]) (by decide +kernel) rfl (by decide +kernel) rfl (x123_3 ChL4 (i := v3L4) (by first | omega | exact ⟨by omega, by omega⟩)) ?_
              rintro v25 _ ⟨rfl, Gv25, ev25⟩
              have lv25 := Gv25.1
              refine zwW_cast (a := 4) (kd := 4) (n := 19) (nx := 54) (by decide +kernel) rfl (Or.inr Gv25.2.1) ?_
              refine zwW_cmv ChL4.1 (op := 60) (k' := 144) (n := 1) (kd := 3) (m := 10) (nx := 57) (r := 19) (tl := [(2, v25)]) (st' := []) (by decide +kernel) rfl (by decide +kernel) rfl (x144 hL4 ChL4 v25 Gv25 (by have := XhL4.hl C ChL4 (by decide) hl; omega)) ?_
              rintro h26 ⟨Ch26, Qh26⟩
              have Xh26 : zXR msx49 (6) (6000) h h26 := XhL4.tr (c2 := 6) (s2 := 6000) Qh26 (by decide +kernel) (by decide) (by decide)
              have th26_3_2 : fld h26 3 2 = fld hL4 3 2 := Qh26.f (a1 := 3) (a2 := 3) (j1 := 2) (j2 := 3) (by decide +kernel) (by first | decide | exact ⟨by decide, by decide⟩) (by first | decide | exact ⟨by decide, by decide⟩) (by first | decide | exact ⟨by decide, by decide⟩)
              have th26_20_2 : fld h26 20 2 = fld hL4 20 2 := Qh26.f (a1 := 20) (a2 := 20) (j1 := 2) (j2 := 3) (by decide +kernel) (by first | decide | exact ⟨by decide, by decide⟩) (by first | decide | exact ⟨by decide, by decide⟩) (by first | decide | exact ⟨by decide, by decide⟩)
              refine zwW_inc (i := 3) (c := 1) (x := v3L4) (nx := 60) (by decide +kernel) rfl (by first | omega | exact ⟨by omega, by omega⟩) (ls' := [(2, 1), (0, a), (0, b), (0, (v3L4 + 1))]) rfl ?_
              refine zwW_p [(24, 20, 0)] (q := 20) (ls' := [(2, 1), (0, a), (0, b), (0, (v3L4 + 1))]) (st' := []) (by decide +kernel) rfl ?_
              exact IHL4 ((1000 - (v3L4 + 1))).toNat (by omega) (v3L4 + 1) h26 rfl (by omega) Ch26 (Xh26.le (by decide) (by decide))
      exact L4 _ 0 h3 rfl (by omega) Ch3 (Xh3.le (by decide) (by decide))
    · exfalso; omega
  · refine zwif_ne (q := 11) (nx := 9) (by decide +kernel) (fun c27 => ?_) (fun c27 => ?_)
    · exfalso; omega
    · refine zwW_p [(0, -1, 0)] (q := 10) (ls' := [(2, 1), (0, a), (0, b), (9, 0)]) (st' := [(0, -1)]) (by decide +kernel) rfl ?_
      refine zwW_ret (nx := 11) (a := 0) (b := 0) (by decide +kernel) rfl (Or.inl rfl) ?_
      exact ⟨C, X.le (by decide) (by decide), by omega⟩
def msx51 : Zms := [(1001, 1001, 5, 6), (1011, 1011, 5, 6), (1011, 1011, 6, 7), (1011, 1011, 12, 13)]
-- WheelLand.bring(II)I
theorem x51 {sc : List Int} (h : Hp) (C : CI h) (a b : Int) (q_a : -2147483648 ≤ a ∧ a ≤ 2147483647) (q_b : -2147483648 ≤ b ∧ b ≤ 2147483647) : zwC sc 6 51 [(2, 1), (0, a), (0, b)] h (zwRt 0 (fun x g => CI g ∧ zXR msx51 (0) (0) h g ∧ (-2147483648 ≤ x ∧ x ≤ 2147483647))) := by
  refine zwC_of (D := 5) 5 (by decide +kernel) rfl (ls := [(2, 1), (0, a), (0, b), (9, 0), (9, 0)]) rfl ?_
  have X : zXR msx51 0 0 h h := zXR.rf _ _
  refine zwW_p [(1, 0, 2), (1, 1, 0)] (q := 2) (ls' := [(2, 1), (0, a), (0, b), (9, 0), (9, 0)]) (st' := [(0, a), (2, 1)]) (by decide +kernel) rfl ?_
  refine zwW_cm C.1 (op := 60) (k' := 138) (n := 1) (kd := 12) (m := 13) (nx := 5) (r := 1) (tl := [(0, a)]) (st' := []) (by decide +kernel) rfl (by decide +kernel) rfl (x138 h C a (by omega)) ?_
  rintro v2 _ ⟨rfl, ⟨rfl, c1⟩ | ⟨Gv2, c1⟩⟩
  · refine zwW_p [(2, 3, 2), (1, 0, 2), (1, 2, 0)] (q := 8) (ls' := [(2, 1), (0, a), (0, b), (2, 0), (9, 0)]) (st' := [(0, b), (2, 1)]) (by decide +kernel) rfl ?_
    refine zwW_cm C.1 (op := 60) (k' := 102) (n := 1) (kd := 12) (m := 13) (nx := 11) (r := 1) (tl := [(0, b)]) (st' := []) (by decide +kernel) rfl (by decide +kernel) rfl (x102 h C b (by omega)) ?_
    rintro v4 _ ⟨rfl, ⟨rfl, c3⟩ | ⟨Gv4, c3⟩⟩
    · refine zwW_p [(2, 4, 2), (1, 3, 2)] (q := 14) (ls' := [(2, 1), (0, a), (0, b), (2, 0), (2, 0)]) (st' := [(2, 0)]) (by decide +kernel) rfl ?_
      refine zwnu_eq (q := 63) (nx := 17) (by decide +kernel) (by decide) (fun c5 => ?_) (fun c5 => ?_)
      · refine zwW_p [(0, -1, 0)] (q := 64) (ls' := [(2, 1), (0, a), (0, b), (2, 0), (2, 0)]) (st' := [(0, -1)]) (by decide +kernel) rfl ?_
        refine zwW_ret (nx := 65) (a := 0) (b := 0) (by decide +kernel) rfl (Or.inl rfl) ?_
        exact ⟨C, X.le (by decide) (by decide), by omega⟩
      · exfalso; omega
    · have lv4 := Gv4.1
      have ev4 := c3.2.2
      refine zwW_p [(2, 4, 2), (1, 3, 2)] (q := 14) (ls' := [(2, 1), (0, a), (0, b), (2, 0), (2, v4)]) (st' := [(2, 0)]) (by decide +kernel) rfl ?_
      refine zwnu_eq (q := 63) (nx := 17) (by decide +kernel) (by decide) (fun c6 => ?_) (fun c6 => ?_)
      · refine zwW_p [(0, -1, 0)] (q := 64) (ls' := [(2, 1), (0, a), (0, b), (2, 0), (2, v4)]) (st' := [(0, -1)]) (by decide +kernel) rfl ?_
        refine zwW_ret (nx := 65) (a := 0) (b := 0) (by decide +kernel) rfl (Or.inl rfl) ?_
        exact ⟨C, X.le (by decide) (by decide), by omega⟩
      · exfalso; omega
  · have lv2 := Gv2.1
    have ev2 := c1.2.2
    refine zwW_p [(2, 3, 2), (1, 0, 2), (1, 2, 0)] (q := 8) (ls' := [(2, 1), (0, a), (0, b), (2, v2), (9, 0)]) (st' := [(0, b), (2, 1)]) (by decide +kernel) rfl ?_
    refine zwW_cm C.1 (op := 60) (k' := 102) (n := 1) (kd := 12) (m := 13) (nx := 11) (r := 1) (tl := [(0, b)]) (st' := []) (by decide +kernel) rfl (by decide +kernel) rfl (x102 h C b (by omega)) ?_
    rintro v8 _ ⟨rfl, ⟨rfl, c7⟩ | ⟨Gv8, c7⟩⟩
    · refine zwW_p [(2, 4, 2), (1, 3, 2)] (q := 14) (ls' := [(2, 1), (0, a), (0, b), (2, v2), (2, 0)]) (st' := [(2, v2)]) (by decide +kernel) rfl ?_
      refine zwnu_eq (q := 63) (nx := 17) (by decide +kernel) (by omega) (fun c9 => ?_) (fun c9 => ?_)
      · exfalso; omega
      · refine zwW_p [(1, 4, 2)] (q := 19) (ls' := [(2, 1), (0, a), (0, b), (2, v2), (2, 0)]) (st' := [(2, 0)]) (by decide +kernel) rfl ?_
        refine zwnu_eq (q := 63) (nx := 22) (by decide +kernel) (by decide) (fun c10 => ?_) (fun c10 => ?_)
        · refine zwW_p [(0, -1, 0)] (q := 64) (ls' := [(2, 1), (0, a), (0, b), (2, v2), (2, 0)]) (st' := [(0, -1)]) (by decide +kernel) rfl ?_
          refine zwW_ret (nx := 65) (a := 0) (b := 0) (by decide +kernel) rfl (Or.inl rfl) ?_
          exact ⟨C, X.le (by decide) (by decide), by omega⟩
        · exfalso; omega
    · have lv8 := Gv8.1
      have ev8 := c7.2.2
      refine zwW_p [(2, 4, 2), (1, 3, 2)] (q := 14) (ls' := [(2, 1), (0, a), (0, b), (2, v2), (2, v8)]) (st' := [(2, v2)]) (by decide +kernel) rfl ?_
      refine zwnu_eq (q := 63) (nx := 17) (by decide +kernel) (by omega) (fun c11 => ?_) (fun c11 => ?_)
      · exfalso; omega
      · refine zwW_p [(1, 4, 2)] (q := 19) (ls' := [(2, 1), (0, a), (0, b), (2, v2), (2, v8)]) (st' := [(2, v8)]) (by decide +kernel) rfl ?_
        refine zwnu_eq (q := 63) (nx := 22) (by decide +kernel) (by omega) (fun c12 => ?_) (fun c12 => ?_)
        · exfalso; omega
        · refine zwW_p [(1, 3, 2)] (q := 23) (ls' := [(2, 1), (0, a), (0, b), (2, v2), (2, v8)]) (st' := [(2, v2)]) (by decide +kernel) rfl ?_
          refine zwX_gi C (kd := 1) (bn := 5) (n := 6) (nx := 26) (by decide +kernel) Gv2.2.1 Gv2.1 rfl ?_
          intro v13 ev13 lv13 uv13
          refine zwW_p [(0, -1, 0)] (q := 27) (ls' := [(2, 1), (0, a), (0, b), (2, v2), (2, v8)]) (st' := [(0, -1), (0, v13)]) (by decide +kernel) rfl ?_
          refine zwic_ne (q := 63) (nx := 30) (by decide +kernel) (fun c14 => ?_) (fun c14 => ?_)
          · refine zwW_p [(0, -1, 0)] (q := 64) (ls' := [(2, 1), (0, a), (0, b), (2, v2), (2, v8)]) (st' := [(0, -1)]) (by decide +kernel) rfl ?_
            refine zwW_ret (nx := 65) (a := 0) (b := 0) (by decide +kernel) rfl (Or.inl rfl) ?_
            exact ⟨C, X.le (by decide) (by decide), by omega⟩
          · refine zwW_p [(1, 0, 2), (1, 3, 2)] (q := 32) (ls' := [(2, 1), (0, a), (0, b), (2, v2), (2, v8)]) (st' := [(2, v2), (2, 1)]) (by decide +kernel) rfl ?_
            refine zwW_get (kd := 1) (bn := 1) (t := 2) (n := 6) (nx := 35) (by decide +kernel) Gv2.2.1 rfl ?_
            obtain ⟨v15, ev15⟩ : ∃ z, z = fld h v2 1 := ⟨_, rfl⟩
            rw [← ev15]
            have Gv15 : gH h v15 := by rw [ev15]; exact Gv2.2.2.2
            have lv15 := Gv15.1
            refine zwW_get (kd := 4) (bn := 1) (t := 2) (n := 19) (nx := 38) (by decide +kernel) Gv15.2.1 rfl ?_
            obtain ⟨v16, ev16⟩ : ∃ z, z = fld h v15 1 := ⟨_, rfl⟩
            rw [← ev16]
            have Gv16 : gV h v16 := by rw [ev16]; exact Gv15.2.2
            have lv16 := Gv16.1
            refine zwW_p [(1, 4, 2)] (q := 40) (ls' := [(2, 1), (0, a), (0, b), (2, v2), (2, v8)]) (st' := [(2, v8), (2, v16), (2, 1)]) (by decide +kernel) rfl ?_
            refine zwW_cm C.1 (op := 60) (k' := 105) (n := 2) (kd := 12) (m := 13) (nx := 43) (r := 1) (tl := [(2, v16), (2, v8)]) (st' := []) (by decide +kernel) rfl (by decide +kernel) rfl (x105 h C v16 v8 (Or.inr Gv16) (Or.inr Gv8)) ?_
            rintro v17 _ ⟨rfl, f18, f19⟩
            refine zwW_p [(0, -1, 0)] (q := 44) (ls' := [(2, 1), (0, a), (0, b), (2, v2), (2, v8)]) (st' := [(0, -1), (0, v17)]) (by decide +kernel) rfl ?_
            refine zwic_eq (q := 63) (nx := 47) (by decide +kernel) (fun c20 => ?_) (fun c20 => ?_)
            · refine zwW_p [(0, -1, 0)] (q := 64) (ls' := [(2, 1), (0, a), (0, b), (2, v2), (2, v8)]) (st' := [(0, -1)]) (by decide +kernel) rfl ?_
              refine zwW_ret (nx := 65) (a := 0) (b := 0) (by decide +kernel) rfl (Or.inl rfl) ?_
              exact ⟨C, X.le (by decide) (by decide), by omega⟩
            · refine zwW_p [(1, 4, 2), (1, 3, 2)] (q := 50) (ls' := [(2, 1), (0, a), (0, b), (2, v2), (2, v8)]) (st' := [(2, v2), (2, v8)]) (by decide +kernel) rfl ?_
              refine zwX_gi C (kd := 1) (bn := 3) (n := 6) (nx := 53) (by decide +kernel) Gv2.2.1 Gv2.1 rfl ?_
              intro v21 ev21 lv21 uv21
              refine zwW_p [(1, 3, 2)] (q := 54) (ls' := [(2, 1), (0, a), (0, b), (2, v2), (2, v8)]) (st' := [(2, v2), (0, v21), (2, v8)]) (by decide +kernel) rfl ?_
              refine zwW_get (kd := 1) (bn := 4) (t := 0) (n := 6) (nx := 57) (by decide +kernel) Gv2.2.1 rfl ?_
              obtain ⟨v22, ev22⟩ : ∃ z, z = fld h v2 4 := ⟨_, rfl⟩
              rw [← ev22]
              refine zwW_cv (op := 60) (k' := 149) (n := 2) (kd := 11) (m := 17) (nx := 60) (r := v8) (tl := [(0, v21), (0, v22)]) (st' := []) (by decide +kernel) rfl (by decide +kernel) Gv8.2.1 (x149 h C v8 v21 v22 Gv8 (by omega)) rfl ?_
              rintro x _ ⟨rfl, ⟨rfl, c23⟩ | ⟨rfl, c23⟩⟩
              · refine zwif_ne (q := 65) (nx := 63) (by decide +kernel) (fun c24 => ?_) (fun c24 => ?_)
                · refine zwW_p [(1, 3, 2), (1, 2, 0)] (q := 67) (ls' := [(2, 1), (0, a), (0, b), (2, v2), (2, v8)]) (st' := [(0, b), (2, v2)]) (by decide +kernel) rfl ?_
                  refine zwX_pi C (kd := 1) (bn := 5) (n := 6) (nx := 70) (by decide +kernel) Gv2.2.1 Gv2.1 (by first | omega | exact ⟨by omega, by omega⟩) ?_
                  rintro h25 eh25 Ch25 Qh25
                  have Xh25 : zXR msx51 (0) (0) h h25 := X.tr (c2 := 0) (s2 := 0) Qh25 (by decide +kernel) (by decide) (by decide)
                  have Gh25_0 : gC h25 v2 := Gv2.x Qh25
                  have Gh25_1 : gV h25 v8 := Gv8.x Qh25
                  refine zwW_p [(1, 4, 2), (1, 3, 2)] (q := 73) (ls' := [(2, 1), (0, a), (0, b), (2, v2), (2, v8)]) (st' := [(2, v2), (2, v8)]) (by decide +kernel) rfl ?_
                  refine zwX_gi Ch25 (kd := 1) (bn := 3) (n := 6) (nx := 76) (by decide +kernel) Gh25_0.2.1 Gh25_0.1 rfl ?_
                  intro v26 ev26 lv26 uv26
                  refine zwW_p [(1, 3, 2)] (q := 77) (ls' := [(2, 1), (0, a), (0, b), (2, v2), (2, v8)]) (st' := [(2, v2), (0, v26), (2, v8)]) (by decide +kernel) rfl ?_
                  refine zwW_get (kd := 1) (bn := 4) (t := 0) (n := 6) (nx := 80) (by decide +kernel) Gh25_0.2.1 rfl ?_
                  obtain ⟨v27, ev27⟩ : ∃ z, z = fld h25 v2 4 := ⟨_, rfl⟩
                  rw [← ev27]
                  refine zwW_cvv (op := 60) (k' := 150) (n := 2) (kd := 11) (m := 17) (nx := 83) (r := v8) (tl := [(0, v26), (0, v27)]) (st' := []) (by decide +kernel) rfl (by decide +kernel) Gh25_1.2.1 (x150 h25 Ch25 v8 v26 v27 Gh25_1 (by omega)) rfl ?_
                  rintro h28 ⟨Ch28, Qh28⟩
                  have Xh28 : zXR msx51 (0) (0) h h28 := Xh25.tr (c2 := 0) (s2 := 0) Qh28 (by decide +kernel) (by decide) (by decide)
                  have Gh28_0 : gC h28 v2 := Gh25_0.x Qh28
                  have Gh28_1 : gV h28 v8 := Gh25_1.x Qh28
                  refine zwW_p [(1, 4, 2)] (q := 85) (ls' := [(2, 1), (0, a), (0, b), (2, v2), (2, v8)]) (st' := [(2, v8)]) (by decide +kernel) rfl ?_
                  refine zwX_gi Ch28 (kd := 11) (bn := 5) (n := 17) (nx := 88) (by decide +kernel) Gh28_1.2.1 Gh28_1.1 rfl ?_
                  intro v29 ev29 lv29 uv29
                  refine zwW_p [(1, 4, 2)] (q := 90) (ls' := [(2, 1), (0, a), (0, b), (2, v2), (2, v8)]) (st' := [(2, v8), (0, v29)]) (by decide +kernel) rfl ?_
                  refine zwX_gi Ch28 (kd := 11) (bn := 6) (n := 17) (nx := 93) (by decide +kernel) Gh28_1.2.1 Gh28_1.1 rfl ?_
                  intro v30 ev30 lv30 uv30
                  refine zwW_adw (nx := 94) (by decide +kernel) ?_
                  intro v31 ev31 lv31 uv31
                  have Ev31 : v31 = w32 ((fld h28 v8 5) + (fld h28 v8 6)) := by rw [ev31, ev29, ev30]
                  refine zwW_ret (nx := 95) (a := 0) (b := 0) (by decide +kernel) rfl (Or.inl rfl) ?_
                  exact ⟨Ch28, Xh28.le (by decide) (by decide), by omega⟩
                · exfalso; omega
              · refine zwif_ne (q := 65) (nx := 63) (by decide +kernel) (fun c32 => ?_) (fun c32 => ?_)
                · exfalso; omega
                · refine zwW_p [(0, -1, 0)] (q := 64) (ls' := [(2, 1), (0, a), (0, b), (2, v2), (2, v8)]) (st' := [(0, -1)]) (by decide +kernel) rfl ?_
                  refine zwW_ret (nx := 65) (a := 0) (b := 0) (by decide +kernel) rfl (Or.inl rfl) ?_
                  exact ⟨C, X.le (by decide) (by decide), by omega⟩
def msx53 : Zms := [(1011, 1011, 7, 8)]
-- WheelLand.mill(II)I
theorem x53 {sc : List Int} (h : Hp) (C : CI h) (a b : Int) (q_a : -2147483648 ≤ a ∧ a ≤ 2147483647) (q_b : -2147483648 ≤ b ∧ b ≤ 2147483647) : zwC sc 6 53 [(2, 1), (0, a), (0, b)] h (zwRt 0 (fun x g => CI g ∧ zXR msx53 (0) (0) h g ∧ (-2147483648 ≤ x ∧ x ≤ 2147483647))) := by
  refine zwC_of (D := 5) 4 (by decide +kernel) rfl (ls := [(2, 1), (0, a), (0, b), (9, 0)]) rfl ?_
  have X : zXR msx53 0 0 h h := zXR.rf _ _
  refine zwW_p [(1, 0, 2), (1, 1, 0)] (q := 2) (ls' := [(2, 1), (0, a), (0, b), (9, 0)]) (st' := [(0, a), (2, 1)]) (by decide +kernel) rfl ?_
  refine zwW_cm C.1 (op := 60) (k' := 102) (n := 1) (kd := 12) (m := 13) (nx := 5) (r := 1) (tl := [(0, a)]) (st' := []) (by decide +kernel) rfl (by decide +kernel) rfl (x102 h C a (by omega)) ?_
  rintro v2 _ ⟨rfl, ⟨rfl, c1⟩ | ⟨Gv2, c1⟩⟩
  · refine zwW_p [(2, 3, 2), (1, 3, 2)] (q := 7) (ls' := [(2, 1), (0, a), (0, b), (2, 0)]) (st' := [(2, 0)]) (by decide +kernel) rfl ?_
    refine zwnu_eq (q := 33) (nx := 10) (by decide +kernel) (by decide) (fun c3 => ?_) (fun c3 => ?_)
    · refine zwW_p [(0, -1, 0)] (q := 34) (ls' := [(2, 1), (0, a), (0, b), (2, 0)]) (st' := [(0, -1)]) (by decide +kernel) rfl ?_
      refine zwW_ret (nx := 35) (a := 0) (b := 0) (by decide +kernel) rfl (Or.inl rfl) ?_
      exact ⟨C, X.le (by decide) (by decide), by omega⟩
    · exfalso; omega
  · have lv2 := Gv2.1
    have ev2 := c1.2.2
    refine zwW_p [(2, 3, 2), (1, 3, 2)] (q := 7) (ls' := [(2, 1), (0, a), (0, b), (2, v2)]) (st' := [(2, v2)]) (by decide +kernel) rfl ?_
    refine zwnu_eq (q := 33) (nx := 10) (by decide +kernel) (by omega) (fun c4 => ?_) (fun c4 => ?_)
    · exfalso; omega
    · refine zwW_p [(1, 2, 0), (0, 1, 0), (0, 999, 0)] (q := 15) (ls' := [(2, 1), (0, a), (0, b), (2, v2)]) (st' := [(0, 999), (0, 1), (0, b)]) (by decide +kernel) rfl ?_
      refine zwW_cs (k' := 98) (n := 3) (nx := 18) (as := [(0, b), (0, 1), (0, 999)]) (st' := []) (by decide +kernel) rfl (x98 h C b 1 999 (by omega) (by omega) (by omega)) rfl ?_
      rintro x _ ⟨rfl, ⟨rfl, c5⟩ | ⟨rfl, c5⟩⟩
      · refine zwif_ne (q := 33) (nx := 21) (by decide +kernel) (fun c6 => ?_) (fun c6 => ?_)
        · refine zwW_p [(0, -1, 0)] (q := 34) (ls' := [(2, 1), (0, a), (0, b), (2, v2)]) (st' := [(0, -1)]) (by decide +kernel) rfl ?_
          refine zwW_ret (nx := 35) (a := 0) (b := 0) (by decide +kernel) rfl (Or.inl rfl) ?_
          exact ⟨C, X.le (by decide) (by decide), by omega⟩
        · exfalso; omega
      · refine zwif_ne (q := 33) (nx := 21) (by decide +kernel) (fun c7 => ?_) (fun c7 => ?_)
        · exfalso; omega
        · refine zwW_p [(1, 3, 2)] (q := 22) (ls' := [(2, 1), (0, a), (0, b), (2, v2)]) (st' := [(2, v2)]) (by decide +kernel) rfl ?_
          refine zwX_gi C (kd := 11) (bn := 7) (n := 17) (nx := 25) (by decide +kernel) Gv2.2.1 Gv2.1 rfl ?_
          intro v8 ev8 lv8 uv8
          refine zwW_p [(1, 2, 0)] (q := 26) (ls' := [(2, 1), (0, a), (0, b), (2, v2)]) (st' := [(0, b), (0, v8)]) (by decide +kernel) rfl ?_
          refine zwW_adw (nx := 27) (by decide +kernel) ?_
          intro v9 ev9 lv9 uv9
          have Ev9 : v9 = w32 ((fld h v2 7) + b) := by rw [ev9, ev8]
          refine zwW_p [(0, 9999, 0)] (q := 30) (ls' := [(2, 1), (0, a), (0, b), (2, v2)]) (st' := [(0, 9999), (0, v9)]) (by decide +kernel) rfl ?_
          refine zwic_le (q := 35) (nx := 33) (by decide +kernel) (fun c10 => ?_) (fun c10 => ?_)
          · refine zwW_p [(1, 3, 2), (12, 0, 0)] (q := 37) (ls' := [(2, 1), (0, a), (0, b), (2, v2)]) (st' := [(2, v2), (2, v2)]) (by decide +kernel) rfl ?_
            refine zwX_gi C (kd := 11) (bn := 7) (n := 17) (nx := 40) (by decide +kernel) Gv2.2.1 Gv2.1 rfl ?_
            intro v11 ev11 lv11 uv11
            refine zwW_p [(1, 2, 0)] (q := 41) (ls' := [(2, 1), (0, a), (0, b), (2, v2)]) (st' := [(0, b), (0, v11), (2, v2)]) (by decide +kernel) rfl ?_
            refine zwW_adw (nx := 42) (by decide +kernel) ?_
            intro v12 ev12 lv12 uv12
            have Ev12 : v12 = w32 ((fld h v2 7) + b) := by rw [ev12, ev11]
            refine zwX_pi C (kd := 11) (bn := 7) (n := 17) (nx := 45) (by decide +kernel) Gv2.2.1 Gv2.1 (by first | omega | exact ⟨by omega, by omega⟩) ?_
            rintro h13 eh13 Ch13 Qh13
            have Xh13 : zXR msx53 (0) (0) h h13 := X.tr (c2 := 0) (s2 := 0) Qh13 (by decide +kernel) (by decide) (by decide)
            have Gh13_0 : gV h13 v2 := Gv2.x Qh13
            refine zwW_p [(1, 3, 2)] (q := 46) (ls' := [(2, 1), (0, a), (0, b), (2, v2)]) (st' := [(2, v2)]) (by decide +kernel) rfl ?_
            refine zwX_gi Ch13 (kd := 11) (bn := 7) (n := 17) (nx := 49) (by decide +kernel) Gh13_0.2.1 Gh13_0.1 rfl ?_
            intro v14 ev14 lv14 uv14
            have wv14 : v14 = v12 := by rw [ev14, eh13]; exact fld_wr_eq Gv2.2.1 (by decide)
            refine zwW_ret (nx := 50) (a := 0) (b := 0) (by decide +kernel) rfl (Or.inl rfl) ?_
            exact ⟨Ch13, Xh13.le (by decide) (by decide), by omega⟩
          · refine zwW_p [(0, -1, 0)] (q := 34) (ls' := [(2, 1), (0, a), (0, b), (2, v2)]) (st' := [(0, -1)]) (by decide +kernel) rfl ?_
            refine zwW_ret (nx := 35) (a := 0) (b := 0) (by decide +kernel) rfl (Or.inl rfl) ?_
            exact ⟨C, X.le (by decide) (by decide), by omega⟩
def msx55 : Zms := [(1011, 1011, 8, 9), (1011, 1011, 9, 10)]
-- WheelLand.price(II)Z
theorem x55 {sc : List Int} (h : Hp) (C : CI h) (a b : Int) (q_a : -2147483648 ≤ a ∧ a ≤ 2147483647) (q_b : -2147483648 ≤ b ∧ b ≤ 2147483647) : zwC sc 6 55 [(2, 1), (0, a), (0, b)] h (zwRt 0 (fun x g => CI g ∧ zXR msx55 (0) (0) h g ∧ (0 ≤ x ∧ x ≤ 1) ∧ ((x = 1 ∧ 0 ≤ a ∧ a < fld h 2 2 ∧ 0 ≤ b ∧ 1 ≤ b / 100 ∧ b / 100 ≤ 99 ∧ 1 ≤ b % 100) ∨ (x = 0 ∧ (a < 0 ∨ fld h 2 2 ≤ a ∨ b < 0 ∨ b / 100 < 1 ∨ 99 < b / 100 ∨ b % 100 < 1))))) := by
  refine zwC_of (D := 5) 4 (by decide +kernel) rfl (ls := [(2, 1), (0, a), (0, b), (9, 0)]) rfl ?_
  have X : zXR msx55 0 0 h h := zXR.rf _ _
  have T1 := zt100 (b := b) (by first | omega | exact ⟨by omega, by omega⟩)
  refine zwW_p [(1, 0, 2), (1, 1, 0)] (q := 2) (ls' := [(2, 1), (0, a), (0, b), (9, 0)]) (st' := [(0, a), (2, 1)]) (by decide +kernel) rfl ?_
  refine zwW_cm C.1 (op := 60) (k' := 102) (n := 1) (kd := 12) (m := 13) (nx := 5) (r := 1) (tl := [(0, a)]) (st' := []) (by decide +kernel) rfl (by decide +kernel) rfl (x102 h C a (by omega)) ?_
  rintro v2 _ ⟨rfl, ⟨rfl, c1⟩ | ⟨Gv2, c1⟩⟩
  · refine zwW_p [(2, 3, 2), (1, 3, 2)] (q := 7) (ls' := [(2, 1), (0, a), (0, b), (2, 0)]) (st' := [(2, 0)]) (by decide +kernel) rfl ?_
    refine zwnu_eq (q := 36) (nx := 10) (by decide +kernel) (by decide) (fun c3 => ?_) (fun c3 => ?_)
    · refine zwW_p [(0, 0, 0)] (q := 37) (ls' := [(2, 1), (0, a), (0, b), (2, 0)]) (st' := [(0, 0)]) (by decide +kernel) rfl ?_
      refine zwW_ret (nx := 38) (a := 1) (b := 0) (by decide +kernel) rfl (Or.inr (Or.inl ⟨rfl, Or.inl rfl⟩)) ?_
      exact ⟨C, X.le (by decide) (by decide), by omega, by omega⟩
    · exfalso; omega
  · have lv2 := Gv2.1
    have ev2 := c1.2.2
    refine zwW_p [(2, 3, 2), (1, 3, 2)] (q := 7) (ls' := [(2, 1), (0, a), (0, b), (2, v2)]) (st' := [(2, v2)]) (by decide +kernel) rfl ?_
    refine zwnu_eq (q := 36) (nx := 10) (by decide +kernel) (by omega) (fun c4 => ?_) (fun c4 => ?_)
    · exfalso; omega
    · refine zwW_p [(1, 2, 0), (0, 100, 0)] (q := 13) (ls' := [(2, 1), (0, a), (0, b), (2, v2)]) (st' := [(0, 100), (0, b)]) (by decide +kernel) rfl ?_
      refine zwW_tdw (nx := 14) (by decide +kernel) (by omega) ?_
      intro v5 ev5 lv5 uv5
      refine zwW_p [(0, 1, 0), (0, 99, 0)] (q := 17) (ls' := [(2, 1), (0, a), (0, b), (2, v2)]) (st' := [(0, 99), (0, 1), (0, v5)]) (by decide +kernel) rfl ?_
      refine zwW_cs (k' := 98) (n := 3) (nx := 20) (as := [(0, v5), (0, 1), (0, 99)]) (st' := []) (by decide +kernel) rfl (x98 h C v5 1 99 (by omega) (by omega) (by omega)) rfl ?_
      rintro x _ ⟨rfl, ⟨rfl, c6⟩ | ⟨rfl, c6⟩⟩
      · refine zwif_ne (q := 36) (nx := 23) (by decide +kernel) (fun c7 => ?_) (fun c7 => ?_)
        · refine zwW_p [(0, 0, 0)] (q := 37) (ls' := [(2, 1), (0, a), (0, b), (2, v2)]) (st' := [(0, 0)]) (by decide +kernel) rfl ?_
          refine zwW_ret (nx := 38) (a := 1) (b := 0) (by decide +kernel) rfl (Or.inr (Or.inl ⟨rfl, Or.inl rfl⟩)) ?_
          exact ⟨C, X.le (by decide) (by decide), by omega, by omega⟩
        · exfalso; omega
      · refine zwif_ne (q := 36) (nx := 23) (by decide +kernel) (fun c8 => ?_) (fun c8 => ?_)
        · exfalso; omega
        · refine zwW_p [(1, 2, 0), (0, 100, 0)] (q := 26) (ls' := [(2, 1), (0, a), (0, b), (2, v2)]) (st' := [(0, 100), (0, b)]) (by decide +kernel) rfl ?_
          refine zwW_tmw (nx := 27) (by decide +kernel) (by first | omega | exact ⟨by omega, by omega⟩) (by omega) ?_
          intro v9 ev9 lv9 uv9
          refine zwW_p [(0, 1, 0), (0, 99, 0)] (q := 30) (ls' := [(2, 1), (0, a), (0, b), (2, v2)]) (st' := [(0, 99), (0, 1), (0, v9)]) (by decide +kernel) rfl ?_
          refine zwW_cs (k' := 98) (n := 3) (nx := 33) (as := [(0, v9), (0, 1), (0, 99)]) (st' := []) (by decide +kernel) rfl (x98 h C v9 1 99 (by omega) (by omega) (by omega)) rfl ?_
          rintro x _ ⟨rfl, ⟨rfl, c10⟩ | ⟨rfl, c10⟩⟩
          · refine zwif_eq (q := 38) (nx := 36) (by decide +kernel) (fun c11 => ?_) (fun c11 => ?_)
            · exfalso; omega
            · refine zwW_p [(0, 0, 0)] (q := 37) (ls' := [(2, 1), (0, a), (0, b), (2, v2)]) (st' := [(0, 0)]) (by decide +kernel) rfl ?_
              refine zwW_ret (nx := 38) (a := 1) (b := 0) (by decide +kernel) rfl (Or.inr (Or.inl ⟨rfl, Or.inl rfl⟩)) ?_
              exact ⟨C, X.le (by decide) (by decide), by omega, by omega⟩
          · refine zwif_eq (q := 38) (nx := 36) (by decide +kernel) (fun c12 => ?_) (fun c12 => ?_)
            · refine zwW_p [(1, 3, 2), (1, 2, 0), (0, 100, 0)] (q := 42) (ls' := [(2, 1), (0, a), (0, b), (2, v2)]) (st' := [(0, 100), (0, b), (2, v2)]) (by decide +kernel) rfl ?_
              refine zwW_tdw (nx := 43) (by decide +kernel) (by omega) ?_
              intro v13 ev13 lv13 uv13
              refine zwX_pi C (kd := 11) (bn := 8) (n := 17) (nx := 46) (by decide +kernel) Gv2.2.1 Gv2.1 (by first | omega | exact ⟨by omega, by omega⟩) ?_
              rintro h14 eh14 Ch14 Qh14
              have Xh14 : zXR msx55 (0) (0) h h14 := X.tr (c2 := 0) (s2 := 0) Qh14 (by decide +kernel) (by decide) (by decide)
              have Gh14_0 : gV h14 v2 := Gv2.x Qh14
              refine zwW_p [(1, 3, 2), (1, 2, 0), (0, 100, 0)] (q := 50) (ls' := [(2, 1), (0, a), (0, b), (2, v2)]) (st' := [(0, 100), (0, b), (2, v2)]) (by decide +kernel) rfl ?_
              refine zwW_tmw (nx := 51) (by decide +kernel) (by first | omega | exact ⟨by omega, by omega⟩) (by omega) ?_
              intro v15 ev15 lv15 uv15
              refine zwX_pi Ch14 (kd := 11) (bn := 9) (n := 17) (nx := 54) (by decide +kernel) Gh14_0.2.1 Gh14_0.1 (by first | omega | exact ⟨by omega, by omega⟩) ?_
              rintro h16 eh16 Ch16 Qh16
              have Xh16 : zXR msx55 (0) (0) h h16 := Xh14.tr (c2 := 0) (s2 := 0) Qh16 (by decide +kernel) (by decide) (by decide)
              have Gh16_0 : gV h16 v2 := Gh14_0.x Qh16
              refine zwW_p [(0, 1, 0)] (q := 55) (ls' := [(2, 1), (0, a), (0, b), (2, v2)]) (st' := [(0, 1)]) (by decide +kernel) rfl ?_
              refine zwW_ret (nx := 56) (a := 1) (b := 0) (by decide +kernel) rfl (Or.inr (Or.inl ⟨rfl, Or.inr rfl⟩)) ?_
              exact ⟨Ch16, Xh16.le (by decide) (by decide), by omega, by omega⟩
            · exfalso; omega
def msx57 : Zms := [(1011, 1011, 4, 5)]
-- WheelLand.talk(II)I
theorem x57 {sc : List Int} (h : Hp) (C : CI h) (a b : Int) (q_a : -2147483648 ≤ a ∧ a ≤ 2147483647) (q_b : -2147483648 ≤ b ∧ b ≤ 2147483647) : zwC sc 6 57 [(2, 1), (0, a), (0, b)] h (zwRt 0 (fun x g => CI g ∧ zXR msx57 (0) (0) h g ∧ (-2147483648 ≤ x ∧ x ≤ 2147483647) ∧ ((x = b ∧ 0 ≤ a ∧ a < fld h 2 2 ∧ 0 ≤ b ∧ b ≤ 20) ∨ (x = -1 ∧ (a < 0 ∨ fld h 2 2 ≤ a ∨ b < 0 ∨ 20 < b))))) := by
  refine zwC_of (D := 5) 4 (by decide +kernel) rfl (ls := [(2, 1), (0, a), (0, b), (9, 0)]) rfl ?_
  have X : zXR msx57 0 0 h h := zXR.rf _ _
  refine zwW_p [(1, 0, 2), (1, 1, 0)] (q := 2) (ls' := [(2, 1), (0, a), (0, b), (9, 0)]) (st' := [(0, a), (2, 1)]) (by decide +kernel) rfl ?_
  refine zwW_cm C.1 (op := 60) (k' := 102) (n := 1) (kd := 12) (m := 13) (nx := 5) (r := 1) (tl := [(0, a)]) (st' := []) (by decide +kernel) rfl (by decide +kernel) rfl (x102 h C a (by omega)) ?_
  rintro v2 _ ⟨rfl, ⟨rfl, c1⟩ | ⟨Gv2, c1⟩⟩
  · refine zwW_p [(2, 3, 2), (1, 3, 2)] (q := 7) (ls' := [(2, 1), (0, a), (0, b), (2, 0)]) (st' := [(2, 0)]) (by decide +kernel) rfl ?_
    refine zwnu_eq (q := 20) (nx := 10) (by decide +kernel) (by decide) (fun c3 => ?_) (fun c3 => ?_)
    · refine zwW_p [(0, -1, 0)] (q := 21) (ls' := [(2, 1), (0, a), (0, b), (2, 0)]) (st' := [(0, -1)]) (by decide +kernel) rfl ?_
      refine zwW_ret (nx := 22) (a := 0) (b := 0) (by decide +kernel) rfl (Or.inl rfl) ?_
      exact ⟨C, X.le (by decide) (by decide), by omega, by omega⟩
    · exfalso; omega
  · have lv2 := Gv2.1
    have ev2 := c1.2.2
    refine zwW_p [(2, 3, 2), (1, 3, 2)] (q := 7) (ls' := [(2, 1), (0, a), (0, b), (2, v2)]) (st' := [(2, v2)]) (by decide +kernel) rfl ?_
    refine zwnu_eq (q := 20) (nx := 10) (by decide +kernel) (by omega) (fun c4 => ?_) (fun c4 => ?_)
    · exfalso; omega
    · refine zwW_p [(1, 2, 0), (0, 0, 0), (0, 20, 0)] (q := 14) (ls' := [(2, 1), (0, a), (0, b), (2, v2)]) (st' := [(0, 20), (0, 0), (0, b)]) (by decide +kernel) rfl ?_
      refine zwW_cs (k' := 98) (n := 3) (nx := 17) (as := [(0, b), (0, 0), (0, 20)]) (st' := []) (by decide +kernel) rfl (x98 h C b 0 20 (by omega) (by omega) (by omega)) rfl ?_
      rintro x _ ⟨rfl, ⟨rfl, c5⟩ | ⟨rfl, c5⟩⟩
      · refine zwif_eq (q := 22) (nx := 20) (by decide +kernel) (fun c6 => ?_) (fun c6 => ?_)
        · exfalso; omega
        · refine zwW_p [(0, -1, 0)] (q := 21) (ls' := [(2, 1), (0, a), (0, b), (2, v2)]) (st' := [(0, -1)]) (by decide +kernel) rfl ?_
          refine zwW_ret (nx := 22) (a := 0) (b := 0) (by decide +kernel) rfl (Or.inl rfl) ?_
          exact ⟨C, X.le (by decide) (by decide), by omega, by omega⟩
      · refine zwif_eq (q := 22) (nx := 20) (by decide +kernel) (fun c7 => ?_) (fun c7 => ?_)
        · refine zwW_p [(1, 3, 2), (1, 2, 0)] (q := 24) (ls' := [(2, 1), (0, a), (0, b), (2, v2)]) (st' := [(0, b), (2, v2)]) (by decide +kernel) rfl ?_
          refine zwX_pi C (kd := 11) (bn := 4) (n := 17) (nx := 27) (by decide +kernel) Gv2.2.1 Gv2.1 (by first | omega | exact ⟨by omega, by omega⟩) ?_
          rintro h8 eh8 Ch8 Qh8
          have Xh8 : zXR msx57 (0) (0) h h8 := X.tr (c2 := 0) (s2 := 0) Qh8 (by decide +kernel) (by decide) (by decide)
          have Gh8_0 : gV h8 v2 := Gv2.x Qh8
          refine zwW_p [(1, 2, 0)] (q := 28) (ls' := [(2, 1), (0, a), (0, b), (2, v2)]) (st' := [(0, b)]) (by decide +kernel) rfl ?_
          refine zwW_ret (nx := 29) (a := 0) (b := 0) (by decide +kernel) rfl (Or.inl rfl) ?_
          exact ⟨Ch8, Xh8.le (by decide) (by decide), by omega, by omega⟩
        · exfalso; omega
def msx63 : Zms := [(1011, 1011, 11, 12)]
-- WheelLand.sold(II)I
theorem x63 {sc : List Int} (h : Hp) (C : CI h) (a b : Int) (q_a : -2147483648 ≤ a ∧ a ≤ 2147483647) (q_b : -2147483648 ≤ b ∧ b ≤ 2147483647) : zwC sc 6 63 [(2, 1), (0, a), (0, b)] h (zwRt 0 (fun x g => CI g ∧ zXR msx63 (0) (0) h g ∧ (-2147483648 ≤ x ∧ x ≤ 2147483647) ∧ (((x = w32 (fld h (fld h (fld h 2 1) a.toNat) 11 + b)) ∧ (0 ≤ a ∧ a < fld h 2 2 ∧ 1 ≤ b ∧ b ≤ 999 ∧ w32 (fld h (fld h (fld h 2 1) a.toNat) 11 + b) ≤ 9999) ∧ (∀ (rr : Int) (nn : Nat), 365 < rr → sh h rr = some (11, nn) → fld g rr 11 = if rr = fld h (fld h 2 1) a.toNat then w32 (fld h (fld h (fld h 2 1) a.toNat) 11 + b) else fld h rr 11)) ∨ ((x = -1) ∧ (g = h) ∧ (a < 0 ∨ fld h 2 2 ≤ a ∨ b < 1 ∨ 999 < b ∨ 9999 < w32 (fld h (fld h (fld h 2 1) a.toNat) 11 + b)))))) := by
  refine zwC_of (D := 5) 4 (by decide +kernel) rfl (ls := [(2, 1), (0, a), (0, b), (9, 0)]) rfl ?_
  have X : zXR msx63 0 0 h h := zXR.rf _ _
  refine zwW_p [(1, 0, 2), (1, 1, 0)] (q := 2) (ls' := [(2, 1), (0, a), (0, b), (9, 0)]) (st' := [(0, a), (2, 1)]) (by decide +kernel) rfl ?_
  refine zwW_cm C.1 (op := 60) (k' := 102) (n := 1) (kd := 12) (m := 13) (nx := 5) (r := 1) (tl := [(0, a)]) (st' := []) (by decide +kernel) rfl (by decide +kernel) rfl (x102 h C a (by omega)) ?_
  rintro v2 _ ⟨rfl, ⟨rfl, c1⟩ | ⟨Gv2, c1⟩⟩
  · refine zwW_p [(2, 3, 2), (1, 3, 2)] (q := 7) (ls' := [(2, 1), (0, a), (0, b), (2, 0)]) (st' := [(2, 0)]) (by decide +kernel) rfl ?_
    refine zwnu_eq (q := 33) (nx := 10) (by decide +kernel) (by decide) (fun c3 => ?_) (fun c3 => ?_)
    · refine zwW_p [(0, -1, 0)] (q := 34) (ls' := [(2, 1), (0, a), (0, b), (2, 0)]) (st' := [(0, -1)]) (by decide +kernel) rfl ?_
      refine zwW_ret (nx := 35) (a := 0) (b := 0) (by decide +kernel) rfl (Or.inl rfl) ?_
      exact ⟨C, X.le (by decide) (by decide), by omega, by exact Or.inr ⟨by omega, by rfl, by first | omega | (rw [← rfl]; omega)⟩⟩
    · exfalso; omega
  · have lv2 := Gv2.1
    have ev2 := c1.2.2
    refine zwW_p [(2, 3, 2), (1, 3, 2)] (q := 7) (ls' := [(2, 1), (0, a), (0, b), (2, v2)]) (st' := [(2, v2)]) (by decide +kernel) rfl ?_
    refine zwnu_eq (q := 33) (nx := 10) (by decide +kernel) (by omega) (fun c4 => ?_) (fun c4 => ?_)
    · exfalso; omega
    · refine zwW_p [(1, 2, 0), (0, 1, 0), (0, 999, 0)] (q := 15) (ls' := [(2, 1), (0, a), (0, b), (2, v2)]) (st' := [(0, 999), (0, 1), (0, b)]) (by decide +kernel) rfl ?_
      refine zwW_cs (k' := 98) (n := 3) (nx := 18) (as := [(0, b), (0, 1), (0, 999)]) (st' := []) (by decide +kernel) rfl (x98 h C b 1 999 (by omega) (by omega) (by omega)) rfl ?_
      rintro x _ ⟨rfl, ⟨rfl, c5⟩ | ⟨rfl, c5⟩⟩
      · refine zwif_ne (q := 33) (nx := 21) (by decide +kernel) (fun c6 => ?_) (fun c6 => ?_)
        · refine zwW_p [(0, -1, 0)] (q := 34) (ls' := [(2, 1), (0, a), (0, b), (2, v2)]) (st' := [(0, -1)]) (by decide +kernel) rfl ?_
          refine zwW_ret (nx := 35) (a := 0) (b := 0) (by decide +kernel) rfl (Or.inl rfl) ?_
          exact ⟨C, X.le (by decide) (by decide), by omega, by exact Or.inr ⟨by omega, by rfl, by first | omega | (rw [← ev2]; omega)⟩⟩
        · exfalso; omega
      · refine zwif_ne (q := 33) (nx := 21) (by decide +kernel) (fun c7 => ?_) (fun c7 => ?_)
        · exfalso; omega
        · refine zwW_p [(1, 3, 2)] (q := 22) (ls' := [(2, 1), (0, a), (0, b), (2, v2)]) (st' := [(2, v2)]) (by decide +kernel) rfl ?_
          refine zwX_gi C (kd := 11) (bn := 11) (n := 17) (nx := 25) (by decide +kernel) Gv2.2.1 Gv2.1 rfl ?_
          intro v8 ev8 lv8 uv8
          refine zwW_p [(1, 2, 0)] (q := 26) (ls' := [(2, 1), (0, a), (0, b), (2, v2)]) (st' := [(0, b), (0, v8)]) (by decide +kernel) rfl ?_
          refine zwW_adw (nx := 27) (by decide +kernel) ?_
          intro v9 ev9 lv9 uv9
          have Ev9 : v9 = w32 ((fld h v2 11) + b) := by rw [ev9, ev8]
          refine zwW_p [(0, 9999, 0)] (q := 30) (ls' := [(2, 1), (0, a), (0, b), (2, v2)]) (st' := [(0, 9999), (0, v9)]) (by decide +kernel) rfl ?_
          refine zwic_le (q := 35) (nx := 33) (by decide +kernel) (fun c10 => ?_) (fun c10 => ?_)
          · refine zwW_p [(1, 3, 2), (12, 0, 0)] (q := 37) (ls' := [(2, 1), (0, a), (0, b), (2, v2)]) (st' := [(2, v2), (2, v2)]) (by decide +kernel) rfl ?_
            refine zwX_gi C (kd := 11) (bn := 11) (n := 17) (nx := 40) (by decide +kernel) Gv2.2.1 Gv2.1 rfl ?_
            intro v11 ev11 lv11 uv11
            refine zwW_p [(1, 2, 0)] (q := 41) (ls' := [(2, 1), (0, a), (0, b), (2, v2)]) (st' := [(0, b), (0, v11), (2, v2)]) (by decide +kernel) rfl ?_
            refine zwW_adw (nx := 42) (by decide +kernel) ?_
            intro v12 ev12 lv12 uv12
            have Ev12 : v12 = w32 ((fld h v2 11) + b) := by rw [ev12, ev11]
            refine zwX_pi C (kd := 11) (bn := 11) (n := 17) (nx := 45) (by decide +kernel) Gv2.2.1 Gv2.1 (by first | omega | exact ⟨by omega, by omega⟩) ?_
            rintro h13 eh13 Ch13 Qh13
            have Xh13 : zXR msx63 (0) (0) h h13 := X.tr (c2 := 0) (s2 := 0) Qh13 (by decide +kernel) (by decide) (by decide)
            have Gh13_0 : gV h13 v2 := Gv2.x Qh13
            have Yh13_11_11 : ∀ (rr : Int) (nn : Nat), 365 < rr → sh h rr = some (11, nn) → fld h13 rr 11 = (if rr = v2 then v12 else fld h rr 11) := by
              intro rr nn z1 z2
              by_cases zq : rr = v2
              · rw [if_pos zq, zq, eh13]; exact fld_wr_eq Gv2.2.1 (by decide)
              · rw [if_neg zq, eh13, fld_wr (Or.inl zq)]
            refine zwW_p [(1, 3, 2)] (q := 46) (ls' := [(2, 1), (0, a), (0, b), (2, v2)]) (st' := [(2, v2)]) (by decide +kernel) rfl ?_
            refine zwX_gi Ch13 (kd := 11) (bn := 11) (n := 17) (nx := 49) (by decide +kernel) Gh13_0.2.1 Gh13_0.1 rfl ?_
            intro v14 ev14 lv14 uv14
            have wv14 : v14 = v12 := by rw [ev14, eh13]; exact fld_wr_eq Gv2.2.1 (by decide)
            refine zwW_ret (nx := 50) (a := 0) (b := 0) (by decide +kernel) rfl (Or.inl rfl) ?_
            exact ⟨Ch13, Xh13.le (by decide) (by decide), by omega, by exact Or.inl ⟨by first | omega | (rw [← ev2]; omega), by first | omega | (rw [← ev2]; omega), by intro rr nn z1 z2; rw [← ev2]; first | exact Yh13_11_11 rr nn z1 z2 | (rw [Yh13_11_11 rr nn z1 z2]; split <;> first | omega | (split <;> omega))⟩⟩
          · refine zwW_p [(0, -1, 0)] (q := 34) (ls' := [(2, 1), (0, a), (0, b), (2, v2)]) (st' := [(0, -1)]) (by decide +kernel) rfl ?_
            refine zwW_ret (nx := 35) (a := 0) (b := 0) (by decide +kernel) rfl (Or.inl rfl) ?_
            exact ⟨C, X.le (by decide) (by decide), by omega, by exact Or.inr ⟨by omega, by rfl, by first | omega | (rw [← ev2]; omega)⟩⟩
-- WheelLand.heard(II)I
theorem x59 {sc : List Int} (h : Hp) (C : CI h) (a b : Int) (q_a : -2147483648 ≤ a ∧ a ≤ 2147483647) (q_b : -2147483648 ≤ b ∧ b ≤ 2147483647) : zwC sc 6 59 [(2, 1), (0, a), (0, b)] h (zwRt 0 (fun x g => h = g ∧ (-2147483648 ≤ x ∧ x ≤ 2147483647))) := by
  refine zwC_of (D := 5) 6 (by decide +kernel) rfl (ls := [(2, 1), (0, a), (0, b), (9, 0), (9, 0), (9, 0)]) rfl ?_
  refine zwW_p [(1, 0, 2), (1, 1, 0)] (q := 2) (ls' := [(2, 1), (0, a), (0, b), (9, 0), (9, 0), (9, 0)]) (st' := [(0, a), (2, 1)]) (by decide +kernel) rfl ?_
  refine zwW_cm C.1 (op := 60) (k' := 102) (n := 1) (kd := 12) (m := 13) (nx := 5) (r := 1) (tl := [(0, a)]) (st' := []) (by decide +kernel) rfl (by decide +kernel) rfl (x102 h C a (by omega)) ?_
  rintro v2 _ ⟨rfl, ⟨rfl, c1⟩ | ⟨Gv2, c1⟩⟩
  · refine zwW_p [(2, 3, 2), (1, 0, 2), (1, 2, 0)] (q := 8) (ls' := [(2, 1), (0, a), (0, b), (2, 0), (9, 0), (9, 0)]) (st' := [(0, b), (2, 1)]) (by decide +kernel) rfl ?_
    refine zwW_cm C.1 (op := 60) (k' := 102) (n := 1) (kd := 12) (m := 13) (nx := 11) (r := 1) (tl := [(0, b)]) (st' := []) (by decide +kernel) rfl (by decide +kernel) rfl (x102 h C b (by omega)) ?_
    rintro v4 _ ⟨rfl, ⟨rfl, c3⟩ | ⟨Gv4, c3⟩⟩
    · refine zwW_p [(2, 4, 2), (1, 0, 2), (1, 3, 2), (1, 4, 2)] (q := 17) (ls' := [(2, 1), (0, a), (0, b), (2, 0), (2, 0), (9, 0)]) (st' := [(2, 0), (2, 0), (2, 1)]) (by decide +kernel) rfl ?_
      refine zwW_cm C.1 (op := 60) (k' := 105) (n := 2) (kd := 12) (m := 13) (nx := 20) (r := 1) (tl := [(2, 0), (2, 0)]) (st' := []) (by decide +kernel) rfl (by decide +kernel) rfl (x105 h C 0 0 (Or.inl rfl) (Or.inl rfl)) ?_
      rintro v5 _ ⟨rfl, f6, f7⟩
      refine zwW_p [(2, 5, 0), (1, 4, 2)] (q := 24) (ls' := [(2, 1), (0, a), (0, b), (2, 0), (2, 0), (0, v5)]) (st' := [(2, 0)]) (by decide +kernel) rfl ?_
      refine zwnu_eq (q := 43) (nx := 27) (by decide +kernel) (by decide) (fun c8 => ?_) (fun c8 => ?_)
      · refine zwW_p [(0, -1, 0)] (q := 44) (ls' := [(2, 1), (0, a), (0, b), (2, 0), (2, 0), (0, v5)]) (st' := [(0, -1)]) (by decide +kernel) rfl ?_
        refine zwW_ret (nx := 45) (a := 0) (b := 0) (by decide +kernel) rfl (Or.inl rfl) ?_
        exact ⟨rfl, by omega⟩
      · exfalso; omega
    · have lv4 := Gv4.1
      have ev4 := c3.2.2
      refine zwW_p [(2, 4, 2), (1, 0, 2), (1, 3, 2), (1, 4, 2)] (q := 17) (ls' := [(2, 1), (0, a), (0, b), (2, 0), (2, v4), (9, 0)]) (st' := [(2, v4), (2, 0), (2, 1)]) (by decide +kernel) rfl ?_
      refine zwW_cm C.1 (op := 60) (k' := 105) (n := 2) (kd := 12) (m := 13) (nx := 20) (r := 1) (tl := [(2, 0), (2, v4)]) (st' := []) (by decide +kernel) rfl (by decide +kernel) rfl (x105 h C 0 v4 (Or.inl rfl) (Or.inr Gv4)) ?_
      rintro v9 _ ⟨rfl, f10, f11⟩
      refine zwW_p [(2, 5, 0), (1, 4, 2)] (q := 24) (ls' := [(2, 1), (0, a), (0, b), (2, 0), (2, v4), (0, v9)]) (st' := [(2, v4)]) (by decide +kernel) rfl ?_
      refine zwnu_eq (q := 43) (nx := 27) (by decide +kernel) (by omega) (fun c12 => ?_) (fun c12 => ?_)
      · exfalso; omega
      · refine zwW_p [(1, 5, 0), (0, -1, 0)] (q := 30) (ls' := [(2, 1), (0, a), (0, b), (2, 0), (2, v4), (0, v9)]) (st' := [(0, -1), (0, v9)]) (by decide +kernel) rfl ?_
        refine zwic_eq (q := 43) (nx := 33) (by decide +kernel) (fun c13 => ?_) (fun c13 => ?_)
        · refine zwW_p [(0, -1, 0)] (q := 44) (ls' := [(2, 1), (0, a), (0, b), (2, 0), (2, v4), (0, v9)]) (st' := [(0, -1)]) (by decide +kernel) rfl ?_
          refine zwW_ret (nx := 45) (a := 0) (b := 0) (by decide +kernel) rfl (Or.inl rfl) ?_
          exact ⟨rfl, by omega⟩
        · refine zwW_p [(1, 0, 2)] (q := 34) (ls' := [(2, 1), (0, a), (0, b), (2, 0), (2, v4), (0, v9)]) (st' := [(2, 1)]) (by decide +kernel) rfl ?_
          refine zwW_gs C.1 (kd := 12) (bn := 0) (n := 13) (t := 0) (lo := 0) (hi := 156) (nx := 37) (by decide +kernel) ?_
          intro v14 ev14 lv14 uv14
          refine zwW_p [(0, 156, 0)] (q := 40) (ls' := [(2, 1), (0, a), (0, b), (2, 0), (2, v4), (0, v9)]) (st' := [(0, 156), (0, v14)]) (by decide +kernel) rfl ?_
          refine zwic_lt (q := 45) (nx := 43) (by decide +kernel) (fun c15 => ?_) (fun c15 => ?_)
          · refine zwW_p [(1, 4, 2), (1, 0, 2)] (q := 48) (ls' := [(2, 1), (0, a), (0, b), (2, 0), (2, v4), (0, v9)]) (st' := [(2, 1), (2, v4)]) (by decide +kernel) rfl ?_
            refine zwW_gs C.1 (kd := 12) (bn := 0) (n := 13) (t := 0) (lo := 0) (hi := 156) (nx := 51) (by decide +kernel) ?_
            intro v16 ev16 lv16 uv16
            refine zwW_p [(1, 5, 0), (0, 7, 0)] (q := 55) (ls' := [(2, 1), (0, a), (0, b), (2, 0), (2, v4), (0, v9)]) (st' := [(0, 7), (0, v9), (0, v16), (2, v4)]) (by decide +kernel) rfl ?_
            refine zwW_cs (k' := 151) (n := 2) (nx := 58) (as := [(0, v9), (0, 7)]) (st' := [(0, v16), (2, v4)]) (by decide +kernel) rfl (x151 h C v9 7 (by omega) (by omega)) rfl ?_
            rintro v17 _ ⟨rfl, f18⟩
            refine zwW_sbw (nx := 59) (by decide +kernel) ?_
            intro v19 ev19 lv19 uv19
            refine zwW_cv (op := 60) (k' := 152) (n := 1) (kd := 11) (m := 17) (nx := 62) (r := v4) (tl := [(0, v19)]) (st' := []) (by decide +kernel) rfl (by decide +kernel) Gv4.2.1 (x152 h C v4 v19 Gv4 (by omega)) rfl ?_
            rintro v20 _ ⟨rfl, f21⟩
            refine zwW_ret (nx := 63) (a := 0) (b := 0) (by decide +kernel) rfl (Or.inl rfl) ?_
            exact ⟨rfl, by omega⟩
          · refine zwW_p [(0, -1, 0)] (q := 44) (ls' := [(2, 1), (0, a), (0, b), (2, 0), (2, v4), (0, v9)]) (st' := [(0, -1)]) (by decide +kernel) rfl ?_
            refine zwW_ret (nx := 45) (a := 0) (b := 0) (by decide +kernel) rfl (Or.inl rfl) ?_
            exact ⟨rfl, by omega⟩
  · have lv2 := Gv2.1
    have ev2 := c1.2.2
    refine zwW_p [(2, 3, 2), (1, 0, 2), (1, 2, 0)] (q := 8) (ls' := [(2, 1), (0, a), (0, b), (2, v2), (9, 0), (9, 0)]) (st' := [(0, b), (2, 1)]) (by decide +kernel) rfl ?_
    refine zwW_cm C.1 (op := 60) (k' := 102) (n := 1) (kd := 12) (m := 13) (nx := 11) (r := 1) (tl := [(0, b)]) (st' := []) (by decide +kernel) rfl (by decide +kernel) rfl (x102 h C b (by omega)) ?_
    rintro v23 _ ⟨rfl, ⟨rfl, c22⟩ | ⟨Gv23, c22⟩⟩
    · refine zwW_p [(2, 4, 2), (1, 0, 2), (1, 3, 2), (1, 4, 2)] (q := 17) (ls' := [(2, 1), (0, a), (0, b), (2, v2), (2, 0), (9, 0)]) (st' := [(2, 0), (2, v2), (2, 1)]) (by decide +kernel) rfl ?_
      refine zwW_cm C.1 (op := 60) (k' := 105) (n := 2) (kd := 12) (m := 13) (nx := 20) (r := 1) (tl := [(2, v2), (2, 0)]) (st' := []) (by decide +kernel) rfl (by decide +kernel) rfl (x105 h C v2 0 (Or.inr Gv2) (Or.inl rfl)) ?_
      rintro v24 _ ⟨rfl, f25, f26⟩
      refine zwW_p [(2, 5, 0), (1, 4, 2)] (q := 24) (ls' := [(2, 1), (0, a), (0, b), (2, v2), (2, 0), (0, v24)]) (st' := [(2, 0)]) (by decide +kernel) rfl ?_
      refine zwnu_eq (q := 43) (nx := 27) (by decide +kernel) (by decide) (fun c27 => ?_) (fun c27 => ?_)
      · refine zwW_p [(0, -1, 0)] (q := 44) (ls' := [(2, 1), (0, a), (0, b), (2, v2), (2, 0), (0, v24)]) (st' := [(0, -1)]) (by decide +kernel) rfl ?_
        refine zwW_ret (nx := 45) (a := 0) (b := 0) (by decide +kernel) rfl (Or.inl rfl) ?_
        exact ⟨rfl, by omega⟩
      · exfalso; omega
    · have lv23 := Gv23.1
      have ev23 := c22.2.2
      refine zwW_p [(2, 4, 2), (1, 0, 2), (1, 3, 2), (1, 4, 2)] (q := 17) (ls' := [(2, 1), (0, a), (0, b), (2, v2), (2, v23), (9, 0)]) (st' := [(2, v23), (2, v2), (2, 1)]) (by decide +kernel) rfl ?_
      refine zwW_cm C.1 (op := 60) (k' := 105) (n := 2) (kd := 12) (m := 13) (nx := 20) (r := 1) (tl := [(2, v2), (2, v23)]) (st' := []) (by decide +kernel) rfl (by decide +kernel) rfl (x105 h C v2 v23 (Or.inr Gv2) (Or.inr Gv23)) ?_
      rintro v28 _ ⟨rfl, f29, f30⟩
      refine zwW_p [(2, 5, 0), (1, 4, 2)] (q := 24) (ls' := [(2, 1), (0, a), (0, b), (2, v2), (2, v23), (0, v28)]) (st' := [(2, v23)]) (by decide +kernel) rfl ?_
      refine zwnu_eq (q := 43) (nx := 27) (by decide +kernel) (by omega) (fun c31 => ?_) (fun c31 => ?_)
      · exfalso; omega
      · refine zwW_p [(1, 5, 0), (0, -1, 0)] (q := 30) (ls' := [(2, 1), (0, a), (0, b), (2, v2), (2, v23), (0, v28)]) (st' := [(0, -1), (0, v28)]) (by decide +kernel) rfl ?_
        refine zwic_eq (q := 43) (nx := 33) (by decide +kernel) (fun c32 => ?_) (fun c32 => ?_)
        · refine zwW_p [(0, -1, 0)] (q := 44) (ls' := [(2, 1), (0, a), (0, b), (2, v2), (2, v23), (0, v28)]) (st' := [(0, -1)]) (by decide +kernel) rfl ?_
          refine zwW_ret (nx := 45) (a := 0) (b := 0) (by decide +kernel) rfl (Or.inl rfl) ?_
          exact ⟨rfl, by omega⟩
        · refine zwW_p [(1, 0, 2)] (q := 34) (ls' := [(2, 1), (0, a), (0, b), (2, v2), (2, v23), (0, v28)]) (st' := [(2, 1)]) (by decide +kernel) rfl ?_
          refine zwW_gs C.1 (kd := 12) (bn := 0) (n := 13) (t := 0) (lo := 0) (hi := 156) (nx := 37) (by decide +kernel) ?_
          intro v33 ev33 lv33 uv33
          refine zwW_p [(0, 156, 0)] (q := 40) (ls' := [(2, 1), (0, a), (0, b), (2, v2), (2, v23), (0, v28)]) (st' := [(0, 156), (0, v33)]) (by decide +kernel) rfl ?_
          refine zwic_lt (q := 45) (nx := 43) (by decide +kernel) (fun c34 => ?_) (fun c34 => ?_)
          · refine zwW_p [(1, 4, 2), (1, 0, 2)] (q := 48) (ls' := [(2, 1), (0, a), (0, b), (2, v2), (2, v23), (0, v28)]) (st' := [(2, 1), (2, v23)]) (by decide +kernel) rfl ?_
            refine zwW_gs C.1 (kd := 12) (bn := 0) (n := 13) (t := 0) (lo := 0) (hi := 156) (nx := 51) (by decide +kernel) ?_
            intro v35 ev35 lv35 uv35
            refine zwW_p [(1, 5, 0), (0, 7, 0)] (q := 55) (ls' := [(2, 1), (0, a), (0, b), (2, v2), (2, v23), (0, v28)]) (st' := [(0, 7), (0, v28), (0, v35), (2, v23)]) (by decide +kernel) rfl ?_
            refine zwW_cs (k' := 151) (n := 2) (nx := 58) (as := [(0, v28), (0, 7)]) (st' := [(0, v35), (2, v23)]) (by decide +kernel) rfl (x151 h C v28 7 (by omega) (by omega)) rfl ?_
            rintro v36 _ ⟨rfl, f37⟩
            refine zwW_sbw (nx := 59) (by decide +kernel) ?_
            intro v38 ev38 lv38 uv38
            refine zwW_cv (op := 60) (k' := 152) (n := 1) (kd := 11) (m := 17) (nx := 62) (r := v23) (tl := [(0, v38)]) (st' := []) (by decide +kernel) rfl (by decide +kernel) Gv23.2.1 (x152 h C v23 v38 Gv23 (by omega)) rfl ?_
            rintro v39 _ ⟨rfl, f40⟩
            refine zwW_ret (nx := 63) (a := 0) (b := 0) (by decide +kernel) rfl (Or.inl rfl) ?_
            exact ⟨rfl, by omega⟩
          · refine zwW_p [(0, -1, 0)] (q := 44) (ls' := [(2, 1), (0, a), (0, b), (2, v2), (2, v23), (0, v28)]) (st' := [(0, -1)]) (by decide +kernel) rfl ?_
            refine zwW_ret (nx := 45) (a := 0) (b := 0) (by decide +kernel) rfl (Or.inl rfl) ?_
            exact ⟨rfl, by omega⟩
def msx61 : Zms := [(17, 17, 0, 13), (18, 18, 0, 400)]
-- WheelLand.likes(I)I
theorem x61 {sc : List Int} (h : Hp) (C : CI h) (a : Int) (q_a : -2147483648 ≤ a ∧ a ≤ 2147483647) : zwC sc 6 61 [(2, 1), (0, a)] h (zwRt 0 (fun x g => CI g ∧ zXR msx61 (0) (0) h g ∧ (-2147483648 ≤ x ∧ x ≤ 2147483647))) := by
  refine zwC_of (D := 5) 3 (by decide +kernel) rfl (ls := [(2, 1), (0, a), (9, 0)]) rfl ?_
  have X : zXR msx61 0 0 h h := zXR.rf _ _
  refine zwW_p [(1, 0, 2), (1, 1, 0)] (q := 2) (ls' := [(2, 1), (0, a), (9, 0)]) (st' := [(0, a), (2, 1)]) (by decide +kernel) rfl ?_
  refine zwW_cm C.1 (op := 60) (k' := 109) (n := 1) (kd := 12) (m := 13) (nx := 5) (r := 1) (tl := [(0, a)]) (st' := []) (by decide +kernel) rfl (by decide +kernel) rfl (x109 h C a (by omega)) ?_
  rintro v2 _ ⟨rfl, ⟨rfl, c1⟩ | ⟨Gv2, c1⟩⟩
  · refine zwW_p [(2, 2, 2), (1, 2, 2)] (q := 7) (ls' := [(2, 1), (0, a), (2, 0)]) (st' := [(2, 0)]) (by decide +kernel) rfl ?_
    refine zwnu_ne (q := 12) (nx := 10) (by decide +kernel) (by decide) (fun c3 => ?_) (fun c3 => ?_)
    · exfalso; omega
    · refine zwW_p [(0, -1, 0)] (q := 11) (ls' := [(2, 1), (0, a), (2, 0)]) (st' := [(0, -1)]) (by decide +kernel) rfl ?_
      refine zwW_ret (nx := 12) (a := 0) (b := 0) (by decide +kernel) rfl (Or.inl rfl) ?_
      exact ⟨C, X.le (by decide) (by decide), by omega⟩
  · have lv2 := Gv2.1
    have ev2 := c1.2.2
    refine zwW_p [(2, 2, 2), (1, 2, 2)] (q := 7) (ls' := [(2, 1), (0, a), (2, v2)]) (st' := [(2, v2)]) (by decide +kernel) rfl ?_
    refine zwnu_ne (q := 12) (nx := 10) (by decide +kernel) (by omega) (fun c4 => ?_) (fun c4 => ?_)
    · refine zwW_p [(1, 2, 2)] (q := 13) (ls' := [(2, 1), (0, a), (2, v2)]) (st' := [(2, v2)]) (by decide +kernel) rfl ?_
      refine zwW_get (kd := 4) (bn := 1) (t := 2) (n := 19) (nx := 16) (by decide +kernel) Gv2.2.1 rfl ?_
      obtain ⟨v5, ev5⟩ : ∃ z, z = fld h v2 1 := ⟨_, rfl⟩
      rw [← ev5]
      have Gv5 : gV h v5 := by rw [ev5]; exact Gv2.2.2
      have lv5 := Gv5.1
      refine zwW_p [(1, 2, 2)] (q := 17) (ls' := [(2, 1), (0, a), (2, v2)]) (st' := [(2, v2), (2, v5)]) (by decide +kernel) rfl ?_
      refine zwX_gi C (kd := 4) (bn := 6) (n := 19) (nx := 20) (by decide +kernel) Gv2.2.1 Gv2.1 rfl ?_
      intro v6 ev6 lv6 uv6
      refine zwW_p [(1, 0, 2), (1, 2, 2)] (q := 22) (ls' := [(2, 1), (0, a), (2, v2)]) (st' := [(2, v2), (2, 1), (0, v6), (2, v5)]) (by decide +kernel) rfl ?_
      refine zwW_get (kd := 4) (bn := 1) (t := 2) (n := 19) (nx := 25) (by decide +kernel) Gv2.2.1 rfl ?_
      rw [← ev5]
      refine zwW_cm C.1 (op := 60) (k' := 153) (n := 1) (kd := 12) (m := 13) (nx := 28) (r := 1) (tl := [(2, v5)]) (st' := [(0, v6), (2, v5)]) (by decide +kernel) rfl (by decide +kernel) rfl (x153 h C v5 Gv5) ?_
      rintro v9 h10 ⟨Ch10, Qh10, f8⟩
      have Xh10 : zXR msx61 (0) (0) h h10 := X.tr (c2 := 0) (s2 := 0) Qh10 (by decide +kernel) (by decide) (by decide)
      have Gh10_0 : gH h10 v2 := Gv2.x Qh10
      have Gh10_1 : gV h10 v5 := Gv5.x Qh10
      refine zwW_cv (op := 60) (k' := 154) (n := 2) (kd := 11) (m := 17) (nx := 31) (r := v5) (tl := [(0, v6), (0, v9)]) (st' := []) (by decide +kernel) rfl (by decide +kernel) Gh10_1.2.1 (x154 h10 Ch10 v5 v6 v9 Gh10_1 (by omega) (by omega)) rfl ?_
      rintro v11 _ ⟨rfl, f12⟩
      refine zwW_ret (nx := 32) (a := 0) (b := 0) (by decide +kernel) rfl (Or.inl rfl) ?_
      exact ⟨Ch10, Xh10.le (by decide) (by decide), by omega⟩
    · exfalso; omega
-- WheelLand.wrong(IZ)I
theorem x65 {sc : List Int} (h : Hp) (C : CI h) (a b : Int) (q_a : -2147483648 ≤ a ∧ a ≤ 2147483647) (q_b : -2147483648 ≤ b ∧ b ≤ 2147483647) : zwC sc 6 65 [(2, 1), (0, a), (0, b)] h (zwRt 0 (fun x g => h = g ∧ (-2147483648 ≤ x ∧ x ≤ 2147483647))) := by
  refine zwC_of (D := 5) 4 (by decide +kernel) rfl (ls := [(2, 1), (0, a), (0, b), (9, 0)]) rfl ?_
  refine zwW_p [(1, 0, 2), (1, 1, 0)] (q := 2) (ls' := [(2, 1), (0, a), (0, b), (9, 0)]) (st' := [(0, a), (2, 1)]) (by decide +kernel) rfl ?_
  refine zwW_cm C.1 (op := 60) (k' := 102) (n := 1) (kd := 12) (m := 13) (nx := 5) (r := 1) (tl := [(0, a)]) (st' := []) (by decide +kernel) rfl (by decide +kernel) rfl (x102 h C a (by omega)) ?_
  rintro v2 _ ⟨rfl, ⟨rfl, c1⟩ | ⟨Gv2, c1⟩⟩
  · refine zwW_p [(2, 3, 2), (1, 3, 2)] (q := 7) (ls' := [(2, 1), (0, a), (0, b), (2, 0)]) (st' := [(2, 0)]) (by decide +kernel) rfl ?_
    refine zwnu_ne (q := 12) (nx := 10) (by decide +kernel) (by decide) (fun c3 => ?_) (fun c3 => ?_)
    · exfalso; omega
    · refine zwW_p [(0, -1, 0)] (q := 11) (ls' := [(2, 1), (0, a), (0, b), (2, 0)]) (st' := [(0, -1)]) (by decide +kernel) rfl ?_
      refine zwW_ret (nx := 12) (a := 0) (b := 0) (by decide +kernel) rfl (Or.inl rfl) ?_
      exact ⟨rfl, by omega⟩
  · have lv2 := Gv2.1
    have ev2 := c1.2.2
    refine zwW_p [(2, 3, 2), (1, 3, 2)] (q := 7) (ls' := [(2, 1), (0, a), (0, b), (2, v2)]) (st' := [(2, v2)]) (by decide +kernel) rfl ?_
    refine zwnu_ne (q := 12) (nx := 10) (by decide +kernel) (by omega) (fun c4 => ?_) (fun c4 => ?_)
    · refine zwW_p [(1, 2, 0)] (q := 13) (ls' := [(2, 1), (0, a), (0, b), (2, v2)]) (st' := [(0, b)]) (by decide +kernel) rfl ?_
      refine zwif_eq (q := 23) (nx := 16) (by decide +kernel) (fun c5 => ?_) (fun c5 => ?_)
      · refine zwW_p [(1, 3, 2)] (q := 24) (ls' := [(2, 1), (0, a), (0, b), (2, v2)]) (st' := [(2, v2)]) (by decide +kernel) rfl ?_
        refine zwW_cv (op := 60) (k' := 159) (n := 0) (kd := 11) (m := 17) (nx := 27) (r := v2) (tl := []) (st' := []) (by decide +kernel) rfl (by decide +kernel) Gv2.2.1 (x159 h C v2 Gv2) rfl ?_
        rintro v6 _ ⟨rfl, f7⟩
        refine zwW_ret (nx := 28) (a := 0) (b := 0) (by decide +kernel) rfl (Or.inl rfl) ?_
        exact ⟨rfl, by omega⟩
      · refine zwW_p [(1, 3, 2)] (q := 17) (ls' := [(2, 1), (0, a), (0, b), (2, v2)]) (st' := [(2, v2)]) (by decide +kernel) rfl ?_
        refine zwW_cv (op := 60) (k' := 158) (n := 0) (kd := 11) (m := 17) (nx := 20) (r := v2) (tl := []) (st' := []) (by decide +kernel) rfl (by decide +kernel) Gv2.2.1 (x158 h C v2 Gv2) rfl ?_
        rintro v8 _ ⟨rfl, f9⟩
        refine zwW_p [(24, 27, 0)] (q := 27) (ls' := [(2, 1), (0, a), (0, b), (2, v2)]) (st' := [(0, v8)]) (by decide +kernel) rfl ?_
        refine zwW_ret (nx := 28) (a := 0) (b := 0) (by decide +kernel) rfl (Or.inl rfl) ?_
        exact ⟨rfl, by omega⟩
    · exfalso; omega
-- WheelLand.look()I
theorem x67 {sc : List Int} (h : Hp) (C : CI h) : zwC sc 5 67 [(2, 1)] h (zwRt 0 (fun x g => h = g ∧ (-2147483648 ≤ x ∧ x ≤ 2147483647))) := by
  refine zwC_of (D := 4) 6 (by decide +kernel) rfl (ls := [(2, 1), (9, 0), (9, 0), (9, 0), (9, 0), (9, 0)]) rfl ?_
  refine zwW_p [(0, -1, 0), (2, 1, 0), (0, 0, 0), (2, 2, 0), (0, 0, 0), (2, 3, 0)] (q := 6) (ls' := [(2, 1), (0, -1), (0, 0), (0, 0), (9, 0), (9, 0)]) (st' := []) (by decide +kernel) rfl ?_
  have L1 : ∀ (n : Nat) (v1L1 v2L1 v3L1 : Int) (w4L1 w5L1 : Vl), n = ((1000 - v3L1)).toNat → (-2147483648 ≤ v1L1 ∧ v1L1 ≤ 2147483647) → (-2147483648 ≤ v2L1 ∧ v2L1 ≤ 2147483647) → (0 ≤ v3L1 ∧ v3L1 ≤ 1000) → zwW sc (4) 67 6 [(2, 1), (0, v1L1), (0, v2L1), (0, v3L1), w4L1, w5L1] [] h (zwRt 0 (fun x g => h = g ∧ (-2147483648 ≤ x ∧ x ≤ 2147483647))) := by
    intro n
    induction n using Nat.strongRecOn with
    | ind n IHL1 =>
      intro v1L1 v2L1 v3L1 w4L1 w5L1 hnL1 iL1_0 iL1_1 iL1_2
      refine zwW_p [(1, 3, 0), (1, 0, 2)] (q := 8) (ls' := [(2, 1), (0, v1L1), (0, v2L1), (0, v3L1), w4L1, w5L1]) (st' := [(2, 1), (0, v3L1)]) (by decide +kernel) rfl ?_
      refine zwW_gc C.1 (kd := 12) (bn := 2) (n := 13) (c := 2) (nx := 11) (by decide +kernel) ?_
      refine zwW_cm C.1 (op := 60) (k' := 96) (n := 0) (kd := 0) (m := 3) (nx := 14) (r := 2) (tl := []) (st' := [(0, v3L1)]) (by decide +kernel) rfl (by decide +kernel) rfl (x96_2 C) ?_
      rintro v2 _ ⟨rfl, ev2⟩
      have bv2 := zLb_2 C
      refine zwic_ge (q := 60) (nx := 17) (by decide +kernel) (fun c3 => ?_) (fun c3 => ?_)
      · refine zwW_p [(1, 1, 0)] (q := 61) (ls' := [(2, 1), (0, v1L1), (0, v2L1), (0, v3L1), w4L1, w5L1]) (st' := [(0, v1L1)]) (by decide +kernel) rfl ?_
        refine zwW_ret (nx := 62) (a := 0) (b := 0) (by decide +kernel) rfl (Or.inl rfl) ?_
        exact ⟨rfl, by omega⟩
      · refine zwW_p [(1, 0, 2)] (q := 18) (ls' := [(2, 1), (0, v1L1), (0, v2L1), (0, v3L1), w4L1, w5L1]) (st' := [(2, 1)]) (by decide +kernel) rfl ?_
        refine zwW_gc C.1 (kd := 12) (bn := 2) (n := 13) (c := 2) (nx := 21) (by decide +kernel) ?_
        refine zwW_p [(1, 3, 0)] (q := 22) (ls' := [(2, 1), (0, v1L1), (0, v2L1), (0, v3L1), w4L1, w5L1]) (st' := [(0, v3L1), (2, 2)]) (by decide +kernel) rfl ?_
        refine zwW_cm C.1 (op := 60) (k' := 123) (n := 1) (kd := 0) (m := 3) (nx := 25) (r := 2) (tl := [(0, v3L1)]) (st' := []) (by decide +kernel) rfl (by decide +kernel) rfl (x123_2 C (i := v3L1) (by first | omega | exact ⟨by omega, by omega⟩)) ?_
        rintro v4 _ ⟨rfl, Gv4, ev4⟩
        have lv4 := Gv4.1
        refine zwW_cast (a := 11) (kd := 11) (n := 17) (nx := 28) (by decide +kernel) rfl (Or.inr Gv4.2.1) ?_
        refine zwW_p [(2, 4, 2), (1, 4, 2)] (q := 32) (ls' := [(2, 1), (0, v1L1), (0, v2L1), (0, v3L1), (2, v4), w5L1]) (st' := [(2, v4)]) (by decide +kernel) rfl ?_
        refine zwW_cv (op := 60) (k' := 158) (n := 0) (kd := 11) (m := 17) (nx := 35) (r := v4) (tl := []) (st' := []) (by decide +kernel) rfl (by decide +kernel) Gv4.2.1 (x158 h C v4 Gv4) rfl ?_
        rintro v5 _ ⟨rfl, f6⟩
        refine zwW_p [(1, 4, 2)] (q := 37) (ls' := [(2, 1), (0, v1L1), (0, v2L1), (0, v3L1), (2, v4), w5L1]) (st' := [(2, v4), (0, v5)]) (by decide +kernel) rfl ?_
        refine zwW_cv (op := 60) (k' := 159) (n := 0) (kd := 11) (m := 17) (nx := 40) (r := v4) (tl := []) (st' := [(0, v5)]) (by decide +kernel) rfl (by decide +kernel) Gv4.2.1 (x159 h C v4 Gv4) rfl ?_
        rintro v7 _ ⟨rfl, f8⟩
        refine zwW_sbw (nx := 41) (by decide +kernel) ?_
        intro v9 ev9 lv9 uv9
        refine zwW_p [(2, 5, 0), (1, 5, 0), (1, 2, 0)] (q := 46) (ls' := [(2, 1), (0, v1L1), (0, v2L1), (0, v3L1), (2, v4), (0, v9)]) (st' := [(0, v2L1), (0, v9)]) (by decide +kernel) rfl ?_
        refine zwic_le (q := 54) (nx := 49) (by decide +kernel) (fun c10 => ?_) (fun c10 => ?_)
        · refine zwW_inc (i := 3) (c := 1) (x := v3L1) (nx := 57) (by decide +kernel) rfl (by first | omega | exact ⟨by omega, by omega⟩) (ls' := [(2, 1), (0, v1L1), (0, v2L1), (0, (v3L1 + 1)), (2, v4), (0, v9)]) rfl ?_
          refine zwW_p [(24, 6, 0)] (q := 6) (ls' := [(2, 1), (0, v1L1), (0, v2L1), (0, (v3L1 + 1)), (2, v4), (0, v9)]) (st' := []) (by decide +kernel) rfl ?_
          exact IHL1 ((1000 - (v3L1 + 1))).toNat (by omega) v1L1 v2L1 (v3L1 + 1) (2, v4) (0, v9) rfl (by omega) (by omega) (by omega)
        · refine zwW_p [(1, 5, 0), (2, 2, 0), (1, 3, 0), (2, 1, 0)] (q := 54) (ls' := [(2, 1), (0, v3L1), (0, v9), (0, v3L1), (2, v4), (0, v9)]) (st' := []) (by decide +kernel) rfl ?_
          refine zwW_inc (i := 3) (c := 1) (x := v3L1) (nx := 57) (by decide +kernel) rfl (by first | omega | exact ⟨by omega, by omega⟩) (ls' := [(2, 1), (0, v3L1), (0, v9), (0, (v3L1 + 1)), (2, v4), (0, v9)]) rfl ?_
          refine zwW_p [(24, 6, 0)] (q := 6) (ls' := [(2, 1), (0, v3L1), (0, v9), (0, (v3L1 + 1)), (2, v4), (0, v9)]) (st' := []) (by decide +kernel) rfl ?_
          exact IHL1 ((1000 - (v3L1 + 1))).toNat (by omega) v3L1 v9 (v3L1 + 1) (2, v4) (0, v9) rfl (by omega) (by omega) (by omega)
  exact L1 _ (-1) 0 0 (9, 0) (9, 0) rfl (by omega) (by omega) (by omega)
def msx69 : Zms := [(27, 27, 0, 1), (28, 28, 0, 8), (29, 29, 0, 8), (30, 30, 0, 8)]
-- WheelLand.gift(III)I
theorem x69 {sc : List Int} (h : Hp) (C : CI h) (a b c : Int) (q_a : -2147483648 ≤ a ∧ a ≤ 2147483647) (q_b : -2147483648 ≤ b ∧ b ≤ 2147483647) (q_c : -2147483648 ≤ c ∧ c ≤ 2147483647) : zwC sc 6 69 [(2, 1), (0, a), (0, b), (0, c)] h (zwRt 0 (fun x g => CI g ∧ zXR msx69 (0) (0) h g ∧ (-2147483648 ≤ x ∧ x ≤ 2147483647) ∧ ((x = fld h 27 0 ∧ fld g 27 0 = x + 1 ∧ 1 ≤ a ∧ a ≤ 99 ∧ 0 ≤ b ∧ b < fld h 3 2 ∧ 0 ≤ c ∧ c ≤ 2 ∧ x < 8) ∨ (x = -1 ∧ fld g 27 0 = fld h 27 0 ∧ (a < 1 ∨ 99 < a ∨ b < 0 ∨ fld h 3 2 ≤ b ∨ c < 0 ∨ 2 < c ∨ 8 ≤ fld h 27 0))))) := by
  refine zwC_of (D := 5) 4 (by decide +kernel) rfl (ls := [(2, 1), (0, a), (0, b), (0, c)]) rfl ?_
  have X : zXR msx69 0 0 h h := zXR.rf _ _
  refine zwW_p [(1, 0, 2), (1, 2, 0)] (q := 2) (ls' := [(2, 1), (0, a), (0, b), (0, c)]) (st' := [(0, b), (2, 1)]) (by decide +kernel) rfl ?_
  refine zwW_cm C.1 (op := 60) (k' := 109) (n := 1) (kd := 12) (m := 13) (nx := 5) (r := 1) (tl := [(0, b)]) (st' := []) (by decide +kernel) rfl (by decide +kernel) rfl (x109 h C b (by omega)) ?_
  rintro v2 _ ⟨rfl, ⟨rfl, c1⟩ | ⟨Gv2, c1⟩⟩
  · refine zwnu_eq (q := 39) (nx := 8) (by decide +kernel) (by decide) (fun c3 => ?_) (fun c3 => ?_)
    · refine zwW_p [(0, -1, 0)] (q := 40) (ls' := [(2, 1), (0, a), (0, b), (0, c)]) (st' := [(0, -1)]) (by decide +kernel) rfl ?_
      refine zwW_ret (nx := 41) (a := 0) (b := 0) (by decide +kernel) rfl (Or.inl rfl) ?_
      exact ⟨C, X.le (by decide) (by decide), by omega, by omega⟩
    · exfalso; omega
  · have lv2 := Gv2.1
    have ev2 := c1.2.2
    refine zwnu_eq (q := 39) (nx := 8) (by decide +kernel) (by omega) (fun c4 => ?_) (fun c4 => ?_)
    · exfalso; omega
    · refine zwW_p [(1, 1, 0), (0, 1, 0), (0, 99, 0)] (q := 12) (ls' := [(2, 1), (0, a), (0, b), (0, c)]) (st' := [(0, 99), (0, 1), (0, a)]) (by decide +kernel) rfl ?_
      refine zwW_cs (k' := 98) (n := 3) (nx := 15) (as := [(0, a), (0, 1), (0, 99)]) (st' := []) (by decide +kernel) rfl (x98 h C a 1 99 (by omega) (by omega) (by omega)) rfl ?_
      rintro x _ ⟨rfl, ⟨rfl, c5⟩ | ⟨rfl, c5⟩⟩
      · refine zwif_ne (q := 39) (nx := 18) (by decide +kernel) (fun c6 => ?_) (fun c6 => ?_)
        · refine zwW_p [(0, -1, 0)] (q := 40) (ls' := [(2, 1), (0, a), (0, b), (0, c)]) (st' := [(0, -1)]) (by decide +kernel) rfl ?_
          refine zwW_ret (nx := 41) (a := 0) (b := 0) (by decide +kernel) rfl (Or.inl rfl) ?_
          exact ⟨C, X.le (by decide) (by decide), by omega, by omega⟩
        · exfalso; omega
      · refine zwif_ne (q := 39) (nx := 18) (by decide +kernel) (fun c7 => ?_) (fun c7 => ?_)
        · exfalso; omega
        · refine zwW_p [(1, 3, 0), (0, 0, 0), (0, 2, 0)] (q := 21) (ls' := [(2, 1), (0, a), (0, b), (0, c)]) (st' := [(0, 2), (0, 0), (0, c)]) (by decide +kernel) rfl ?_
          refine zwW_cs (k' := 98) (n := 3) (nx := 24) (as := [(0, c), (0, 0), (0, 2)]) (st' := []) (by decide +kernel) rfl (x98 h C c 0 2 (by omega) (by omega) (by omega)) rfl ?_
          rintro x _ ⟨rfl, ⟨rfl, c8⟩ | ⟨rfl, c8⟩⟩
          · refine zwif_ne (q := 39) (nx := 27) (by decide +kernel) (fun c9 => ?_) (fun c9 => ?_)
            · refine zwW_p [(0, -1, 0)] (q := 40) (ls' := [(2, 1), (0, a), (0, b), (0, c)]) (st' := [(0, -1)]) (by decide +kernel) rfl ?_
              refine zwW_ret (nx := 41) (a := 0) (b := 0) (by decide +kernel) rfl (Or.inl rfl) ?_
              exact ⟨C, X.le (by decide) (by decide), by omega, by omega⟩
            · exfalso; omega
          · refine zwif_ne (q := 39) (nx := 27) (by decide +kernel) (fun c10 => ?_) (fun c10 => ?_)
            · exfalso; omega
            · refine zwW_p [(1, 0, 2)] (q := 28) (ls' := [(2, 1), (0, a), (0, b), (0, c)]) (st' := [(2, 1)]) (by decide +kernel) rfl ?_
              refine zwW_gc C.1 (kd := 12) (bn := 10) (n := 13) (c := 27) (nx := 31) (by decide +kernel) ?_
              refine zwW_gs C.1 (kd := 2) (bn := 0) (n := 10) (t := 0) (lo := 0) (hi := 8) (nx := 34) (by decide +kernel) ?_
              intro v11 ev11 lv11 uv11
              refine zwW_p [(0, 8, 0)] (q := 36) (ls' := [(2, 1), (0, a), (0, b), (0, c)]) (st' := [(0, 8), (0, v11)]) (by decide +kernel) rfl ?_
              refine zwic_lt (q := 41) (nx := 39) (by decide +kernel) (fun c12 => ?_) (fun c12 => ?_)
              · refine zwW_p [(1, 0, 2)] (q := 42) (ls' := [(2, 1), (0, a), (0, b), (0, c)]) (st' := [(2, 1)]) (by decide +kernel) rfl ?_
                refine zwW_gc C.1 (kd := 12) (bn := 10) (n := 13) (c := 27) (nx := 45) (by decide +kernel) ?_
                refine zwW_p [(1, 1, 0), (1, 2, 0), (1, 3, 0)] (q := 48) (ls' := [(2, 1), (0, a), (0, b), (0, c)]) (st' := [(0, c), (0, b), (0, a), (2, 27)]) (by decide +kernel) rfl ?_
                refine zwW_cmv C.1 (op := 60) (k' := 161) (n := 3) (kd := 2) (m := 10) (nx := 51) (r := 27) (tl := [(0, a), (0, b), (0, c)]) (st' := []) (by decide +kernel) rfl (by decide +kernel) rfl (x161 h C a b c (by omega) (by omega) (by omega)) ?_
                rintro h14 ⟨Ch14, Qh14, f13⟩
                have Xh14 : zXR msx69 (0) (0) h h14 := X.tr (c2 := 0) (s2 := 0) Qh14 (by decide +kernel) (by decide) (by decide)
                refine zwW_p [(1, 0, 2)] (q := 52) (ls' := [(2, 1), (0, a), (0, b), (0, c)]) (st' := [(2, 1)]) (by decide +kernel) rfl ?_
                refine zwW_gc Ch14.1 (kd := 12) (bn := 10) (n := 13) (c := 27) (nx := 55) (by decide +kernel) ?_
                refine zwW_gs Ch14.1 (kd := 2) (bn := 0) (n := 10) (t := 0) (lo := 0) (hi := 8) (nx := 58) (by decide +kernel) ?_
                intro v15 ev15 lv15 uv15
                refine zwW_p [(0, 1, 0)] (q := 59) (ls' := [(2, 1), (0, a), (0, b), (0, c)]) (st' := [(0, 1), (0, v15)]) (by decide +kernel) rfl ?_
                refine zwW_sub (nx := 60) (by decide +kernel) (by first | omega | exact ⟨by omega, by omega⟩) ?_
                refine zwW_ret (nx := 61) (a := 0) (b := 0) (by decide +kernel) rfl (Or.inl rfl) ?_
                exact ⟨Ch14, Xh14.le (by decide) (by decide), by omega, by omega⟩
              · refine zwW_p [(0, -1, 0)] (q := 40) (ls' := [(2, 1), (0, a), (0, b), (0, c)]) (st' := [(0, -1)]) (by decide +kernel) rfl ?_
                refine zwW_ret (nx := 41) (a := 0) (b := 0) (by decide +kernel) rfl (Or.inl rfl) ?_
                exact ⟨C, X.le (by decide) (by decide), by omega, by omega⟩
def msx71 : Zms := [(27, 27, 0, 1)]
-- WheelLand.forget()I
theorem x71 {sc : List Int} (h : Hp) (C : CI h) : zwC sc 1 71 [(2, 1)] h (zwRt 0 (fun x g => CI g ∧ zXR msx71 (0) (0) h g ∧ (-2147483648 ≤ x ∧ x ≤ 2147483647) ∧ (x = fld h 27 0 ∧ fld g 27 0 = 0))) := by
  refine zwC_of (D := 0) 2 (by decide +kernel) rfl (ls := [(2, 1), (9, 0)]) rfl ?_
  have X : zXR msx71 0 0 h h := zXR.rf _ _
  refine zwW_p [(1, 0, 2)] (q := 1) (ls' := [(2, 1), (9, 0)]) (st' := [(2, 1)]) (by decide +kernel) rfl ?_
  refine zwW_gc C.1 (kd := 12) (bn := 10) (n := 13) (c := 27) (nx := 4) (by decide +kernel) ?_
  refine zwW_gs C.1 (kd := 2) (bn := 0) (n := 10) (t := 0) (lo := 0) (hi := 8) (nx := 7) (by decide +kernel) ?_
  intro v1 ev1 lv1 uv1
  refine zwW_p [(2, 1, 0), (1, 0, 2)] (q := 9) (ls' := [(2, 1), (0, v1)]) (st' := [(2, 1)]) (by decide +kernel) rfl ?_
  refine zwW_gc C.1 (kd := 12) (bn := 10) (n := 13) (c := 27) (nx := 12) (by decide +kernel) ?_
  refine zwW_p [(0, 0, 0)] (q := 13) (ls' := [(2, 1), (0, v1)]) (st' := [(0, 0), (2, 27)]) (by decide +kernel) rfl ?_
  refine zwW_ps C.1 (kd := 2) (bn := 0) (n := 10) (lo := 0) (hi := 8) (nx := 16) (by decide +kernel) (by first | decide | exact ⟨by decide, by decide⟩) ?_
  intro h2 eh2 Ih2
  have Ch2 : CI h2 := C.wc eh2 Ih2 (by decide) (by decide)
  have Qh2 : zXR [(27, 27, 0, 1)] 0 0 h h2 := zXR.wc eh2 rfl ⟨by decide, by decide, Or.inl (by decide)⟩ (by first | decide | exact ⟨by decide, by decide⟩)
  have Xh2 : zXR msx71 (0) (0) h h2 := X.tr (c2 := 0) (s2 := 0) Qh2 (by decide +kernel) (by decide) (by decide)
  have th2_27_0 : fld h2 27 0 = 0 := by rw [eh2]; exact fld_wr_eq (C.1.s (a1 := 27) (a2 := 27) (k := 2) (n := 10) (by decide +kernel) (by decide) (by decide)) (by decide)
  refine zwW_p [(1, 1, 0)] (q := 17) (ls' := [(2, 1), (0, v1)]) (st' := [(0, v1)]) (by decide +kernel) rfl ?_
  refine zwW_ret (nx := 18) (a := 0) (b := 0) (by decide +kernel) rfl (Or.inl rfl) ?_
  exact ⟨Ch2, Xh2.le (by decide) (by decide), by omega, by omega⟩
def msx73 : Zms := [(27, 27, 1, 2), (27, 27, 2, 3), (27, 27, 3, 4), (31, 31, 0, 20), (32, 32, 0, 20), (33, 33, 0, 8)]
-- WheelLand.best(II)I
theorem x73 {sc : List Int} (h : Hp) (C : CI h) (a b : Int) (q_a : -2147483648 ≤ a ∧ a ≤ 2147483647) (q_b : -2147483648 ≤ b ∧ b ≤ 2147483647) : zwC sc 7 73 [(2, 1), (0, a), (0, b)] h (zwRt 0 (fun x g => CI g ∧ zXR msx73 (0) (0) h g ∧ (-2147483648 ≤ x ∧ x ≤ 2147483647))) := by
  refine zwC_of (D := 6) 3 (by decide +kernel) rfl (ls := [(2, 1), (0, a), (0, b)]) rfl ?_
  have X : zXR msx73 0 0 h h := zXR.rf _ _
  refine zwW_p [(1, 1, 0)] (q := 1) (ls' := [(2, 1), (0, a), (0, b)]) (st' := [(0, a)]) (by decide +kernel) rfl ?_
  refine zwif_lt (q := 23) (nx := 4) (by decide +kernel) (fun c1 => ?_) (fun c1 => ?_)
  · refine zwW_p [(0, -1, 0)] (q := 24) (ls' := [(2, 1), (0, a), (0, b)]) (st' := [(0, -1)]) (by decide +kernel) rfl ?_
    refine zwW_ret (nx := 25) (a := 0) (b := 0) (by decide +kernel) rfl (Or.inl rfl) ?_
    exact ⟨C, X.le (by decide) (by decide), by omega⟩
  · refine zwW_p [(1, 2, 0), (0, 0, 0), (0, 2, 0)] (q := 7) (ls' := [(2, 1), (0, a), (0, b)]) (st' := [(0, 2), (0, 0), (0, b)]) (by decide +kernel) rfl ?_
    refine zwW_cs (k' := 98) (n := 3) (nx := 10) (as := [(0, b), (0, 0), (0, 2)]) (st' := []) (by decide +kernel) rfl (x98 h C b 0 2 (by omega) (by omega) (by omega)) rfl ?_
    rintro x _ ⟨rfl, ⟨rfl, c2⟩ | ⟨rfl, c2⟩⟩
    · refine zwif_ne (q := 23) (nx := 13) (by decide +kernel) (fun c3 => ?_) (fun c3 => ?_)
      · refine zwW_p [(0, -1, 0)] (q := 24) (ls' := [(2, 1), (0, a), (0, b)]) (st' := [(0, -1)]) (by decide +kernel) rfl ?_
        refine zwW_ret (nx := 25) (a := 0) (b := 0) (by decide +kernel) rfl (Or.inl rfl) ?_
        exact ⟨C, X.le (by decide) (by decide), by omega⟩
      · exfalso; omega
    · refine zwif_ne (q := 23) (nx := 13) (by decide +kernel) (fun c4 => ?_) (fun c4 => ?_)
      · exfalso; omega
      · refine zwW_p [(1, 0, 2)] (q := 14) (ls' := [(2, 1), (0, a), (0, b)]) (st' := [(2, 1)]) (by decide +kernel) rfl ?_
        refine zwW_gs C.1 (kd := 12) (bn := 0) (n := 13) (t := 0) (lo := 0) (hi := 156) (nx := 17) (by decide +kernel) ?_
        intro v5 ev5 lv5 uv5
        refine zwW_p [(0, 156, 0)] (q := 20) (ls' := [(2, 1), (0, a), (0, b)]) (st' := [(0, 156), (0, v5)]) (by decide +kernel) rfl ?_
        refine zwic_lt (q := 25) (nx := 23) (by decide +kernel) (fun c6 => ?_) (fun c6 => ?_)
        · refine zwW_p [(1, 0, 2)] (q := 26) (ls' := [(2, 1), (0, a), (0, b)]) (st' := [(2, 1)]) (by decide +kernel) rfl ?_
          refine zwW_gc C.1 (kd := 12) (bn := 10) (n := 13) (c := 27) (nx := 29) (by decide +kernel) ?_
          refine zwW_p [(1, 1, 0), (1, 0, 2)] (q := 31) (ls' := [(2, 1), (0, a), (0, b)]) (st' := [(2, 1), (0, a), (2, 27)]) (by decide +kernel) rfl ?_
          refine zwW_gc C.1 (kd := 12) (bn := 2) (n := 13) (c := 2) (nx := 34) (by decide +kernel) ?_
          refine zwW_p [(1, 0, 2)] (q := 35) (ls' := [(2, 1), (0, a), (0, b)]) (st' := [(2, 1), (2, 2), (0, a), (2, 27)]) (by decide +kernel) rfl ?_
          refine zwW_gc C.1 (kd := 12) (bn := 3) (n := 13) (c := 3) (nx := 38) (by decide +kernel) ?_
          refine zwW_p [(1, 0, 2)] (q := 39) (ls' := [(2, 1), (0, a), (0, b)]) (st' := [(2, 1), (2, 3), (2, 2), (0, a), (2, 27)]) (by decide +kernel) rfl ?_
          refine zwW_gs C.1 (kd := 12) (bn := 0) (n := 13) (t := 0) (lo := 0) (hi := 156) (nx := 42) (by decide +kernel) ?_
          intro v7 ev7 lv7 uv7
          refine zwW_cs (k' := 162) (n := 1) (nx := 45) (as := [(0, v7)]) (st' := [(2, 3), (2, 2), (0, a), (2, 27)]) (by decide +kernel) rfl (x162 h C v7 (by omega) (by omega)) rfl ?_
          rintro v8 _ ⟨rfl, f9, f10, f11⟩
          refine zwW_p [(0, 300, 0), (1, 0, 2)] (q := 49) (ls' := [(2, 1), (0, a), (0, b)]) (st' := [(2, 1), (0, 300), (0, v8), (2, 3), (2, 2), (0, a), (2, 27)]) (by decide +kernel) rfl ?_
          refine zwW_gc C.1 (kd := 12) (bn := 4) (n := 13) (c := 4) (nx := 52) (by decide +kernel) ?_
          refine zwW_cm C.1 (op := 60) (k' := 96) (n := 0) (kd := 0) (m := 3) (nx := 55) (r := 4) (tl := []) (st' := [(0, 300), (0, v8), (2, 3), (2, 2), (0, a), (2, 27)]) (by decide +kernel) rfl (by decide +kernel) rfl (x96_4 C) ?_
          rintro v12 _ ⟨rfl, ev12⟩
          have bv12 := zLb_4 C
          refine zwW_sub (nx := 56) (by decide +kernel) (by first | omega | exact ⟨by omega, by omega⟩) ?_
          refine zwW_cmv C.1 (op := 60) (k' := 163) (n := 5) (kd := 2) (m := 10) (nx := 59) (r := 27) (tl := [(0, a), (2, 2), (2, 3), (0, v8), (0, (300 - v12))]) (st' := []) (by decide +kernel) rfl (by decide +kernel) rfl (x163 h C a v8 (300 - v12) (by omega) (by omega) (by omega)) ?_
          rintro h13 ⟨Ch13, Qh13⟩
          have Xh13 : zXR msx73 (0) (0) h h13 := X.tr (c2 := 0) (s2 := 0) Qh13 (by decide +kernel) (by decide) (by decide)
          refine zwW_p [(1, 2, 0)] (q := 60) (ls' := [(2, 1), (0, a), (0, b)]) (st' := [(0, b)]) (by decide +kernel) rfl ?_
          refine zwif_ne (q := 71) (nx := 63) (by decide +kernel) (fun c14 => ?_) (fun c14 => ?_)
          · refine zwW_p [(1, 2, 0), (0, 1, 0)] (q := 73) (ls' := [(2, 1), (0, a), (0, b)]) (st' := [(0, 1), (0, b)]) (by decide +kernel) rfl ?_
            refine zwic_ne (q := 86) (nx := 76) (by decide +kernel) (fun c15 => ?_) (fun c15 => ?_)
            · refine zwW_p [(1, 0, 2)] (q := 87) (ls' := [(2, 1), (0, a), (0, b)]) (st' := [(2, 1)]) (by decide +kernel) rfl ?_
              refine zwW_gc Ch13.1 (kd := 12) (bn := 10) (n := 13) (c := 27) (nx := 90) (by decide +kernel) ?_
              refine zwW_gs Ch13.1 (kd := 2) (bn := 3) (n := 10) (t := 0) (lo := -2147483648) (hi := 2147483647) (nx := 93) (by decide +kernel) ?_
              intro v16 ev16 lv16 uv16
              refine zwW_ret (nx := 94) (a := 0) (b := 0) (by decide +kernel) rfl (Or.inl rfl) ?_
              exact ⟨Ch13, Xh13.le (by decide) (by decide), by omega⟩
            · refine zwW_p [(1, 0, 2)] (q := 77) (ls' := [(2, 1), (0, a), (0, b)]) (st' := [(2, 1)]) (by decide +kernel) rfl ?_
              refine zwW_gc Ch13.1 (kd := 12) (bn := 10) (n := 13) (c := 27) (nx := 80) (by decide +kernel) ?_
              refine zwW_gs Ch13.1 (kd := 2) (bn := 2) (n := 10) (t := 0) (lo := -2147483648) (hi := 2147483647) (nx := 83) (by decide +kernel) ?_
              intro v17 ev17 lv17 uv17
              refine zwW_p [(24, 93, 0)] (q := 93) (ls' := [(2, 1), (0, a), (0, b)]) (st' := [(0, v17)]) (by decide +kernel) rfl ?_
              refine zwW_ret (nx := 94) (a := 0) (b := 0) (by decide +kernel) rfl (Or.inl rfl) ?_
              exact ⟨Ch13, Xh13.le (by decide) (by decide), by omega⟩
          · refine zwW_p [(1, 0, 2)] (q := 64) (ls' := [(2, 1), (0, a), (0, b)]) (st' := [(2, 1)]) (by decide +kernel) rfl ?_
            refine zwW_gc Ch13.1 (kd := 12) (bn := 10) (n := 13) (c := 27) (nx := 67) (by decide +kernel) ?_
            refine zwW_gs Ch13.1 (kd := 2) (bn := 1) (n := 10) (t := 0) (lo := -2147483648) (hi := 2147483647) (nx := 70) (by decide +kernel) ?_
            intro v18 ev18 lv18 uv18
            refine zwW_ret (nx := 71) (a := 0) (b := 0) (by decide +kernel) rfl (Or.inl rfl) ?_
            exact ⟨Ch13, Xh13.le (by decide) (by decide), by omega⟩
        · refine zwW_p [(0, -1, 0)] (q := 24) (ls' := [(2, 1), (0, a), (0, b)]) (st' := [(0, -1)]) (by decide +kernel) rfl ?_
          refine zwW_ret (nx := 25) (a := 0) (b := 0) (by decide +kernel) rfl (Or.inl rfl) ?_
          exact ⟨C, X.le (by decide) (by decide), by omega⟩
-- WheelLand.hungry(I)I
theorem x75 {sc : List Int} (h : Hp) (C : CI h) (a : Int) (q_a : -2147483648 ≤ a ∧ a ≤ 2147483647) : zwC sc 5 75 [(2, 1), (0, a)] h (zwRt 0 (fun x g => h = g ∧ (-2147483648 ≤ x ∧ x ≤ 2147483647))) := by
  refine zwC_of (D := 4) 5 (by decide +kernel) rfl (ls := [(2, 1), (0, a), (9, 0), (9, 0), (9, 0)]) rfl ?_
  refine zwW_p [(1, 1, 0), (0, 1, 0), (0, 99, 0)] (q := 4) (ls' := [(2, 1), (0, a), (9, 0), (9, 0), (9, 0)]) (st' := [(0, 99), (0, 1), (0, a)]) (by decide +kernel) rfl ?_
  refine zwW_cs (k' := 98) (n := 3) (nx := 7) (as := [(0, a), (0, 1), (0, 99)]) (st' := []) (by decide +kernel) rfl (x98 h C a 1 99 (by omega) (by omega) (by omega)) rfl ?_
  rintro x _ ⟨rfl, ⟨rfl, c1⟩ | ⟨rfl, c1⟩⟩
  · refine zwif_eq (q := 12) (nx := 10) (by decide +kernel) (fun c2 => ?_) (fun c2 => ?_)
    · exfalso; omega
    · refine zwW_p [(0, -1, 0)] (q := 11) (ls' := [(2, 1), (0, a), (9, 0), (9, 0), (9, 0)]) (st' := [(0, -1)]) (by decide +kernel) rfl ?_
      refine zwW_ret (nx := 12) (a := 0) (b := 0) (by decide +kernel) rfl (Or.inl rfl) ?_
      exact ⟨rfl, by omega⟩
  · refine zwif_eq (q := 12) (nx := 10) (by decide +kernel) (fun c3 => ?_) (fun c3 => ?_)
    · refine zwW_p [(0, 0, 0), (2, 2, 0), (0, 0, 0), (2, 3, 0)] (q := 16) (ls' := [(2, 1), (0, a), (0, 0), (0, 0), (9, 0)]) (st' := []) (by decide +kernel) rfl ?_
      have L4 : ∀ (n : Nat) (v2L4 v3L4 : Int) (w4L4 : Vl), n = ((1000 - v3L4)).toNat → (-2147483648 ≤ v2L4 ∧ v2L4 ≤ 2147483647) → (0 ≤ v3L4 ∧ v3L4 ≤ 1000) → zwW sc (4) 75 16 [(2, 1), (0, a), (0, v2L4), (0, v3L4), w4L4] [] h (zwRt 0 (fun x g => h = g ∧ (-2147483648 ≤ x ∧ x ≤ 2147483647))) := by
        intro n
        induction n using Nat.strongRecOn with
        | ind n IHL4 =>
          intro v2L4 v3L4 w4L4 hnL4 iL4_0 iL4_1
          refine zwW_p [(1, 3, 0), (1, 0, 2)] (q := 18) (ls' := [(2, 1), (0, a), (0, v2L4), (0, v3L4), w4L4]) (st' := [(2, 1), (0, v3L4)]) (by decide +kernel) rfl ?_
          refine zwW_gc C.1 (kd := 12) (bn := 3) (n := 13) (c := 3) (nx := 21) (by decide +kernel) ?_
          refine zwW_cm C.1 (op := 60) (k' := 96) (n := 0) (kd := 0) (m := 3) (nx := 24) (r := 3) (tl := []) (st' := [(0, v3L4)]) (by decide +kernel) rfl (by decide +kernel) rfl (x96_3 C) ?_
          rintro v5 _ ⟨rfl, ev5⟩
          have bv5 := zLb_3 C
          refine zwic_ge (q := 67) (nx := 27) (by decide +kernel) (fun c6 => ?_) (fun c6 => ?_)
          · refine zwW_p [(1, 2, 0)] (q := 68) (ls' := [(2, 1), (0, a), (0, v2L4), (0, v3L4), w4L4]) (st' := [(0, v2L4)]) (by decide +kernel) rfl ?_
            refine zwW_ret (nx := 69) (a := 0) (b := 0) (by decide +kernel) rfl (Or.inl rfl) ?_
            exact ⟨rfl, by omega⟩
          · refine zwW_p [(1, 0, 2)] (q := 28) (ls' := [(2, 1), (0, a), (0, v2L4), (0, v3L4), w4L4]) (st' := [(2, 1)]) (by decide +kernel) rfl ?_
            refine zwW_gc C.1 (kd := 12) (bn := 3) (n := 13) (c := 3) (nx := 31) (by decide +kernel) ?_
            refine zwW_p [(1, 3, 0)] (q := 32) (ls' := [(2, 1), (0, a), (0, v2L4), (0, v3L4), w4L4]) (st' := [(0, v3L4), (2, 3)]) (by decide +kernel) rfl ?_
            refine zwW_cm C.1 (op := 60) (k' := 123) (n := 1) (kd := 0) (m := 3) (nx := 35) (r := 3) (tl := [(0, v3L4)]) (st' := []) (by decide +kernel) rfl (by decide +kernel) rfl (x123_3 C (i := v3L4) (by first | omega | exact ⟨by omega, by omega⟩)) ?_
            rintro v7 _ ⟨rfl, Gv7, ev7⟩
            have lv7 := Gv7.1
            refine zwW_cast (a := 4) (kd := 4) (n := 19) (nx := 38) (by decide +kernel) rfl (Or.inr Gv7.2.1) ?_
            refine zwW_p [(2, 4, 2), (1, 4, 2)] (q := 42) (ls' := [(2, 1), (0, a), (0, v2L4), (0, v3L4), (2, v7)]) (st' := [(2, v7)]) (by decide +kernel) rfl ?_
            refine zwX_gi C (kd := 4) (bn := 6) (n := 19) (nx := 45) (by decide +kernel) Gv7.2.1 Gv7.1 rfl ?_
            intro v8 ev8 lv8 uv8
            refine zwW_p [(1, 4, 2)] (q := 47) (ls' := [(2, 1), (0, a), (0, v2L4), (0, v3L4), (2, v7)]) (st' := [(2, v7), (0, v8)]) (by decide +kernel) rfl ?_
            refine zwX_gi C (kd := 4) (bn := 5) (n := 19) (nx := 50) (by decide +kernel) Gv7.2.1 Gv7.1 rfl ?_
            intro v9 ev9 lv9 uv9
            refine zwW_p [(1, 1, 0)] (q := 51) (ls' := [(2, 1), (0, a), (0, v2L4), (0, v3L4), (2, v7)]) (st' := [(0, a), (0, v9), (0, v8)]) (by decide +kernel) rfl ?_
            refine zwW_mlw (nx := 52) (by decide +kernel) ?_
            intro v10 ev10 lv10 uv10
            have Ev10 : v10 = w32 ((fld h v7 5) * a) := by rw [ev10, ev9]
            refine zwic_ge (q := 61) (nx := 55) (by decide +kernel) (fun c11 => ?_) (fun c11 => ?_)
            · refine zwW_inc (i := 3) (c := 1) (x := v3L4) (nx := 64) (by decide +kernel) rfl (by first | omega | exact ⟨by omega, by omega⟩) (ls' := [(2, 1), (0, a), (0, v2L4), (0, (v3L4 + 1)), (2, v7)]) rfl ?_
              refine zwW_p [(24, 16, 0)] (q := 16) (ls' := [(2, 1), (0, a), (0, v2L4), (0, (v3L4 + 1)), (2, v7)]) (st' := []) (by decide +kernel) rfl ?_
              exact IHL4 ((1000 - (v3L4 + 1))).toNat (by omega) v2L4 (v3L4 + 1) (2, v7) rfl (by omega) (by omega)
            · refine zwW_p [(1, 2, 0), (0, 1, 0), (1, 3, 0)] (q := 58) (ls' := [(2, 1), (0, a), (0, v2L4), (0, v3L4), (2, v7)]) (st' := [(0, v3L4), (0, 1), (0, v2L4)]) (by decide +kernel) rfl ?_
              refine zwW_any2 (a := 8) (nx := 59) (by decide +kernel) rfl (by first | omega | exact ⟨by omega, by omega⟩) (Or.inr (by first | decide | exact ⟨by decide, by decide⟩)) ?_
              intro v12 lv12 uv12
              refine zwW_any2 (a := 6) (nx := 60) (by decide +kernel) rfl (by first | omega | exact ⟨by omega, by omega⟩) (Or.inr (by first | decide | exact ⟨by decide, by decide⟩)) ?_
              intro v13 lv13 uv13
              refine zwW_p [(2, 2, 0)] (q := 61) (ls' := [(2, 1), (0, a), (0, v13), (0, v3L4), (2, v7)]) (st' := []) (by decide +kernel) rfl ?_
              refine zwW_inc (i := 3) (c := 1) (x := v3L4) (nx := 64) (by decide +kernel) rfl (by first | omega | exact ⟨by omega, by omega⟩) (ls' := [(2, 1), (0, a), (0, v13), (0, (v3L4 + 1)), (2, v7)]) rfl ?_
              refine zwW_p [(24, 16, 0)] (q := 16) (ls' := [(2, 1), (0, a), (0, v13), (0, (v3L4 + 1)), (2, v7)]) (st' := []) (by decide +kernel) rfl ?_
              exact IHL4 ((1000 - (v3L4 + 1))).toNat (by omega) v13 (v3L4 + 1) (2, v7) rfl (by omega) (by omega)
      exact L4 _ 0 0 (9, 0) rfl (by omega) (by omega)
    · exfalso; omega
def msx77 : Zms := [(17, 17, 0, 13), (18, 18, 0, 400)]
-- WheelLand.keeps(II)I
theorem x77 {sc : List Int} (h : Hp) (C : CI h) (a b : Int) (q_a : -2147483648 ≤ a ∧ a ≤ 2147483647) (q_b : -2147483648 ≤ b ∧ b ≤ 2147483647) : zwC sc 6 77 [(2, 1), (0, a), (0, b)] h (zwRt 0 (fun x g => CI g ∧ zXR msx77 (0) (0) h g ∧ (-2147483648 ≤ x ∧ x ≤ 2147483647))) := by
  refine zwC_of (D := 5) 5 (by decide +kernel) rfl (ls := [(2, 1), (0, a), (0, b), (9, 0), (9, 0)]) rfl ?_
  have X : zXR msx77 0 0 h h := zXR.rf _ _
  refine zwW_p [(1, 0, 2), (1, 1, 0)] (q := 2) (ls' := [(2, 1), (0, a), (0, b), (9, 0), (9, 0)]) (st' := [(0, a), (2, 1)]) (by decide +kernel) rfl ?_
  refine zwW_cm C.1 (op := 60) (k' := 109) (n := 1) (kd := 12) (m := 13) (nx := 5) (r := 1) (tl := [(0, a)]) (st' := []) (by decide +kernel) rfl (by decide +kernel) rfl (x109 h C a (by omega)) ?_
  rintro v2 _ ⟨rfl, ⟨rfl, c1⟩ | ⟨Gv2, c1⟩⟩
  · refine zwW_p [(2, 3, 2), (1, 3, 2)] (q := 7) (ls' := [(2, 1), (0, a), (0, b), (2, 0), (9, 0)]) (st' := [(2, 0)]) (by decide +kernel) rfl ?_
    refine zwnu_eq (q := 30) (nx := 10) (by decide +kernel) (by decide) (fun c3 => ?_) (fun c3 => ?_)
    · refine zwW_p [(0, -1, 0)] (q := 31) (ls' := [(2, 1), (0, a), (0, b), (2, 0), (9, 0)]) (st' := [(0, -1)]) (by decide +kernel) rfl ?_
      refine zwW_ret (nx := 32) (a := 0) (b := 0) (by decide +kernel) rfl (Or.inl rfl) ?_
      exact ⟨C, X.le (by decide) (by decide), by omega⟩
    · exfalso; omega
  · have lv2 := Gv2.1
    have ev2 := c1.2.2
    refine zwW_p [(2, 3, 2), (1, 3, 2)] (q := 7) (ls' := [(2, 1), (0, a), (0, b), (2, v2), (9, 0)]) (st' := [(2, v2)]) (by decide +kernel) rfl ?_
    refine zwnu_eq (q := 30) (nx := 10) (by decide +kernel) (by omega) (fun c4 => ?_) (fun c4 => ?_)
    · exfalso; omega
    · refine zwW_p [(1, 2, 0), (0, 1, 0), (0, 99, 0)] (q := 14) (ls' := [(2, 1), (0, a), (0, b), (2, v2), (9, 0)]) (st' := [(0, 99), (0, 1), (0, b)]) (by decide +kernel) rfl ?_
      refine zwW_cs (k' := 98) (n := 3) (nx := 17) (as := [(0, b), (0, 1), (0, 99)]) (st' := []) (by decide +kernel) rfl (x98 h C b 1 99 (by omega) (by omega) (by omega)) rfl ?_
      rintro x _ ⟨rfl, ⟨rfl, c5⟩ | ⟨rfl, c5⟩⟩
      · refine zwif_ne (q := 30) (nx := 20) (by decide +kernel) (fun c6 => ?_) (fun c6 => ?_)
        · refine zwW_p [(0, -1, 0)] (q := 31) (ls' := [(2, 1), (0, a), (0, b), (2, v2), (9, 0)]) (st' := [(0, -1)]) (by decide +kernel) rfl ?_
          refine zwW_ret (nx := 32) (a := 0) (b := 0) (by decide +kernel) rfl (Or.inl rfl) ?_
          exact ⟨C, X.le (by decide) (by decide), by omega⟩
        · exfalso; omega
      · refine zwif_ne (q := 30) (nx := 20) (by decide +kernel) (fun c7 => ?_) (fun c7 => ?_)
        · exfalso; omega
        · refine zwW_p [(1, 0, 2)] (q := 21) (ls' := [(2, 1), (0, a), (0, b), (2, v2), (9, 0)]) (st' := [(2, 1)]) (by decide +kernel) rfl ?_
          refine zwW_gs C.1 (kd := 12) (bn := 0) (n := 13) (t := 0) (lo := 0) (hi := 156) (nx := 24) (by decide +kernel) ?_
          intro v8 ev8 lv8 uv8
          refine zwW_p [(0, 156, 0)] (q := 27) (ls' := [(2, 1), (0, a), (0, b), (2, v2), (9, 0)]) (st' := [(0, 156), (0, v8)]) (by decide +kernel) rfl ?_
          refine zwic_lt (q := 32) (nx := 30) (by decide +kernel) (fun c9 => ?_) (fun c9 => ?_)
          · refine zwW_p [(1, 0, 2)] (q := 33) (ls' := [(2, 1), (0, a), (0, b), (2, v2), (9, 0)]) (st' := [(2, 1)]) (by decide +kernel) rfl ?_
            refine zwW_gc C.1 (kd := 12) (bn := 8) (n := 13) (c := 13) (nx := 36) (by decide +kernel) ?_
            refine zwW_p [(1, 0, 2)] (q := 37) (ls' := [(2, 1), (0, a), (0, b), (2, v2), (9, 0)]) (st' := [(2, 1), (2, 13)]) (by decide +kernel) rfl ?_
            refine zwW_gs C.1 (kd := 12) (bn := 0) (n := 13) (t := 0) (lo := 0) (hi := 156) (nx := 40) (by decide +kernel) ?_
            intro v10 ev10 lv10 uv10
            refine zwW_cmv C.1 (op := 60) (k' := 166) (n := 1) (kd := 9) (m := 6) (nx := 43) (r := 13) (tl := [(0, v10)]) (st' := []) (by decide +kernel) rfl (by decide +kernel) rfl (x166 h C v10 (by omega) (by omega)) ?_
            rintro h11 ⟨Ch11, Qh11⟩
            have Xh11 : zXR msx77 (0) (0) h h11 := X.tr (c2 := 0) (s2 := 0) Qh11 (by decide +kernel) (by decide) (by decide)
            have Gh11_0 : gH h11 v2 := Gv2.x Qh11
            refine zwW_p [(1, 0, 2)] (q := 44) (ls' := [(2, 1), (0, a), (0, b), (2, v2), (9, 0)]) (st' := [(2, 1)]) (by decide +kernel) rfl ?_
            refine zwW_gc Ch11.1 (kd := 12) (bn := 8) (n := 13) (c := 13) (nx := 47) (by decide +kernel) ?_
            refine zwW_p [(1, 3, 2), (1, 0, 2)] (q := 49) (ls' := [(2, 1), (0, a), (0, b), (2, v2), (9, 0)]) (st' := [(2, 1), (2, v2), (2, 13)]) (by decide +kernel) rfl ?_
            refine zwW_gs Ch11.1 (kd := 12) (bn := 0) (n := 13) (t := 0) (lo := 0) (hi := 156) (nx := 52) (by decide +kernel) ?_
            intro v12 ev12 lv12 uv12
            refine zwW_cs (k' := 162) (n := 1) (nx := 55) (as := [(0, v12)]) (st' := [(2, v2), (2, 13)]) (by decide +kernel) rfl (x162 h11 Ch11 v12 (by omega) (by omega)) rfl ?_
            rintro v13 _ ⟨rfl, f14, f15, f16⟩
            refine zwW_cmv Ch11.1 (op := 60) (k' := 167) (n := 2) (kd := 9) (m := 6) (nx := 58) (r := 13) (tl := [(2, v2), (0, v13)]) (st' := []) (by decide +kernel) rfl (by decide +kernel) rfl (x167 h11 Ch11 v2 v13 Gh11_0 (by omega)) ?_
            rintro h17 ⟨Ch17, Qh17⟩
            have Xh17 : zXR msx77 (0) (0) h h17 := Xh11.tr (c2 := 0) (s2 := 0) Qh17 (by decide +kernel) (by decide) (by decide)
            have Gh17_0 : gH h17 v2 := Gh11_0.x Qh17
            refine zwW_p [(1, 0, 2)] (q := 59) (ls' := [(2, 1), (0, a), (0, b), (2, v2), (9, 0)]) (st' := [(2, 1)]) (by decide +kernel) rfl ?_
            refine zwW_gc Ch17.1 (kd := 12) (bn := 8) (n := 13) (c := 13) (nx := 62) (by decide +kernel) ?_
            refine zwW_p [(1, 3, 2)] (q := 63) (ls' := [(2, 1), (0, a), (0, b), (2, v2), (9, 0)]) (st' := [(2, v2), (2, 13)]) (by decide +kernel) rfl ?_
            refine zwX_gi Ch17 (kd := 4) (bn := 4) (n := 19) (nx := 66) (by decide +kernel) Gh17_0.2.1 Gh17_0.1 rfl ?_
            intro v18 ev18 lv18 uv18
            refine zwW_p [(0, 0, 0)] (q := 67) (ls' := [(2, 1), (0, a), (0, b), (2, v2), (9, 0)]) (st' := [(0, 0), (0, v18), (2, 13)]) (by decide +kernel) rfl ?_
            refine zwW_cmv Ch17.1 (op := 60) (k' := 168) (n := 2) (kd := 9) (m := 6) (nx := 70) (r := 13) (tl := [(0, v18), (0, 0)]) (st' := []) (by decide +kernel) rfl (by decide +kernel) rfl (x168 h17 Ch17 v18 0 (by omega) (by omega)) ?_
            rintro h19 ⟨Ch19, Qh19⟩
            have Xh19 : zXR msx77 (0) (0) h h19 := Xh17.tr (c2 := 0) (s2 := 0) Qh19 (by decide +kernel) (by decide) (by decide)
            have Gh19_0 : gH h19 v2 := Gh17_0.x Qh19
            refine zwW_p [(1, 0, 2)] (q := 71) (ls' := [(2, 1), (0, a), (0, b), (2, v2), (9, 0)]) (st' := [(2, 1)]) (by decide +kernel) rfl ?_
            refine zwW_gc Ch19.1 (kd := 12) (bn := 8) (n := 13) (c := 13) (nx := 74) (by decide +kernel) ?_
            refine zwW_p [(1, 3, 2)] (q := 75) (ls' := [(2, 1), (0, a), (0, b), (2, v2), (9, 0)]) (st' := [(2, v2), (2, 13)]) (by decide +kernel) rfl ?_
            refine zwX_gi Ch19 (kd := 4) (bn := 7) (n := 19) (nx := 78) (by decide +kernel) Gh19_0.2.1 Gh19_0.1 rfl ?_
            intro v20 ev20 lv20 uv20
            refine zwW_p [(1, 3, 2)] (q := 79) (ls' := [(2, 1), (0, a), (0, b), (2, v2), (9, 0)]) (st' := [(2, v2), (0, v20), (2, 13)]) (by decide +kernel) rfl ?_
            refine zwW_cv (op := 60) (k' := 169) (n := 0) (kd := 4) (m := 19) (nx := 82) (r := v2) (tl := []) (st' := [(0, v20), (2, 13)]) (by decide +kernel) rfl (by decide +kernel) Gh19_0.2.1 (x169 h19 Ch19 v2 Gh19_0) rfl ?_
            rintro v21 _ ⟨rfl, f22⟩
            refine zwW_p [(1, 0, 2), (1, 3, 2)] (q := 84) (ls' := [(2, 1), (0, a), (0, b), (2, v2), (9, 0)]) (st' := [(2, v2), (2, 1), (0, v21), (0, v20), (2, 13)]) (by decide +kernel) rfl ?_
            refine zwW_cm Ch19.1 (op := 60) (k' := 170) (n := 1) (kd := 12) (m := 13) (nx := 87) (r := 1) (tl := [(2, v2)]) (st' := [(0, v21), (0, v20), (2, 13)]) (by decide +kernel) rfl (by decide +kernel) rfl (x170 h19 Ch19 v2 Gh19_0) ?_
            rintro v23 _ ⟨rfl, f24, f25⟩
            refine zwW_cmv Ch19.1 (op := 60) (k' := 171) (n := 3) (kd := 9) (m := 6) (nx := 90) (r := 13) (tl := [(0, v20), (0, v21), (0, v23)]) (st' := []) (by decide +kernel) rfl (by decide +kernel) rfl (x171 h19 Ch19 v20 v21 v23 (by omega) (by omega) (by omega)) ?_
            rintro h26 ⟨Ch26, Qh26⟩
            have Xh26 : zXR msx77 (0) (0) h h26 := Xh19.tr (c2 := 0) (s2 := 0) Qh26 (by decide +kernel) (by decide) (by decide)
            have Gh26_0 : gH h26 v2 := Gh19_0.x Qh26
            refine zwW_p [(1, 0, 2)] (q := 91) (ls' := [(2, 1), (0, a), (0, b), (2, v2), (9, 0)]) (st' := [(2, 1)]) (by decide +kernel) rfl ?_
            refine zwW_gc Ch26.1 (kd := 12) (bn := 8) (n := 13) (c := 13) (nx := 94) (by decide +kernel) ?_
            refine zwW_p [(0, 1, 0), (1, 0, 2)] (q := 96) (ls' := [(2, 1), (0, a), (0, b), (2, v2), (9, 0)]) (st' := [(2, 1), (0, 1), (2, 13)]) (by decide +kernel) rfl ?_
            refine zwW_gs Ch26.1 (kd := 12) (bn := 0) (n := 13) (t := 0) (lo := 0) (hi := 156) (nx := 99) (by decide +kernel) ?_
            intro v27 ev27 lv27 uv27
            refine zwW_cm Ch26.1 (op := 60) (k' := 172) (n := 2) (kd := 9) (m := 6) (nx := 102) (r := 13) (tl := [(0, 1), (0, v27)]) (st' := []) (by decide +kernel) rfl (by decide +kernel) rfl (x172 h26 Ch26 1 v27 (by omega) (by omega)) ?_
            rintro v29 h30 ⟨Ch30, Qh30, f28⟩
            have Xh30 : zXR msx77 (0) (0) h h30 := Xh26.tr (c2 := 0) (s2 := 0) Qh30 (by decide +kernel) (by decide) (by decide)
            have Gh30_0 : gH h30 v2 := Gh26_0.x Qh30
            refine zwW_p [(0, 0, 0)] (q := 103) (ls' := [(2, 1), (0, a), (0, b), (2, v2), (9, 0)]) (st' := [(0, 0), (0, v29)]) (by decide +kernel) rfl ?_
            refine zwW_max (nx := 106) (by decide +kernel) rfl ?_
            intro v31 ev31
            refine zwW_p [(2, 4, 0), (1, 4, 0), (1, 3, 2)] (q := 111) (ls' := [(2, 1), (0, a), (0, b), (2, v2), (0, v31)]) (st' := [(2, v2), (0, v31)]) (by decide +kernel) rfl ?_
            refine zwX_gi Ch30 (kd := 4) (bn := 5) (n := 19) (nx := 114) (by decide +kernel) Gh30_0.2.1 Gh30_0.1 rfl ?_
            intro v32 ev32 lv32 uv32
            refine zwW_p [(1, 2, 0)] (q := 115) (ls' := [(2, 1), (0, a), (0, b), (2, v2), (0, v31)]) (st' := [(0, b), (0, v32), (0, v31)]) (by decide +kernel) rfl ?_
            refine zwW_mlw (nx := 116) (by decide +kernel) ?_
            intro v33 ev33 lv33 uv33
            have Ev33 : v33 = w32 ((fld h30 v2 5) * b) := by rw [ev33, ev32]
            refine zwW_cs (k' := 173) (n := 2) (nx := 119) (as := [(0, v31), (0, v33)]) (st' := []) (by decide +kernel) rfl (x173 h30 Ch30 v31 v33 (by omega) (by omega)) rfl ?_
            rintro v34 _ ⟨rfl, f35⟩
            refine zwW_ret (nx := 120) (a := 0) (b := 0) (by decide +kernel) rfl (Or.inl rfl) ?_
            exact ⟨Ch30, Xh30.le (by decide) (by decide), by omega⟩
          · refine zwW_p [(0, -1, 0)] (q := 31) (ls' := [(2, 1), (0, a), (0, b), (2, v2), (9, 0)]) (st' := [(0, -1)]) (by decide +kernel) rfl ?_
            refine zwW_ret (nx := 32) (a := 0) (b := 0) (by decide +kernel) rfl (Or.inl rfl) ?_
            exact ⟨C, X.le (by decide) (by decide), by omega⟩
-- WheelLand.told(II)I
theorem x79 {sc : List Int} (h : Hp) (C : CI h) (a b : Int) (q_a : -2147483648 ≤ a ∧ a ≤ 2147483647) (q_b : -2147483648 ≤ b ∧ b ≤ 2147483647) : zwC sc 2 79 [(2, 1), (0, a), (0, b)] h (zwRt 0 (fun x g => h = g ∧ (-2147483648 ≤ x ∧ x ≤ 2147483647))) := by
  refine zwC_of (D := 1) 3 (by decide +kernel) rfl (ls := [(2, 1), (0, a), (0, b)]) rfl ?_
  refine zwW_p [(1, 1, 0), (0, 0, 0), (1, 0, 2)] (q := 3) (ls' := [(2, 1), (0, a), (0, b)]) (st' := [(2, 1), (0, 0), (0, a)]) (by decide +kernel) rfl ?_
  refine zwW_gs C.1 (kd := 12) (bn := 0) (n := 13) (t := 0) (lo := 0) (hi := 156) (nx := 6) (by decide +kernel) ?_
  intro v1 ev1 lv1 uv1
  refine zwW_p [(0, 1, 0)] (q := 7) (ls' := [(2, 1), (0, a), (0, b)]) (st' := [(0, 1), (0, v1), (0, 0), (0, a)]) (by decide +kernel) rfl ?_
  refine zwW_sub (nx := 8) (by decide +kernel) (by first | omega | exact ⟨by omega, by omega⟩) ?_
  refine zwW_cs (k' := 98) (n := 3) (nx := 11) (as := [(0, a), (0, 0), (0, (v1 - 1))]) (st' := []) (by decide +kernel) rfl (x98 h C a 0 (v1 - 1) (by omega) (by omega) (by omega)) rfl ?_
  rintro x _ ⟨rfl, ⟨rfl, c2⟩ | ⟨rfl, c2⟩⟩
  · refine zwif_ne (q := 23) (nx := 14) (by decide +kernel) (fun c3 => ?_) (fun c3 => ?_)
    · refine zwW_p [(0, -1, 0)] (q := 24) (ls' := [(2, 1), (0, a), (0, b)]) (st' := [(0, -1)]) (by decide +kernel) rfl ?_
      refine zwW_ret (nx := 25) (a := 0) (b := 0) (by decide +kernel) rfl (Or.inl rfl) ?_
      exact ⟨rfl, by omega⟩
    · exfalso; omega
  · refine zwif_ne (q := 23) (nx := 14) (by decide +kernel) (fun c4 => ?_) (fun c4 => ?_)
    · exfalso; omega
    · refine zwW_p [(1, 2, 0), (0, 0, 0), (0, 5, 0)] (q := 17) (ls' := [(2, 1), (0, a), (0, b)]) (st' := [(0, 5), (0, 0), (0, b)]) (by decide +kernel) rfl ?_
      refine zwW_cs (k' := 98) (n := 3) (nx := 20) (as := [(0, b), (0, 0), (0, 5)]) (st' := []) (by decide +kernel) rfl (x98 h C b 0 5 (by omega) (by omega) (by omega)) rfl ?_
      rintro x _ ⟨rfl, ⟨rfl, c5⟩ | ⟨rfl, c5⟩⟩
      · refine zwif_eq (q := 25) (nx := 23) (by decide +kernel) (fun c6 => ?_) (fun c6 => ?_)
        · exfalso; omega
        · refine zwW_p [(0, -1, 0)] (q := 24) (ls' := [(2, 1), (0, a), (0, b)]) (st' := [(0, -1)]) (by decide +kernel) rfl ?_
          refine zwW_ret (nx := 25) (a := 0) (b := 0) (by decide +kernel) rfl (Or.inl rfl) ?_
          exact ⟨rfl, by omega⟩
      · refine zwif_eq (q := 25) (nx := 23) (by decide +kernel) (fun c7 => ?_) (fun c7 => ?_)
        · refine zwW_p [(1, 0, 2)] (q := 26) (ls' := [(2, 1), (0, a), (0, b)]) (st' := [(2, 1)]) (by decide +kernel) rfl ?_
          refine zwW_gc C.1 (kd := 12) (bn := 11) (n := 13) (c := 34) (nx := 29) (by decide +kernel) ?_
          refine zwW_p [(1, 1, 0), (1, 2, 0)] (q := 31) (ls' := [(2, 1), (0, a), (0, b)]) (st' := [(0, b), (0, a), (2, 34)]) (by decide +kernel) rfl ?_
          refine zwW_cm C.1 (op := 60) (k' := 177) (n := 2) (kd := 5) (m := 4) (nx := 34) (r := 34) (tl := [(0, a), (0, b)]) (st' := []) (by decide +kernel) rfl (by decide +kernel) rfl (x177 h C a b (by omega) (by omega)) ?_
          rintro v8 _ ⟨rfl, f9⟩
          refine zwW_ret (nx := 35) (a := 0) (b := 0) (by decide +kernel) rfl (Or.inl rfl) ?_
          exact ⟨rfl, by omega⟩
        · exfalso; omega
-- WheelLand.check(III)I
theorem x81 {sc : List Int} (h : Hp) (C : CI h) (a b c : Int) (q_a : -2147483648 ≤ a ∧ a ≤ 2147483647) (q_b : -2147483648 ≤ b ∧ b ≤ 2147483647) (q_c : -2147483648 ≤ c ∧ c ≤ 2147483647) : zwC sc 4 81 [(2, 1), (0, a), (0, b), (0, c)] h (zwRt 0 (fun x g => h = g ∧ (-2147483648 ≤ x ∧ x ≤ 2147483647))) := by
  refine zwC_of (D := 3) 4 (by decide +kernel) rfl (ls := [(2, 1), (0, a), (0, b), (0, c)]) rfl ?_
  refine zwW_p [(1, 1, 0), (0, 0, 0), (1, 0, 2)] (q := 3) (ls' := [(2, 1), (0, a), (0, b), (0, c)]) (st' := [(2, 1), (0, 0), (0, a)]) (by decide +kernel) rfl ?_
  refine zwW_gs C.1 (kd := 12) (bn := 0) (n := 13) (t := 0) (lo := 0) (hi := 156) (nx := 6) (by decide +kernel) ?_
  intro v1 ev1 lv1 uv1
  refine zwW_p [(0, 1, 0)] (q := 7) (ls' := [(2, 1), (0, a), (0, b), (0, c)]) (st' := [(0, 1), (0, v1), (0, 0), (0, a)]) (by decide +kernel) rfl ?_
  refine zwW_sub (nx := 8) (by decide +kernel) (by first | omega | exact ⟨by omega, by omega⟩) ?_
  refine zwW_cs (k' := 98) (n := 3) (nx := 11) (as := [(0, a), (0, 0), (0, (v1 - 1))]) (st' := []) (by decide +kernel) rfl (x98 h C a 0 (v1 - 1) (by omega) (by omega) (by omega)) rfl ?_
  rintro x _ ⟨rfl, ⟨rfl, c2⟩ | ⟨rfl, c2⟩⟩
  · refine zwif_ne (q := 23) (nx := 14) (by decide +kernel) (fun c3 => ?_) (fun c3 => ?_)
    · refine zwW_p [(0, -1, 0)] (q := 24) (ls' := [(2, 1), (0, a), (0, b), (0, c)]) (st' := [(0, -1)]) (by decide +kernel) rfl ?_
      refine zwW_ret (nx := 25) (a := 0) (b := 0) (by decide +kernel) rfl (Or.inl rfl) ?_
      exact ⟨rfl, by omega⟩
    · exfalso; omega
  · refine zwif_ne (q := 23) (nx := 14) (by decide +kernel) (fun c4 => ?_) (fun c4 => ?_)
    · exfalso; omega
    · refine zwW_p [(1, 2, 0), (0, 0, 0), (0, 5, 0)] (q := 17) (ls' := [(2, 1), (0, a), (0, b), (0, c)]) (st' := [(0, 5), (0, 0), (0, b)]) (by decide +kernel) rfl ?_
      refine zwW_cs (k' := 98) (n := 3) (nx := 20) (as := [(0, b), (0, 0), (0, 5)]) (st' := []) (by decide +kernel) rfl (x98 h C b 0 5 (by omega) (by omega) (by omega)) rfl ?_
      rintro x _ ⟨rfl, ⟨rfl, c5⟩ | ⟨rfl, c5⟩⟩
      · refine zwif_eq (q := 25) (nx := 23) (by decide +kernel) (fun c6 => ?_) (fun c6 => ?_)
        · exfalso; omega
        · refine zwW_p [(0, -1, 0)] (q := 24) (ls' := [(2, 1), (0, a), (0, b), (0, c)]) (st' := [(0, -1)]) (by decide +kernel) rfl ?_
          refine zwW_ret (nx := 25) (a := 0) (b := 0) (by decide +kernel) rfl (Or.inl rfl) ?_
          exact ⟨rfl, by omega⟩
      · refine zwif_eq (q := 25) (nx := 23) (by decide +kernel) (fun c7 => ?_) (fun c7 => ?_)
        · refine zwW_p [(1, 0, 2)] (q := 26) (ls' := [(2, 1), (0, a), (0, b), (0, c)]) (st' := [(2, 1)]) (by decide +kernel) rfl ?_
          refine zwW_gc C.1 (kd := 12) (bn := 11) (n := 13) (c := 34) (nx := 29) (by decide +kernel) ?_
          refine zwW_p [(1, 1, 0), (1, 2, 0), (1, 3, 0)] (q := 32) (ls' := [(2, 1), (0, a), (0, b), (0, c)]) (st' := [(0, c), (0, b), (0, a), (2, 34)]) (by decide +kernel) rfl ?_
          refine zwW_cm C.1 (op := 60) (k' := 178) (n := 3) (kd := 5) (m := 4) (nx := 35) (r := 34) (tl := [(0, a), (0, b), (0, c)]) (st' := []) (by decide +kernel) rfl (by decide +kernel) rfl (x178 h C a b c (by omega) (by omega) (by omega)) ?_
          rintro v8 _ ⟨rfl, f9⟩
          refine zwW_ret (nx := 36) (a := 0) (b := 0) (by decide +kernel) rfl (Or.inl rfl) ?_
          exact ⟨rfl, by omega⟩
        · exfalso; omega
-- WheelLand.is(II)I
theorem x83 {sc : List Int} (h : Hp) (C : CI h) (a b : Int) (q_a : -2147483648 ≤ a ∧ a ≤ 2147483647) (q_b : -2147483648 ≤ b ∧ b ≤ 2147483647) : zwC sc 6 83 [(2, 1), (0, a), (0, b)] h (zwRt 0 (fun x g => h = g ∧ (-2147483648 ≤ x ∧ x ≤ 2147483647))) := by
  refine zwC_of (D := 5) 4 (by decide +kernel) rfl (ls := [(2, 1), (0, a), (0, b), (9, 0)]) rfl ?_
  refine zwW_p [(1, 0, 2), (1, 1, 0)] (q := 2) (ls' := [(2, 1), (0, a), (0, b), (9, 0)]) (st' := [(0, a), (2, 1)]) (by decide +kernel) rfl ?_
  refine zwW_cm C.1 (op := 60) (k' := 102) (n := 1) (kd := 12) (m := 13) (nx := 5) (r := 1) (tl := [(0, a)]) (st' := []) (by decide +kernel) rfl (by decide +kernel) rfl (x102 h C a (by omega)) ?_
  rintro v2 _ ⟨rfl, ⟨rfl, c1⟩ | ⟨Gv2, c1⟩⟩
  · refine zwW_p [(2, 3, 2), (1, 3, 2)] (q := 7) (ls' := [(2, 1), (0, a), (0, b), (2, 0)]) (st' := [(2, 0)]) (by decide +kernel) rfl ?_
    refine zwnu_ne (q := 12) (nx := 10) (by decide +kernel) (by decide) (fun c3 => ?_) (fun c3 => ?_)
    · exfalso; omega
    · refine zwW_p [(0, -1, 0)] (q := 11) (ls' := [(2, 1), (0, a), (0, b), (2, 0)]) (st' := [(0, -1)]) (by decide +kernel) rfl ?_
      refine zwW_ret (nx := 12) (a := 0) (b := 0) (by decide +kernel) rfl (Or.inl rfl) ?_
      exact ⟨rfl, by omega⟩
  · have lv2 := Gv2.1
    have ev2 := c1.2.2
    refine zwW_p [(2, 3, 2), (1, 3, 2)] (q := 7) (ls' := [(2, 1), (0, a), (0, b), (2, v2)]) (st' := [(2, v2)]) (by decide +kernel) rfl ?_
    refine zwnu_ne (q := 12) (nx := 10) (by decide +kernel) (by omega) (fun c4 => ?_) (fun c4 => ?_)
    · refine zwW_p [(1, 2, 0)] (q := 13) (ls' := [(2, 1), (0, a), (0, b), (2, v2)]) (st' := [(0, b)]) (by decide +kernel) rfl ?_
      refine zwW_sw (d := 127) (os := [0, 72, 1, 77, 2, 82, 3, 87, 4, 92, 5, 97, 6, 102, 7, 107, 8, 112, 9, 117, 10, 122]) (by decide +kernel) ?_
      refine ⟨fun c5 => ?_, fun c5 => ?_⟩
      · show zwW _ _ _ 72 _ _ _ _
        refine zwW_p [(1, 3, 2)] (q := 73) (ls' := [(2, 1), (0, a), (0, b), (2, v2)]) (st' := [(2, v2)]) (by decide +kernel) rfl ?_
        refine zwX_gi C (kd := 11) (bn := 3) (n := 17) (nx := 76) (by decide +kernel) Gv2.2.1 Gv2.1 rfl ?_
        intro v6 ev6 lv6 uv6
        refine zwW_ret (nx := 77) (a := 0) (b := 0) (by decide +kernel) rfl (Or.inl rfl) ?_
        exact ⟨rfl, by omega⟩
      refine ⟨fun c7 => ?_, fun c7 => ?_⟩
      · show zwW _ _ _ 77 _ _ _ _
        refine zwW_p [(1, 3, 2)] (q := 78) (ls' := [(2, 1), (0, a), (0, b), (2, v2)]) (st' := [(2, v2)]) (by decide +kernel) rfl ?_
        refine zwX_gi C (kd := 11) (bn := 5) (n := 17) (nx := 81) (by decide +kernel) Gv2.2.1 Gv2.1 rfl ?_
        intro v8 ev8 lv8 uv8
        refine zwW_ret (nx := 82) (a := 0) (b := 0) (by decide +kernel) rfl (Or.inl rfl) ?_
        exact ⟨rfl, by omega⟩
      refine ⟨fun c9 => ?_, fun c9 => ?_⟩
      · show zwW _ _ _ 82 _ _ _ _
        refine zwW_p [(1, 3, 2)] (q := 83) (ls' := [(2, 1), (0, a), (0, b), (2, v2)]) (st' := [(2, v2)]) (by decide +kernel) rfl ?_
        refine zwX_gi C (kd := 11) (bn := 6) (n := 17) (nx := 86) (by decide +kernel) Gv2.2.1 Gv2.1 rfl ?_
        intro v10 ev10 lv10 uv10
        refine zwW_ret (nx := 87) (a := 0) (b := 0) (by decide +kernel) rfl (Or.inl rfl) ?_
        exact ⟨rfl, by omega⟩
      refine ⟨fun c11 => ?_, fun c11 => ?_⟩
      · show zwW _ _ _ 87 _ _ _ _
        refine zwW_p [(1, 3, 2)] (q := 88) (ls' := [(2, 1), (0, a), (0, b), (2, v2)]) (st' := [(2, v2)]) (by decide +kernel) rfl ?_
        refine zwX_gi C (kd := 11) (bn := 7) (n := 17) (nx := 91) (by decide +kernel) Gv2.2.1 Gv2.1 rfl ?_
        intro v12 ev12 lv12 uv12
        refine zwW_ret (nx := 92) (a := 0) (b := 0) (by decide +kernel) rfl (Or.inl rfl) ?_
        exact ⟨rfl, by omega⟩
      refine ⟨fun c13 => ?_, fun c13 => ?_⟩
      · show zwW _ _ _ 92 _ _ _ _
        refine zwW_p [(1, 3, 2)] (q := 93) (ls' := [(2, 1), (0, a), (0, b), (2, v2)]) (st' := [(2, v2)]) (by decide +kernel) rfl ?_
        refine zwX_gi C (kd := 11) (bn := 8) (n := 17) (nx := 96) (by decide +kernel) Gv2.2.1 Gv2.1 rfl ?_
        intro v14 ev14 lv14 uv14
        refine zwW_ret (nx := 97) (a := 0) (b := 0) (by decide +kernel) rfl (Or.inl rfl) ?_
        exact ⟨rfl, by omega⟩
      refine ⟨fun c15 => ?_, fun c15 => ?_⟩
      · show zwW _ _ _ 97 _ _ _ _
        refine zwW_p [(1, 3, 2)] (q := 98) (ls' := [(2, 1), (0, a), (0, b), (2, v2)]) (st' := [(2, v2)]) (by decide +kernel) rfl ?_
        refine zwX_gi C (kd := 11) (bn := 9) (n := 17) (nx := 101) (by decide +kernel) Gv2.2.1 Gv2.1 rfl ?_
        intro v16 ev16 lv16 uv16
        refine zwW_ret (nx := 102) (a := 0) (b := 0) (by decide +kernel) rfl (Or.inl rfl) ?_
        exact ⟨rfl, by omega⟩
      refine ⟨fun c17 => ?_, fun c17 => ?_⟩
      · show zwW _ _ _ 102 _ _ _ _
        refine zwW_p [(1, 3, 2)] (q := 103) (ls' := [(2, 1), (0, a), (0, b), (2, v2)]) (st' := [(2, v2)]) (by decide +kernel) rfl ?_
        refine zwX_gi C (kd := 11) (bn := 4) (n := 17) (nx := 106) (by decide +kernel) Gv2.2.1 Gv2.1 rfl ?_
        intro v18 ev18 lv18 uv18
        refine zwW_ret (nx := 107) (a := 0) (b := 0) (by decide +kernel) rfl (Or.inl rfl) ?_
        exact ⟨rfl, by omega⟩
      refine ⟨fun c19 => ?_, fun c19 => ?_⟩
      · show zwW _ _ _ 107 _ _ _ _
        refine zwW_p [(1, 3, 2)] (q := 108) (ls' := [(2, 1), (0, a), (0, b), (2, v2)]) (st' := [(2, v2)]) (by decide +kernel) rfl ?_
        refine zwX_gi C (kd := 11) (bn := 10) (n := 17) (nx := 111) (by decide +kernel) Gv2.2.1 Gv2.1 rfl ?_
        intro v20 ev20 lv20 uv20
        refine zwW_ret (nx := 112) (a := 0) (b := 0) (by decide +kernel) rfl (Or.inl rfl) ?_
        exact ⟨rfl, by omega⟩
      refine ⟨fun c21 => ?_, fun c21 => ?_⟩
      · show zwW _ _ _ 112 _ _ _ _
        refine zwW_p [(1, 3, 2)] (q := 113) (ls' := [(2, 1), (0, a), (0, b), (2, v2)]) (st' := [(2, v2)]) (by decide +kernel) rfl ?_
        refine zwX_gi C (kd := 11) (bn := 11) (n := 17) (nx := 116) (by decide +kernel) Gv2.2.1 Gv2.1 rfl ?_
        intro v22 ev22 lv22 uv22
        refine zwW_ret (nx := 117) (a := 0) (b := 0) (by decide +kernel) rfl (Or.inl rfl) ?_
        exact ⟨rfl, by omega⟩
      refine ⟨fun c23 => ?_, fun c23 => ?_⟩
      · show zwW _ _ _ 117 _ _ _ _
        refine zwW_p [(1, 3, 2)] (q := 118) (ls' := [(2, 1), (0, a), (0, b), (2, v2)]) (st' := [(2, v2)]) (by decide +kernel) rfl ?_
        refine zwX_gi C (kd := 11) (bn := 13) (n := 17) (nx := 121) (by decide +kernel) Gv2.2.1 Gv2.1 rfl ?_
        intro v24 ev24 lv24 uv24
        refine zwW_ret (nx := 122) (a := 0) (b := 0) (by decide +kernel) rfl (Or.inl rfl) ?_
        exact ⟨rfl, by omega⟩
      refine ⟨fun c25 => ?_, fun c25 => ?_⟩
      · show zwW _ _ _ 122 _ _ _ _
        refine zwW_p [(1, 3, 2)] (q := 123) (ls' := [(2, 1), (0, a), (0, b), (2, v2)]) (st' := [(2, v2)]) (by decide +kernel) rfl ?_
        refine zwX_gi C (kd := 11) (bn := 14) (n := 17) (nx := 126) (by decide +kernel) Gv2.2.1 Gv2.1 rfl ?_
        intro v26 ev26 lv26 uv26
        refine zwW_ret (nx := 127) (a := 0) (b := 0) (by decide +kernel) rfl (Or.inl rfl) ?_
        exact ⟨rfl, by omega⟩
      show zwW _ _ _ 127 _ _ _ _
      refine zwW_p [(0, -1, 0)] (q := 128) (ls' := [(2, 1), (0, a), (0, b), (2, v2)]) (st' := [(0, -1)]) (by decide +kernel) rfl ?_
      refine zwW_ret (nx := 129) (a := 0) (b := 0) (by decide +kernel) rfl (Or.inl rfl) ?_
      exact ⟨rfl, by omega⟩
    · exfalso; omega
-- WheelLand.has(II)I
theorem x85 {sc : List Int} (h : Hp) (C : CI h) (a b : Int) (q_a : -2147483648 ≤ a ∧ a ≤ 2147483647) (q_b : -2147483648 ≤ b ∧ b ≤ 2147483647) : zwC sc 6 85 [(2, 1), (0, a), (0, b)] h (zwRt 0 (fun x g => h = g ∧ (-2147483648 ≤ x ∧ x ≤ 2147483647))) := by
  refine zwC_of (D := 5) 4 (by decide +kernel) rfl (ls := [(2, 1), (0, a), (0, b), (9, 0)]) rfl ?_
  refine zwW_p [(1, 0, 2), (1, 1, 0)] (q := 2) (ls' := [(2, 1), (0, a), (0, b), (9, 0)]) (st' := [(0, a), (2, 1)]) (by decide +kernel) rfl ?_
  refine zwW_cm C.1 (op := 60) (k' := 109) (n := 1) (kd := 12) (m := 13) (nx := 5) (r := 1) (tl := [(0, a)]) (st' := []) (by decide +kernel) rfl (by decide +kernel) rfl (x109 h C a (by omega)) ?_
  rintro v2 _ ⟨rfl, ⟨rfl, c1⟩ | ⟨Gv2, c1⟩⟩
  · refine zwW_p [(2, 3, 2), (1, 3, 2)] (q := 7) (ls' := [(2, 1), (0, a), (0, b), (2, 0)]) (st' := [(2, 0)]) (by decide +kernel) rfl ?_
    refine zwnu_ne (q := 13) (nx := 10) (by decide +kernel) (by decide) (fun c3 => ?_) (fun c3 => ?_)
    · exfalso; omega
    · refine zwW_p [(0, -2147483648, 0)] (q := 12) (ls' := [(2, 1), (0, a), (0, b), (2, 0)]) (st' := [(0, -2147483648)]) (by decide +kernel) rfl ?_
      refine zwW_ret (nx := 13) (a := 0) (b := 0) (by decide +kernel) rfl (Or.inl rfl) ?_
      exact ⟨rfl, by omega⟩
  · have lv2 := Gv2.1
    have ev2 := c1.2.2
    refine zwW_p [(2, 3, 2), (1, 3, 2)] (q := 7) (ls' := [(2, 1), (0, a), (0, b), (2, v2)]) (st' := [(2, v2)]) (by decide +kernel) rfl ?_
    refine zwnu_ne (q := 13) (nx := 10) (by decide +kernel) (by omega) (fun c4 => ?_) (fun c4 => ?_)
    · refine zwW_p [(1, 2, 0)] (q := 14) (ls' := [(2, 1), (0, a), (0, b), (2, v2)]) (st' := [(0, b)]) (by decide +kernel) rfl ?_
      refine zwW_sw (d := 141) (os := [0, 72, 1, 80, 2, 85, 3, 90, 4, 95, 5, 100, 6, 105, 7, 110, 8, 115, 9, 120, 10, 125]) (by decide +kernel) ?_
      refine ⟨fun c5 => ?_, fun c5 => ?_⟩
      · show zwW _ _ _ 72 _ _ _ _
        refine zwW_p [(1, 3, 2)] (q := 73) (ls' := [(2, 1), (0, a), (0, b), (2, v2)]) (st' := [(2, v2)]) (by decide +kernel) rfl ?_
        refine zwW_get (kd := 4) (bn := 1) (t := 2) (n := 19) (nx := 76) (by decide +kernel) Gv2.2.1 rfl ?_
        obtain ⟨v6, ev6⟩ : ∃ z, z = fld h v2 1 := ⟨_, rfl⟩
        rw [← ev6]
        have Gv6 : gV h v6 := by rw [ev6]; exact Gv2.2.2
        have lv6 := Gv6.1
        refine zwX_gi C (kd := 11) (bn := 0) (n := 17) (nx := 79) (by decide +kernel) Gv6.2.1 Gv6.1 rfl ?_
        intro v7 ev7 lv7 uv7
        refine zwW_ret (nx := 80) (a := 0) (b := 0) (by decide +kernel) rfl (Or.inl rfl) ?_
        exact ⟨rfl, by omega⟩
      refine ⟨fun c8 => ?_, fun c8 => ?_⟩
      · show zwW _ _ _ 80 _ _ _ _
        refine zwW_p [(1, 3, 2)] (q := 81) (ls' := [(2, 1), (0, a), (0, b), (2, v2)]) (st' := [(2, v2)]) (by decide +kernel) rfl ?_
        refine zwX_gi C (kd := 4) (bn := 2) (n := 19) (nx := 84) (by decide +kernel) Gv2.2.1 Gv2.1 rfl ?_
        intro v9 ev9 lv9 uv9
        refine zwW_ret (nx := 85) (a := 0) (b := 0) (by decide +kernel) rfl (Or.inl rfl) ?_
        exact ⟨rfl, by omega⟩
      refine ⟨fun c10 => ?_, fun c10 => ?_⟩
      · show zwW _ _ _ 85 _ _ _ _
        refine zwW_p [(1, 3, 2)] (q := 86) (ls' := [(2, 1), (0, a), (0, b), (2, v2)]) (st' := [(2, v2)]) (by decide +kernel) rfl ?_
        refine zwX_gi C (kd := 4) (bn := 3) (n := 19) (nx := 89) (by decide +kernel) Gv2.2.1 Gv2.1 rfl ?_
        intro v11 ev11 lv11 uv11
        refine zwW_ret (nx := 90) (a := 0) (b := 0) (by decide +kernel) rfl (Or.inl rfl) ?_
        exact ⟨rfl, by omega⟩
      refine ⟨fun c12 => ?_, fun c12 => ?_⟩
      · show zwW _ _ _ 90 _ _ _ _
        refine zwW_p [(1, 3, 2)] (q := 91) (ls' := [(2, 1), (0, a), (0, b), (2, v2)]) (st' := [(2, v2)]) (by decide +kernel) rfl ?_
        refine zwX_gi C (kd := 4) (bn := 4) (n := 19) (nx := 94) (by decide +kernel) Gv2.2.1 Gv2.1 rfl ?_
        intro v13 ev13 lv13 uv13
        refine zwW_ret (nx := 95) (a := 0) (b := 0) (by decide +kernel) rfl (Or.inl rfl) ?_
        exact ⟨rfl, by omega⟩
      refine ⟨fun c14 => ?_, fun c14 => ?_⟩
      · show zwW _ _ _ 95 _ _ _ _
        refine zwW_p [(1, 3, 2)] (q := 96) (ls' := [(2, 1), (0, a), (0, b), (2, v2)]) (st' := [(2, v2)]) (by decide +kernel) rfl ?_
        refine zwX_gi C (kd := 4) (bn := 5) (n := 19) (nx := 99) (by decide +kernel) Gv2.2.1 Gv2.1 rfl ?_
        intro v15 ev15 lv15 uv15
        refine zwW_ret (nx := 100) (a := 0) (b := 0) (by decide +kernel) rfl (Or.inl rfl) ?_
        exact ⟨rfl, by omega⟩
      refine ⟨fun c16 => ?_, fun c16 => ?_⟩
      · show zwW _ _ _ 100 _ _ _ _
        refine zwW_p [(1, 3, 2)] (q := 101) (ls' := [(2, 1), (0, a), (0, b), (2, v2)]) (st' := [(2, v2)]) (by decide +kernel) rfl ?_
        refine zwX_gi C (kd := 4) (bn := 6) (n := 19) (nx := 104) (by decide +kernel) Gv2.2.1 Gv2.1 rfl ?_
        intro v17 ev17 lv17 uv17
        refine zwW_ret (nx := 105) (a := 0) (b := 0) (by decide +kernel) rfl (Or.inl rfl) ?_
        exact ⟨rfl, by omega⟩
      refine ⟨fun c18 => ?_, fun c18 => ?_⟩
      · show zwW _ _ _ 105 _ _ _ _
        refine zwW_p [(1, 3, 2)] (q := 106) (ls' := [(2, 1), (0, a), (0, b), (2, v2)]) (st' := [(2, v2)]) (by decide +kernel) rfl ?_
        refine zwX_gi C (kd := 4) (bn := 7) (n := 19) (nx := 109) (by decide +kernel) Gv2.2.1 Gv2.1 rfl ?_
        intro v19 ev19 lv19 uv19
        refine zwW_ret (nx := 110) (a := 0) (b := 0) (by decide +kernel) rfl (Or.inl rfl) ?_
        exact ⟨rfl, by omega⟩
      refine ⟨fun c20 => ?_, fun c20 => ?_⟩
      · show zwW _ _ _ 110 _ _ _ _
        refine zwW_p [(1, 3, 2)] (q := 111) (ls' := [(2, 1), (0, a), (0, b), (2, v2)]) (st' := [(2, v2)]) (by decide +kernel) rfl ?_
        refine zwX_gi C (kd := 4) (bn := 8) (n := 19) (nx := 114) (by decide +kernel) Gv2.2.1 Gv2.1 rfl ?_
        intro v21 ev21 lv21 uv21
        refine zwW_ret (nx := 115) (a := 0) (b := 0) (by decide +kernel) rfl (Or.inl rfl) ?_
        exact ⟨rfl, by omega⟩
      refine ⟨fun c22 => ?_, fun c22 => ?_⟩
      · show zwW _ _ _ 115 _ _ _ _
        refine zwW_p [(1, 3, 2)] (q := 116) (ls' := [(2, 1), (0, a), (0, b), (2, v2)]) (st' := [(2, v2)]) (by decide +kernel) rfl ?_
        refine zwX_gi C (kd := 4) (bn := 9) (n := 19) (nx := 119) (by decide +kernel) Gv2.2.1 Gv2.1 rfl ?_
        intro v23 ev23 lv23 uv23
        refine zwW_ret (nx := 120) (a := 0) (b := 0) (by decide +kernel) rfl (Or.inl rfl) ?_
        exact ⟨rfl, by omega⟩
      refine ⟨fun c24 => ?_, fun c24 => ?_⟩
      · show zwW _ _ _ 120 _ _ _ _
        refine zwW_p [(1, 3, 2)] (q := 121) (ls' := [(2, 1), (0, a), (0, b), (2, v2)]) (st' := [(2, v2)]) (by decide +kernel) rfl ?_
        refine zwX_gi C (kd := 4) (bn := 10) (n := 19) (nx := 124) (by decide +kernel) Gv2.2.1 Gv2.1 rfl ?_
        intro v25 ev25 lv25 uv25
        refine zwW_ret (nx := 125) (a := 0) (b := 0) (by decide +kernel) rfl (Or.inl rfl) ?_
        exact ⟨rfl, by omega⟩
      refine ⟨fun c26 => ?_, fun c26 => ?_⟩
      · show zwW _ _ _ 125 _ _ _ _
        refine zwW_p [(1, 3, 2)] (q := 126) (ls' := [(2, 1), (0, a), (0, b), (2, v2)]) (st' := [(2, v2)]) (by decide +kernel) rfl ?_
        refine zwW_cv (op := 60) (k' := 110) (n := 0) (kd := 4) (m := 19) (nx := 129) (r := v2) (tl := []) (st' := []) (by decide +kernel) rfl (by decide +kernel) Gv2.2.1 (x110 h C v2 Gv2) rfl ?_
        rintro x _ ⟨rfl, ⟨rfl, c27⟩ | ⟨rfl, c27⟩⟩
        · refine zwif_eq (q := 139) (nx := 132) (by decide +kernel) (fun c28 => ?_) (fun c28 => ?_)
          · exfalso; omega
          · refine zwW_p [(1, 3, 2)] (q := 133) (ls' := [(2, 1), (0, a), (0, b), (2, v2)]) (st' := [(2, v2)]) (by decide +kernel) rfl ?_
            refine zwX_gi C (kd := 4) (bn := 14) (n := 19) (nx := 136) (by decide +kernel) Gv2.2.1 Gv2.1 rfl ?_
            intro v29 ev29 lv29 uv29
            refine zwW_p [(24, 140, 0)] (q := 140) (ls' := [(2, 1), (0, a), (0, b), (2, v2)]) (st' := [(0, v29)]) (by decide +kernel) rfl ?_
            refine zwW_ret (nx := 141) (a := 0) (b := 0) (by decide +kernel) rfl (Or.inl rfl) ?_
            exact ⟨rfl, by omega⟩
        · refine zwif_eq (q := 139) (nx := 132) (by decide +kernel) (fun c30 => ?_) (fun c30 => ?_)
          · refine zwW_p [(0, -1, 0)] (q := 140) (ls' := [(2, 1), (0, a), (0, b), (2, v2)]) (st' := [(0, -1)]) (by decide +kernel) rfl ?_
            refine zwW_ret (nx := 141) (a := 0) (b := 0) (by decide +kernel) rfl (Or.inl rfl) ?_
            exact ⟨rfl, by omega⟩
          · exfalso; omega
      show zwW _ _ _ 141 _ _ _ _
      refine zwW_p [(0, -2147483648, 0)] (q := 143) (ls' := [(2, 1), (0, a), (0, b), (2, v2)]) (st' := [(0, -2147483648)]) (by decide +kernel) rfl ?_
      refine zwW_ret (nx := 144) (a := 0) (b := 0) (by decide +kernel) rfl (Or.inl rfl) ?_
      exact ⟨rfl, by omega⟩
    · exfalso; omega
-- WheelLand.count(I)I
theorem x87 {sc : List Int} (h : Hp) (C : CI h) (a : Int) (q_a : -2147483648 ≤ a ∧ a ≤ 2147483647) : zwC sc 2 87 [(2, 1), (0, a)] h (zwRt 0 (fun x g => h = g ∧ (-2147483648 ≤ x ∧ x ≤ 2147483647))) := by
  refine zwC_of (D := 1) 2 (by decide +kernel) rfl (ls := [(2, 1), (0, a)]) rfl ?_
  refine zwW_p [(1, 1, 0)] (q := 1) (ls' := [(2, 1), (0, a)]) (st' := [(0, a)]) (by decide +kernel) rfl ?_
  refine zwW_sw (d := 136) (os := [0, 56, 1, 61, 2, 69, 3, 77, 4, 85, 5, 96, 6, 104, 7, 112, 8, 123, 9, 131]) (by decide +kernel) ?_
  refine ⟨fun c1 => ?_, fun c1 => ?_⟩
  · show zwW _ _ _ 56 _ _ _ _
    refine zwW_p [(1, 0, 2)] (q := 57) (ls' := [(2, 1), (0, a)]) (st' := [(2, 1)]) (by decide +kernel) rfl ?_
    refine zwW_gs C.1 (kd := 12) (bn := 0) (n := 13) (t := 0) (lo := 0) (hi := 156) (nx := 60) (by decide +kernel) ?_
    intro v2 ev2 lv2 uv2
    refine zwW_ret (nx := 61) (a := 0) (b := 0) (by decide +kernel) rfl (Or.inl rfl) ?_
    exact ⟨rfl, by omega⟩
  refine ⟨fun c3 => ?_, fun c3 => ?_⟩
  · show zwW _ _ _ 61 _ _ _ _
    refine zwW_p [(1, 0, 2)] (q := 62) (ls' := [(2, 1), (0, a)]) (st' := [(2, 1)]) (by decide +kernel) rfl ?_
    refine zwW_gc C.1 (kd := 12) (bn := 2) (n := 13) (c := 2) (nx := 65) (by decide +kernel) ?_
    refine zwW_cm C.1 (op := 60) (k' := 96) (n := 0) (kd := 0) (m := 3) (nx := 68) (r := 2) (tl := []) (st' := []) (by decide +kernel) rfl (by decide +kernel) rfl (x96_2 C) ?_
    rintro v4 _ ⟨rfl, ev4⟩
    have bv4 := zLb_2 C
    refine zwW_ret (nx := 69) (a := 0) (b := 0) (by decide +kernel) rfl (Or.inl rfl) ?_
    exact ⟨rfl, by omega⟩
  refine ⟨fun c5 => ?_, fun c5 => ?_⟩
  · show zwW _ _ _ 69 _ _ _ _
    refine zwW_p [(1, 0, 2)] (q := 70) (ls' := [(2, 1), (0, a)]) (st' := [(2, 1)]) (by decide +kernel) rfl ?_
    refine zwW_gc C.1 (kd := 12) (bn := 3) (n := 13) (c := 3) (nx := 73) (by decide +kernel) ?_
    refine zwW_cm C.1 (op := 60) (k' := 96) (n := 0) (kd := 0) (m := 3) (nx := 76) (r := 3) (tl := []) (st' := []) (by decide +kernel) rfl (by decide +kernel) rfl (x96_3 C) ?_
    rintro v6 _ ⟨rfl, ev6⟩
    have bv6 := zLb_3 C
    refine zwW_ret (nx := 77) (a := 0) (b := 0) (by decide +kernel) rfl (Or.inl rfl) ?_
    exact ⟨rfl, by omega⟩
  refine ⟨fun c7 => ?_, fun c7 => ?_⟩
  · show zwW _ _ _ 77 _ _ _ _
    refine zwW_p [(1, 0, 2)] (q := 78) (ls' := [(2, 1), (0, a)]) (st' := [(2, 1)]) (by decide +kernel) rfl ?_
    refine zwW_gc C.1 (kd := 12) (bn := 4) (n := 13) (c := 4) (nx := 81) (by decide +kernel) ?_
    refine zwW_cm C.1 (op := 60) (k' := 96) (n := 0) (kd := 0) (m := 3) (nx := 84) (r := 4) (tl := []) (st' := []) (by decide +kernel) rfl (by decide +kernel) rfl (x96_4 C) ?_
    rintro v8 _ ⟨rfl, ev8⟩
    have bv8 := zLb_4 C
    refine zwW_ret (nx := 85) (a := 0) (b := 0) (by decide +kernel) rfl (Or.inl rfl) ?_
    exact ⟨rfl, by omega⟩
  refine ⟨fun c9 => ?_, fun c9 => ?_⟩
  · show zwW _ _ _ 85 _ _ _ _
    refine zwW_p [(1, 0, 2)] (q := 86) (ls' := [(2, 1), (0, a)]) (st' := [(2, 1)]) (by decide +kernel) rfl ?_
    refine zwW_gc C.1 (kd := 12) (bn := 8) (n := 13) (c := 13) (nx := 89) (by decide +kernel) ?_
    refine zwW_gc C.1 (kd := 9) (bn := 0) (n := 6) (c := 14) (nx := 92) (by decide +kernel) ?_
    refine zwW_cm C.1 (op := 60) (k' := 96) (n := 0) (kd := 0) (m := 3) (nx := 95) (r := 14) (tl := []) (st' := []) (by decide +kernel) rfl (by decide +kernel) rfl (x96_14 C) ?_
    rintro v10 _ ⟨rfl, ev10⟩
    have bv10 := zLb_14 C
    refine zwW_ret (nx := 96) (a := 0) (b := 0) (by decide +kernel) rfl (Or.inl rfl) ?_
    exact ⟨rfl, by omega⟩
  refine ⟨fun c11 => ?_, fun c11 => ?_⟩
  · show zwW _ _ _ 96 _ _ _ _
    refine zwW_p [(1, 0, 2)] (q := 97) (ls' := [(2, 1), (0, a)]) (st' := [(2, 1)]) (by decide +kernel) rfl ?_
    refine zwW_gc C.1 (kd := 12) (bn := 5) (n := 13) (c := 5) (nx := 100) (by decide +kernel) ?_
    refine zwW_cm C.1 (op := 60) (k' := 96) (n := 0) (kd := 0) (m := 3) (nx := 103) (r := 5) (tl := []) (st' := []) (by decide +kernel) rfl (by decide +kernel) rfl (x96_5 C) ?_
    rintro v12 _ ⟨rfl, ev12⟩
    have bv12 := zLb_5 C
    refine zwW_ret (nx := 104) (a := 0) (b := 0) (by decide +kernel) rfl (Or.inl rfl) ?_
    exact ⟨rfl, by omega⟩
  refine ⟨fun c13 => ?_, fun c13 => ?_⟩
  · show zwW _ _ _ 104 _ _ _ _
    refine zwW_p [(1, 0, 2)] (q := 105) (ls' := [(2, 1), (0, a)]) (st' := [(2, 1)]) (by decide +kernel) rfl ?_
    refine zwW_gc C.1 (kd := 12) (bn := 7) (n := 13) (c := 9) (nx := 108) (by decide +kernel) ?_
    refine zwW_gs C.1 (kd := 7) (bn := 0) (n := 9) (t := 0) (lo := 0) (hi := 400) (nx := 111) (by decide +kernel) ?_
    intro v14 ev14 lv14 uv14
    refine zwW_ret (nx := 112) (a := 0) (b := 0) (by decide +kernel) rfl (Or.inl rfl) ?_
    exact ⟨rfl, by omega⟩
  refine ⟨fun c15 => ?_, fun c15 => ?_⟩
  · show zwW _ _ _ 112 _ _ _ _
    refine zwW_p [(1, 0, 2)] (q := 113) (ls' := [(2, 1), (0, a)]) (st' := [(2, 1)]) (by decide +kernel) rfl ?_
    refine zwW_gc C.1 (kd := 12) (bn := 9) (n := 13) (c := 19) (nx := 116) (by decide +kernel) ?_
    refine zwW_gc C.1 (kd := 3) (bn := 0) (n := 10) (c := 20) (nx := 119) (by decide +kernel) ?_
    refine zwW_cm C.1 (op := 60) (k' := 96) (n := 0) (kd := 0) (m := 3) (nx := 122) (r := 20) (tl := []) (st' := []) (by decide +kernel) rfl (by decide +kernel) rfl (x96_20 C) ?_
    rintro v16 _ ⟨rfl, ev16⟩
    have bv16 := zLb_20 C
    refine zwW_ret (nx := 123) (a := 0) (b := 0) (by decide +kernel) rfl (Or.inl rfl) ?_
    exact ⟨rfl, by omega⟩
  refine ⟨fun c17 => ?_, fun c17 => ?_⟩
  · show zwW _ _ _ 123 _ _ _ _
    refine zwW_p [(1, 0, 2)] (q := 124) (ls' := [(2, 1), (0, a)]) (st' := [(2, 1)]) (by decide +kernel) rfl ?_
    refine zwW_gc C.1 (kd := 12) (bn := 10) (n := 13) (c := 27) (nx := 127) (by decide +kernel) ?_
    refine zwW_gs C.1 (kd := 2) (bn := 0) (n := 10) (t := 0) (lo := 0) (hi := 8) (nx := 130) (by decide +kernel) ?_
    intro v18 ev18 lv18 uv18
    refine zwW_ret (nx := 131) (a := 0) (b := 0) (by decide +kernel) rfl (Or.inl rfl) ?_
    exact ⟨rfl, by omega⟩
  refine ⟨fun c19 => ?_, fun c19 => ?_⟩
  · show zwW _ _ _ 131 _ _ _ _
    refine zwW_p [(1, 0, 2)] (q := 132) (ls' := [(2, 1), (0, a)]) (st' := [(2, 1)]) (by decide +kernel) rfl ?_
    refine zwW_gs C.1 (kd := 12) (bn := 1) (n := 13) (t := 0) (lo := -2147483648) (hi := 2147483647) (nx := 135) (by decide +kernel) ?_
    intro v20 ev20 lv20 uv20
    refine zwW_ret (nx := 136) (a := 0) (b := 0) (by decide +kernel) rfl (Or.inl rfl) ?_
    exact ⟨rfl, by omega⟩
  show zwW _ _ _ 136 _ _ _ _
  refine zwW_p [(0, -1, 0)] (q := 137) (ls' := [(2, 1), (0, a)]) (st' := [(0, -1)]) (by decide +kernel) rfl ?_
  refine zwW_ret (nx := 138) (a := 0) (b := 0) (by decide +kernel) rfl (Or.inl rfl) ?_
  exact ⟨rfl, by omega⟩
end
section
/-! the model's check: an array of longs of its own; the model's calls keep the class -/
section ZJ
variable {sc : List Int} {h h' h1 h2 g : Hp}
def gJ (n : Nat) (h : Hp) (r : Int) : Prop := 365 < r ∧ sh h r = some (23, n)
theorem gJ.x {ms : Zms} {c s r : Int} {n : Nat} (G : gJ n h r) (R : zXR ms c s h h') : gJ n h' r := ⟨G.1, R.1 _ _ G.2⟩
theorem CI.wJ {r x : Int} {j n : Nat} (C : CI h) (e : h' = wr h r j x) (G : gJ n h r) (hj : j < 100000) : CI h' ∧ zXR [(1023, 1023, 0, 100000)] 0 0 h h' := by
  obtain ⟨hr, s⟩ := G
  have R : zXR [(1023, 1023, 0, 100000)] 0 0 h h' := C.wdX e hr s rfl (by decide) rfl ⟨Nat.zero_le _, hj⟩
  have fo : ∀ (q : Int) (i : Nat), q ≠ r → fld h' q i = fld h q i := fun q i hne => by rw [e]; exact fld_wr (Or.inl hne)
  refine ⟨⟨C.1.far (fun q k1 k2 => by rw [e, sh_wr]) (fun q i k1 k2 => fo q i (by omega)), C.2.1.wq e s (by unfold kty; simp), C.2.2.kp R (fun A hA => ?_) (fun A hA ha => ?_) (fun i hi => fo _ _ (by omega))⟩, R⟩
  · have hq := zLis_36 hA
    exact ⟨fo _ _ (by omega), fo _ _ (by omega)⟩
  · funext i
    refine fo _ _ (fun hz => ?_)
    obtain ⟨m, hm⟩ := (C.2.2.1 A hA).d25 ha
    rw [hz, s] at hm
    cases hm
/-- the model's calls -/
theorem CI.m {ms : Zms} (C : CI h) (I : zI g) (R : zMR ms h g) (e : ms.all (fun q => Nat.ble 37 q.1 && Nat.ble q.2.1 365) = true) : CI g ∧ zXR ms 0 0 h g := by
  obtain ⟨r1, r2, r3, r4⟩ := R
  have fo : ∀ (q : Int) (j : Nat), ¬ (37 ≤ q ∧ q ≤ 365) → fld g q j = fld h q j := by
    intro q j hq
    refine r4 q j (fun f hf hz => ?_)
    have w := List.all_eq_true.mp e f hf
    rw [Bool.and_eq_true] at w
    have w1 := Nat.le_of_ble_eq_true w.1
    have w2 := Nat.le_of_ble_eq_true w.2
    omega
  have X : zXR ms 0 0 h g := by
    refine ⟨fun q z hz => by rw [r1]; exact hz, fun q j _ _ hn => r4 q j hn, fun q k n j k1 _ _ => fo q j (by omega), by omega, ?_, ?_, fun q k n j k1 _ _ _ => fo q j (by omega), fun A hA _ ha j => fo _ j (by omega)⟩
    · rw [fo 4 2 (by omega), fo 21 2 (by omega)]; omega
    · rw [fo 4 2 (by omega), fo 21 2 (by omega)]; omega
  refine ⟨⟨I, fun q k n j k1 k2 k3 => ?_, C.2.2.kp X (fun A hA => ?_) (fun A hA ha => funext (fun j => fo _ j (by omega))) (fun i hi => fo _ _ (by omega))⟩, X⟩
  · rw [r1] at k2
    rw [fo q j (by omega)]
    exact C.2.1 q k n j k1 k2 k3
  · have hq := zLis_36 hA
    exact ⟨fo _ _ (by omega), fo _ _ (by omega)⟩
/-- the class's calls keep all that is said of the model -/
theorem zXR.same {ms : Zms} {c s : Int} (X : zXR ms c s h g) (e : ms.all (fun q => Nat.blt q.2.1 37 || Nat.blt 365 q.1) = true) {r : Int} (hr : 37 ≤ r ∧ r ≤ 365) : fld g r = fld h r := by
  funext j
  refine X.2.1 r j (by omega) hr.2 (fun f hf hz => ?_)
  have w := List.all_eq_true.mp e f hf
  rw [Bool.or_eq_true] at w
  rcases w with w | w
  · have w := Nat.le_of_ble_eq_true w
    omega
  · have w := Nat.le_of_ble_eq_true w
    omega
end ZJ
end
section
/-! contracts of the class -/
def msx82 : Zms := [(1023, 1023, 0, 100000)]
-- WheelLandModel.check(III)I
theorem x82 {sc : List Int} (h : Hp) (C : CI h) (a b c : Int) (q_a : -2147483648 ≤ a ∧ a ≤ 2147483647) (q_b : -2147483648 ≤ b ∧ b ≤ 2147483647) (q_c : -2147483648 ≤ c ∧ c ≤ 2147483647) : zwC sc 2 82 [(2, 37), (0, a), (0, b), (0, c)] h (zwRt 0 (fun x g => CI g ∧ zXR msx82 (1) (6) h g ∧ (-2147483648 ≤ x ∧ x ≤ 2147483647))) := by
  refine zwC_of (D := 1) 6 (by decide +kernel) rfl (ls := [(2, 37), (0, a), (0, b), (0, c), (9, 0), (9, 0)]) rfl ?_
  have X : zXR msx82 0 0 h h := zXR.rf _ _
  refine zwW_p [(1, 1, 0), (7, 0, 0), (0, 0, 1), (1, 0, 2)] (q := 4) (ls' := [(2, 37), (0, a), (0, b), (0, c), (9, 0), (9, 0)]) (st' := [(2, 37), (1, 0), (1, a)]) (by decide +kernel) rfl ?_
  refine zwW_gs C.1 (kd := 13) (bn := 0) (n := 97) (t := 0) (lo := 0) (hi := 156) (nx := 7) (by decide +kernel) ?_
  intro v1 ev1 lv1 uv1
  refine zwW_p [(0, 1, 0)] (q := 8) (ls' := [(2, 37), (0, a), (0, b), (0, c), (9, 0), (9, 0)]) (st' := [(0, 1), (0, v1), (1, 0), (1, a)]) (by decide +kernel) rfl ?_
  refine zwW_sub (nx := 9) (by decide +kernel) (by first | omega | exact ⟨by omega, by omega⟩) ?_
  refine zwW_p [(7, 0, 0)] (q := 10) (ls' := [(2, 37), (0, a), (0, b), (0, c), (9, 0), (9, 0)]) (st' := [(1, (v1 - 1)), (1, 0), (1, a)]) (by decide +kernel) rfl ?_
  refine zwW_cs (k' := 101) (n := 3) (nx := 13) (as := [(1, a), (1, 0), (1, (v1 - 1))]) (st' := []) (by decide +kernel) rfl (m101 h a 0 (v1 - 1)) rfl ?_
  rintro x _ ⟨rfl, ⟨rfl, c2⟩ | ⟨rfl, c2⟩⟩
  · refine zwif_eq (q := 28) (nx := 16) (by decide +kernel) (fun c3 => ?_) (fun c3 => ?_)
    · exfalso; omega
    · refine zwW_p [(1, 2, 0), (7, 0, 0), (0, 0, 1), (0, 5, 1)] (q := 22) (ls' := [(2, 37), (0, a), (0, b), (0, c), (9, 0), (9, 0)]) (st' := [(1, 5), (1, 0), (1, b)]) (by decide +kernel) rfl ?_
      refine zwW_cs (k' := 101) (n := 3) (nx := 25) (as := [(1, b), (1, 0), (1, 5)]) (st' := []) (by decide +kernel) rfl (m101 h b 0 5) rfl ?_
      rintro x _ ⟨rfl, ⟨rfl, c4⟩ | ⟨rfl, c4⟩⟩
      · refine zwif_ne (q := 30) (nx := 28) (by decide +kernel) (fun c5 => ?_) (fun c5 => ?_)
        · refine zwW_p [(0, 6, 0)] (q := 32) (ls' := [(2, 37), (0, a), (0, b), (0, c), (9, 0), (9, 0)]) (st' := [(0, 6)]) (by decide +kernel) rfl ?_
          refine zwW_newa (op := 43) (kd := 23) (a := 23) (nx := 34) (by decide +kernel) (Or.inl rfl) rfl (by decide) (by decide) ?_
          rintro h6 r7 eh6 er7
          have Oh6 : zOld h h6 := by rw [eh6]; exact zOld.app _
          have Ch6 : CI h6 := C.old Oh6 (by rw [eh6]; exact C.2.1.app (fun x hx => by rw [List.eq_of_mem_replicate hx]; decide))
          have Qh6 : zXR [] 1 6 h h6 := Oh6.xr (c := 1) (s := 6) C (by rw [eh6, List.length_append, List.length_singleton]; exact Nat.le_refl _) (by rw [eh6, sz_app]; unfold sz; simp) []
          have Gr7 : gJ 6 h6 r7 := ⟨by have := C.len; omega, by rw [eh6, er7]; exact sh_new _ _⟩
          have lr7 := Gr7.1
          have Xh6 : zXR msx82 (1) (6) h h6 := X.tr (c2 := 1) (s2 := 6) Qh6 (by decide +kernel) (by decide) (by decide)
          refine zwW_p [(2, 4, 2), (0, 0, 0), (2, 5, 0)] (q := 39) (ls' := [(2, 37), (0, a), (0, b), (0, c), (2, r7), (0, 0)]) (st' := []) (by decide +kernel) rfl ?_
          have L8 : ∀ (n : Nat) (v5L8 : Int) (hL8 : Hp), n = ((1000 - v5L8)).toNat → (0 ≤ v5L8 ∧ v5L8 ≤ 6) → (gJ 6 hL8 r7) → CI hL8 → zXR msx82 (1) (6) h hL8 → zwW sc (1) 82 39 [(2, 37), (0, a), (0, b), (0, c), (2, r7), (0, v5L8)] [] hL8 (zwRt 0 (fun x g => CI g ∧ zXR msx82 (1) (6) h g ∧ (-2147483648 ≤ x ∧ x ≤ 2147483647))) := by
            intro n
            induction n using Nat.strongRecOn with
            | ind n IHL8 =>
              intro v5L8 hL8 hnL8 iL8_0 gL8_0 ChL8 XhL8
              refine zwW_p [(1, 5, 0), (0, 6, 0)] (q := 43) (ls' := [(2, 37), (0, a), (0, b), (0, c), (2, r7), (0, v5L8)]) (st' := [(0, 6), (0, v5L8)]) (by decide +kernel) rfl ?_
              refine zwic_ge (q := 88) (nx := 46) (by decide +kernel) (fun c9 => ?_) (fun c9 => ?_)
              · refine zwW_p [(1, 4, 2), (0, 2, 0)] (q := 91) (ls' := [(2, 37), (0, a), (0, b), (0, c), (2, r7), (0, v5L8)]) (st' := [(0, 2), (2, r7)]) (by decide +kernel) rfl ?_
                refine zwW_ald (a := 23) (kd := 23) (n := 6) (t := 1) (nx := 92) (by decide +kernel) gL8_0.2 rfl (by omega) (by omega) ?_
                obtain ⟨v10, ev10⟩ : ∃ z, z = fld hL8 r7 (2 : Int).toNat := ⟨_, rfl⟩
                rw [← ev10]
                refine zwW_p [(1, 4, 2), (0, 3, 0)] (q := 95) (ls' := [(2, 37), (0, a), (0, b), (0, c), (2, r7), (0, v5L8)]) (st' := [(0, 3), (2, r7), (1, v10)]) (by decide +kernel) rfl ?_
                refine zwW_ald (a := 23) (kd := 23) (n := 6) (t := 1) (nx := 96) (by decide +kernel) gL8_0.2 rfl (by omega) (by omega) ?_
                obtain ⟨v11, ev11⟩ : ∃ z, z = fld hL8 r7 (3 : Int).toNat := ⟨_, rfl⟩
                rw [← ev11]
                refine zwW_law (nx := 97) (by decide +kernel) ?_
                intro v12 ev12 lv12 uv12
                refine zwW_p [(1, 4, 2), (0, 4, 0)] (q := 100) (ls' := [(2, 37), (0, a), (0, b), (0, c), (2, r7), (0, v5L8)]) (st' := [(0, 4), (2, r7), (1, v12)]) (by decide +kernel) rfl ?_
                refine zwW_ald (a := 23) (kd := 23) (n := 6) (t := 1) (nx := 101) (by decide +kernel) gL8_0.2 rfl (by omega) (by omega) ?_
                obtain ⟨v13, ev13⟩ : ∃ z, z = fld hL8 r7 (4 : Int).toNat := ⟨_, rfl⟩
                rw [← ev13]
                refine zwW_law (nx := 102) (by decide +kernel) ?_
                intro v14 ev14 lv14 uv14
                refine zwW_p [(1, 4, 2), (0, 5, 0)] (q := 105) (ls' := [(2, 37), (0, a), (0, b), (0, c), (2, r7), (0, v5L8)]) (st' := [(0, 5), (2, r7), (1, v14)]) (by decide +kernel) rfl ?_
                refine zwW_ald (a := 23) (kd := 23) (n := 6) (t := 1) (nx := 106) (by decide +kernel) gL8_0.2 rfl (by omega) (by omega) ?_
                obtain ⟨v15, ev15⟩ : ∃ z, z = fld hL8 r7 (5 : Int).toNat := ⟨_, rfl⟩
                rw [← ev15]
                refine zwlc_eq (q := 112) (nx := 110) (m := 107) (by decide +kernel) (by decide +kernel) (fun c16 => ?_) (fun c16 => ?_)
                · refine zwW_p [(1, 4, 2), (0, 5, 0)] (q := 115) (ls' := [(2, 37), (0, a), (0, b), (0, c), (2, r7), (0, v5L8)]) (st' := [(0, 5), (2, r7)]) (by decide +kernel) rfl ?_
                  refine zwW_ald (a := 23) (kd := 23) (n := 6) (t := 1) (nx := 116) (by decide +kernel) gL8_0.2 rfl (by omega) (by omega) ?_
                  obtain ⟨v17, ev17⟩ : ∃ z, z = fld hL8 r7 (5 : Int).toNat := ⟨_, rfl⟩
                  rw [← ev17]
                  refine zwW_p [(1, 1, 0)] (q := 117) (ls' := [(2, 37), (0, a), (0, b), (0, c), (2, r7), (0, v5L8)]) (st' := [(0, a), (1, v17)]) (by decide +kernel) rfl ?_
                  refine zwif_ne (q := 124) (nx := 120) (by decide +kernel) (fun c18 => ?_) (fun c18 => ?_)
                  · refine zwW_p [(1, 0, 2)] (q := 125) (ls' := [(2, 37), (0, a), (0, b), (0, c), (2, r7), (0, v5L8)]) (st' := [(2, 37), (1, v17)]) (by decide +kernel) rfl ?_
                    refine zwW_gc ChL8.1 (kd := 13) (bn := 91) (n := 97) (c := 205) (nx := 128) (by decide +kernel) ?_
                    refine zwW_p [(1, 1, 0), (0, 1, 0)] (q := 130) (ls' := [(2, 37), (0, a), (0, b), (0, c), (2, r7), (0, v5L8)]) (st' := [(0, 1), (0, a), (2, 205), (1, v17)]) (by decide +kernel) rfl ?_
                    refine zwW_sub (nx := 131) (by decide +kernel) (by first | omega | exact ⟨by omega, by omega⟩) ?_
                    refine zwW_ro ChL8.1 (a := 205) (n := 156) (kd := 26) (base := 206) (step := 1) (nx := 132) (by decide +kernel) rfl (by first | omega | exact ⟨by omega, by omega⟩) ?_
                    rw [show ((206 : Nat) : Int) + ((1 : Nat) : Int) * (a - 1) = (206 + (a - 1)) by omega]
                    refine zwW_p [(0, 5, 0)] (q := 133) (ls' := [(2, 37), (0, a), (0, b), (0, c), (2, r7), (0, v5L8)]) (st' := [(0, 5), (2, (206 + (a - 1))), (1, v17)]) (by decide +kernel) rfl ?_
                    refine zwW_al ChL8.1 (a1 := 206) (a2 := 361) (kd := 20) (n := 6) (t := 0) (lo := -2147483648) (hi := 2147483647) (nx := 134) (by decide +kernel) (by first | omega | exact ⟨by omega, by omega⟩) (by first | decide | exact ⟨by decide, by decide⟩) ?_
                    intro v19 ev19 lv19 uv19
                    refine zwW_p [(7, 0, 0), (1, 4, 2), (0, 1, 0)] (q := 138) (ls' := [(2, 37), (0, a), (0, b), (0, c), (2, r7), (0, v5L8)]) (st' := [(0, 1), (2, r7), (1, v19), (1, v17)]) (by decide +kernel) rfl ?_
                    refine zwW_ald (a := 23) (kd := 23) (n := 6) (t := 1) (nx := 139) (by decide +kernel) gL8_0.2 rfl (by omega) (by omega) ?_
                    obtain ⟨v20, ev20⟩ : ∃ z, z = fld hL8 r7 (1 : Int).toNat := ⟨_, rfl⟩
                    rw [← ev20]
                    refine zwW_law (nx := 140) (by decide +kernel) ?_
                    intro v21 ev21 lv21 uv21
                    refine zwlc_eq (q := 148) (nx := 144) (m := 141) (by decide +kernel) (by decide +kernel) (fun c22 => ?_) (fun c22 => ?_)
                    · refine zwW_p [(0, 0, 0)] (q := 149) (ls' := [(2, 37), (0, a), (0, b), (0, c), (2, r7), (0, v5L8)]) (st' := [(0, 0)]) (by decide +kernel) rfl ?_
                      refine zwW_ret (nx := 150) (a := 0) (b := 0) (by decide +kernel) rfl (Or.inl rfl) ?_
                      exact ⟨ChL8, XhL8.le (by decide) (by decide), by omega⟩
                    · refine zwW_p [(0, 2, 0), (24, 149, 0)] (q := 149) (ls' := [(2, 37), (0, a), (0, b), (0, c), (2, r7), (0, v5L8)]) (st' := [(0, 2)]) (by decide +kernel) rfl ?_
                      refine zwW_ret (nx := 150) (a := 0) (b := 0) (by decide +kernel) rfl (Or.inl rfl) ?_
                      exact ⟨ChL8, XhL8.le (by decide) (by decide), by omega⟩
                  · refine zwW_p [(0, 0, 0), (24, 134, 0), (7, 0, 0), (1, 4, 2), (0, 1, 0)] (q := 138) (ls' := [(2, 37), (0, a), (0, b), (0, c), (2, r7), (0, v5L8)]) (st' := [(0, 1), (2, r7), (1, 0), (1, v17)]) (by decide +kernel) rfl ?_
                    refine zwW_ald (a := 23) (kd := 23) (n := 6) (t := 1) (nx := 139) (by decide +kernel) gL8_0.2 rfl (by omega) (by omega) ?_
                    obtain ⟨v23, ev23⟩ : ∃ z, z = fld hL8 r7 (1 : Int).toNat := ⟨_, rfl⟩
                    rw [← ev23]
                    refine zwW_law (nx := 140) (by decide +kernel) ?_
                    intro v24 ev24 lv24 uv24
                    refine zwlc_eq (q := 148) (nx := 144) (m := 141) (by decide +kernel) (by decide +kernel) (fun c25 => ?_) (fun c25 => ?_)
                    · refine zwW_p [(0, 0, 0)] (q := 149) (ls' := [(2, 37), (0, a), (0, b), (0, c), (2, r7), (0, v5L8)]) (st' := [(0, 0)]) (by decide +kernel) rfl ?_
                      refine zwW_ret (nx := 150) (a := 0) (b := 0) (by decide +kernel) rfl (Or.inl rfl) ?_
                      exact ⟨ChL8, XhL8.le (by decide) (by decide), by omega⟩
                    · refine zwW_p [(0, 2, 0), (24, 149, 0)] (q := 149) (ls' := [(2, 37), (0, a), (0, b), (0, c), (2, r7), (0, v5L8)]) (st' := [(0, 2)]) (by decide +kernel) rfl ?_
                      refine zwW_ret (nx := 150) (a := 0) (b := 0) (by decide +kernel) rfl (Or.inl rfl) ?_
                      exact ⟨ChL8, XhL8.le (by decide) (by decide), by omega⟩
                · refine zwW_p [(0, 1, 0)] (q := 111) (ls' := [(2, 37), (0, a), (0, b), (0, c), (2, r7), (0, v5L8)]) (st' := [(0, 1)]) (by decide +kernel) rfl ?_
                  refine zwW_ret (nx := 112) (a := 0) (b := 0) (by decide +kernel) rfl (Or.inl rfl) ?_
                  exact ⟨ChL8, XhL8.le (by decide) (by decide), by omega⟩
              · refine zwW_p [(1, 4, 2), (1, 5, 0), (1, 5, 0), (1, 2, 0)] (q := 53) (ls' := [(2, 37), (0, a), (0, b), (0, c), (2, r7), (0, v5L8)]) (st' := [(0, b), (0, v5L8), (0, v5L8), (2, r7)]) (by decide +kernel) rfl ?_
                refine zwic_ne (q := 71) (nx := 56) (by decide +kernel) (fun c26 => ?_) (fun c26 => ?_)
                · refine zwW_p [(1, 0, 2)] (q := 72) (ls' := [(2, 37), (0, a), (0, b), (0, c), (2, r7), (0, v5L8)]) (st' := [(2, 37), (0, v5L8), (2, r7)]) (by decide +kernel) rfl ?_
                  refine zwW_gc ChL8.1 (kd := 13) (bn := 91) (n := 97) (c := 205) (nx := 75) (by decide +kernel) ?_
                  refine zwW_p [(1, 1, 0)] (q := 76) (ls' := [(2, 37), (0, a), (0, b), (0, c), (2, r7), (0, v5L8)]) (st' := [(0, a), (2, 205), (0, v5L8), (2, r7)]) (by decide +kernel) rfl ?_
                  refine zwW_ro ChL8.1 (a := 205) (n := 156) (kd := 26) (base := 206) (step := 1) (nx := 77) (by decide +kernel) rfl (by first | omega | exact ⟨by omega, by omega⟩) ?_
                  rw [show ((206 : Nat) : Int) + ((1 : Nat) : Int) * a = (206 + a) by omega]
                  refine zwW_p [(1, 5, 0)] (q := 79) (ls' := [(2, 37), (0, a), (0, b), (0, c), (2, r7), (0, v5L8)]) (st' := [(0, v5L8), (2, (206 + a)), (0, v5L8), (2, r7)]) (by decide +kernel) rfl ?_
                  refine zwW_al ChL8.1 (a1 := 206) (a2 := 361) (kd := 20) (n := 6) (t := 0) (lo := -2147483648) (hi := 2147483647) (nx := 80) (by decide +kernel) (by first | omega | exact ⟨by omega, by omega⟩) (by first | omega | exact ⟨by omega, by omega⟩) ?_
                  intro v27 ev27 lv27 uv27
                  refine zwW_p [(7, 0, 0)] (q := 81) (ls' := [(2, 37), (0, a), (0, b), (0, c), (2, r7), (0, v5L8)]) (st' := [(1, v27), (0, v5L8), (2, r7)]) (by decide +kernel) rfl ?_
                  refine zwW_ast (a := 23) (kd := 23) (n := 6) (x := v27) (nx := 82) (by decide +kernel) gL8_0.2 rfl (by omega) (by omega) rfl ?_
                  rintro h28 eh28
                  obtain ⟨Ch28, Qh28⟩ := ChL8.wJ eh28 gL8_0 (by omega)
                  have Xh28 : zXR msx82 (1) (6) h h28 := XhL8.tr (c2 := 1) (s2 := 6) Qh28 (by decide +kernel) (by decide) (by decide)
                  have Gh28_0 : gJ 6 h28 r7 := gL8_0.x Qh28
                  refine zwW_inc (i := 5) (c := 1) (x := v5L8) (nx := 85) (by decide +kernel) rfl (by first | omega | exact ⟨by omega, by omega⟩) (ls' := [(2, 37), (0, a), (0, b), (0, c), (2, r7), (0, (v5L8 + 1))]) rfl ?_
                  refine zwW_p [(24, 39, 0)] (q := 39) (ls' := [(2, 37), (0, a), (0, b), (0, c), (2, r7), (0, (v5L8 + 1))]) (st' := []) (by decide +kernel) rfl ?_
                  exact IHL8 ((1000 - (v5L8 + 1))).toNat (by omega) (v5L8 + 1) h28 rfl (by omega) Gh28_0 Ch28 (Xh28.le (by decide) (by decide))
                · refine zwW_p [(1, 0, 2)] (q := 57) (ls' := [(2, 37), (0, a), (0, b), (0, c), (2, r7), (0, v5L8)]) (st' := [(2, 37), (0, v5L8), (2, r7)]) (by decide +kernel) rfl ?_
                  refine zwW_gc ChL8.1 (kd := 13) (bn := 91) (n := 97) (c := 205) (nx := 60) (by decide +kernel) ?_
                  refine zwW_p [(1, 1, 0)] (q := 61) (ls' := [(2, 37), (0, a), (0, b), (0, c), (2, r7), (0, v5L8)]) (st' := [(0, a), (2, 205), (0, v5L8), (2, r7)]) (by decide +kernel) rfl ?_
                  refine zwW_ro ChL8.1 (a := 205) (n := 156) (kd := 26) (base := 206) (step := 1) (nx := 62) (by decide +kernel) rfl (by first | omega | exact ⟨by omega, by omega⟩) ?_
                  rw [show ((206 : Nat) : Int) + ((1 : Nat) : Int) * a = (206 + a) by omega]
                  refine zwW_p [(1, 5, 0)] (q := 64) (ls' := [(2, 37), (0, a), (0, b), (0, c), (2, r7), (0, v5L8)]) (st' := [(0, v5L8), (2, (206 + a)), (0, v5L8), (2, r7)]) (by decide +kernel) rfl ?_
                  refine zwW_al ChL8.1 (a1 := 206) (a2 := 361) (kd := 20) (n := 6) (t := 0) (lo := -2147483648) (hi := 2147483647) (nx := 65) (by decide +kernel) (by first | omega | exact ⟨by omega, by omega⟩) (by first | omega | exact ⟨by omega, by omega⟩) ?_
                  intro v29 ev29 lv29 uv29
                  refine zwW_p [(1, 3, 0)] (q := 66) (ls' := [(2, 37), (0, a), (0, b), (0, c), (2, r7), (0, v5L8)]) (st' := [(0, c), (0, v29), (0, v5L8), (2, r7)]) (by decide +kernel) rfl ?_
                  refine zwW_any2 (a := 7) (nx := 67) (by decide +kernel) rfl (by first | omega | exact ⟨by omega, by omega⟩) (Or.inr (by first | decide | exact ⟨by decide, by decide⟩)) ?_
                  intro v30 lv30 uv30
                  refine zwW_p [(7, 0, 0), (24, 81, 0)] (q := 81) (ls' := [(2, 37), (0, a), (0, b), (0, c), (2, r7), (0, v5L8)]) (st' := [(1, v30), (0, v5L8), (2, r7)]) (by decide +kernel) rfl ?_
                  refine zwW_ast (a := 23) (kd := 23) (n := 6) (x := v30) (nx := 82) (by decide +kernel) gL8_0.2 rfl (by omega) (by omega) rfl ?_
                  rintro h31 eh31
                  obtain ⟨Ch31, Qh31⟩ := ChL8.wJ eh31 gL8_0 (by omega)
                  have Xh31 : zXR msx82 (1) (6) h h31 := XhL8.tr (c2 := 1) (s2 := 6) Qh31 (by decide +kernel) (by decide) (by decide)
                  have Gh31_0 : gJ 6 h31 r7 := gL8_0.x Qh31
                  refine zwW_inc (i := 5) (c := 1) (x := v5L8) (nx := 85) (by decide +kernel) rfl (by first | omega | exact ⟨by omega, by omega⟩) (ls' := [(2, 37), (0, a), (0, b), (0, c), (2, r7), (0, (v5L8 + 1))]) rfl ?_
                  refine zwW_p [(24, 39, 0)] (q := 39) (ls' := [(2, 37), (0, a), (0, b), (0, c), (2, r7), (0, (v5L8 + 1))]) (st' := []) (by decide +kernel) rfl ?_
                  exact IHL8 ((1000 - (v5L8 + 1))).toNat (by omega) (v5L8 + 1) h31 rfl (by omega) Gh31_0 Ch31 (Xh31.le (by decide) (by decide))
          exact L8 _ 0 h6 rfl (by omega) Gr7 Ch6 (Xh6.le (by decide) (by decide))
        · exfalso; omega
      · refine zwif_ne (q := 30) (nx := 28) (by decide +kernel) (fun c32 => ?_) (fun c32 => ?_)
        · exfalso; omega
        · refine zwW_p [(0, -1, 0)] (q := 29) (ls' := [(2, 37), (0, a), (0, b), (0, c), (9, 0), (9, 0)]) (st' := [(0, -1)]) (by decide +kernel) rfl ?_
          refine zwW_ret (nx := 30) (a := 0) (b := 0) (by decide +kernel) rfl (Or.inl rfl) ?_
          exact ⟨C, X.le (by decide) (by decide), by omega⟩
  · refine zwif_eq (q := 28) (nx := 16) (by decide +kernel) (fun c33 => ?_) (fun c33 => ?_)
    · refine zwW_p [(0, -1, 0)] (q := 29) (ls' := [(2, 37), (0, a), (0, b), (0, c), (9, 0), (9, 0)]) (st' := [(0, -1)]) (by decide +kernel) rfl ?_
      refine zwW_ret (nx := 30) (a := 0) (b := 0) (by decide +kernel) rfl (Or.inl rfl) ?_
      exact ⟨C, X.le (by decide) (by decide), by omega⟩
    · exfalso; omega
end
section
/-! what changes in the tables: a field, an array's place, a new entry -/
section ZAD
variable {h h' h1 h2 g : Hp} {ms ms' : Zms} {c s c' s' : Int}
theorem zQS.nil : zQS [] h := fun e he => by cases he
theorem zQS.cons {a1 j1 a2 j2 : Nat} {L : List (Nat × Nat × Nat × Nat)} (p : fld h a1 j1 = fld h a2 j2) (q : zQS L h) : zQS ((a1, j1, a2, j2) :: L) h := by
  intro e he
  rcases List.mem_cons.mp he with rfl | he
  · exact p
  · exact q e he
theorem zNM.nil : zNM [] h := fun e he => by cases he
theorem zNM.cons {A : Nat} {L : List Nat} (p : ∀ i : Nat, (i : Int) < fld h A 2 → fld h (zv h A i) 0 = i) (q : zNM L h) : zNM (A :: L) h := by
  intro e he
  rcases List.mem_cons.mp he with rfl | he
  · exact p
  · exact q e he
theorem zFL.nil : zFL [] h := fun e he => by cases he
theorem zFL.cons {A j a : Nat} {L : List (Nat × Nat × Nat)} (p : zF1 A j a h) (q : zFL L h) : zFL ((A, j, a) :: L) h := by
  intro e he
  rcases List.mem_cons.mp he with rfl | he
  · exact p
  · exact q e he
theorem zZL.nil : zZL [] h := fun e he => by cases he
theorem zZL.cons {A a : Nat} {L : List (Nat × Nat)} (p : zZ1 A a h) (q : zZL L h) : zZL ((A, a) :: L) h := by
  intro e he
  rcases List.mem_cons.mp he with rfl | he
  · exact p
  · exact q e he
theorem zRL.nil : zRL [] h := fun e he => by cases he
theorem zRL.cons {A j B a : Nat} {L : List (Nat × Nat × Nat × Nat)} (p : zR1 A j B a h) (q : zRL L h) : zRL ((A, j, B, a) :: L) h := by
  intro e he
  rcases List.mem_cons.mp he with rfl | he
  · exact p
  · exact q e he
theorem zFL.at {L : List (Nat × Nat × Nat)} (P : zFL L h) {A j a : Nat} (e : L.contains (A, j, a) = true) : zF1 A j a h := by
  rw [List.contains_iff_mem] at e
  exact P _ e
theorem zZL.at {L : List (Nat × Nat)} (P : zZL L h) {A a : Nat} (e : L.contains (A, a) = true) : zZ1 A a h := by
  rw [List.contains_iff_mem] at e
  exact P _ e
theorem zRL.at {L : List (Nat × Nat × Nat × Nat)} (P : zRL L h) {A j B a : Nat} (e : L.contains (A, j, B, a) = true) : zR1 A j B a h := by
  rw [List.contains_iff_mem] at e
  exact P _ e
theorem zNM.at {L : List Nat} (P : zNM L h) {A : Nat} (e : L.contains A = true) : ∀ i : Nat, (i : Int) < fld h A 2 → fld h (zv h A i) 0 = i := by
  rw [List.contains_iff_mem] at e
  exact P _ e
theorem zQS.at {L : List (Nat × Nat × Nat × Nat)} (P : zQS L h) {a1 j1 a2 j2 : Nat} (e : L.contains (a1, j1, a2, j2) = true) : fld h a1 j1 = fld h a2 j2 := by
  rw [List.contains_iff_mem] at e
  exact P _ e
/-- zeros behind a list's end: a place before it is written -/
theorem zZ1.up {A a k : Nat} {x : Int} (R : zXR ms c s h h1) (S : zXR ms' c' s' h1 g) (P : zZ1 A a h) (e1 : (zl7 A && (zka a && (zun ms A && zua ms a (zmN A)))) = true) (e2 : zun ms' A = true) (hk : (k : Int) < fld h A 2) (m : ∀ i : Nat, fld g a i = if i = k then x else fld h1 a i) : zZ1 A a g := by
  simp only [Bool.and_eq_true] at e1
  obtain ⟨k1, k0, k2, k4⟩ := e1
  have hA := zl7_of k1
  intro i hi hm
  rw [S.vz hA e2, R.vz hA k2] at hi
  rw [m i, if_neg (by omega), R.a k4 (zka_of k0) (show i < zmN A by unfold zmN; omega)]
  exact P i hi hm
/-- a list has one entry more -/
def zAd (A : Nat) (h h1 : Hp) (r : Int) : Prop := fld h1 A 2 = fld h A 2 + 1 ∧ (365 < r ∧ zG A h1 r) ∧ (∀ i : Nat, (i : Int) < fld h A 2 → zv h1 A i = zv h A i) ∧ zv h1 A (fld h A 2).toNat = r
/-- an entry of the grown list is an old one or the new one -/
theorem zAd.cs {A : Nat} {r : Int} (D : zAd A h h1 r) (C : CI h) (hA : A ∈ zLis) {i : Nat} (hi : (i : Int) < fld h1 A 2) : ((i : Int) < fld h A 2 ∧ zv h1 A i = zv h A i) ∨ ((i : Int) = fld h A 2 ∧ zv h1 A i = r) := by
  have hb := zLis_b C hA
  rw [D.1] at hi
  by_cases z : (i : Int) < fld h A 2
  · exact Or.inl ⟨z, D.2.2.1 i z⟩
  · refine Or.inr ⟨by omega, ?_⟩
    rw [← D.2.2.2]
    congr 1
    omega
theorem zNM.ad {A : Nat} {r : Int} (C : CI h) (C1 : CI h1) (R : zXR ms c s h h1) (S : zXR ms' c' s' h1 g) (D : zAd A h h1 r) (P : ∀ i : Nat, (i : Int) < fld h A 2 → fld h (zv h A i) 0 = i) (e1 : (zl7 A && zqN ms (1000 + zkd A) (1000 + zkd A) 0 1) = true) (e2 : (zun ms' A && zqN ms' (1000 + zkd A) (1000 + zkd A) 0 1) = true) (f : fld h1 r 0 = fld h A 2) : ∀ i : Nat, (i : Int) < fld g A 2 → fld g (zv g A i) 0 = i := by
  simp only [Bool.and_eq_true] at e1 e2
  obtain ⟨k1, k3⟩ := e1
  obtain ⟨k5, k6⟩ := e2
  have hA := zl7_of k1
  intro i hi
  rw [S.vz hA k5] at hi
  rw [S.v C1 hA k5 hi, S.vf C1 hA k6 hi]
  rcases D.cs C hA hi with ⟨z, e⟩ | ⟨z, e⟩
  · rw [e, R.vf C hA k3 z]
    exact P i z
  · rw [e, f, z]
theorem zF1.ad {A j a k : Nat} {r x x' : Int} (C : CI h) (C1 : CI h1) (R : zXR ms c s h h1) (S : zXR ms' c' s' h1 g) (D : zAd A h h1 r) (P : zF1 A j a h) (e1 : (zl7 A && (zka a && (zqN ms (1000 + zkd A) (1000 + zkd A) j (j + 1) && zua ms a (zmN A)))) = true) (e2 : (zun ms' A && zqN ms' (1000 + zkd A) (1000 + zkd A) j (j + 1)) = true) (f : fld h1 r j = x) (m : ∀ i : Nat, fld g a i = if i = k then x' else fld h1 a i) (hk : (k : Int) = fld h A 2) (hx : x = x') : zF1 A j a g := by
  simp only [Bool.and_eq_true] at e1 e2
  obtain ⟨k1, k0, k3, k4⟩ := e1
  obtain ⟨k5, k6⟩ := e2
  have hA := zl7_of k1
  intro i hi
  rw [S.vz hA k5] at hi
  rw [S.v C1 hA k5 hi, S.vf C1 hA k6 hi, m i]
  rcases D.cs C hA hi with ⟨z, e⟩ | ⟨z, e⟩
  · rw [e, R.vf C hA k3 z, if_neg (by omega), R.a k4 (zka_of k0) (zmN_of C hA z)]
    exact P i z
  · rw [e, f, if_pos (by omega), hx]
/-- the model's array was 0 there -/
theorem zF1.ad0 {A j a : Nat} {r : Int} (C : CI h) (C1 : CI h1) (R : zXR ms c s h h1) (S : zXR ms' c' s' h1 g) (D : zAd A h h1 r) (P : zF1 A j a h) (Z : zZ1 A a h) (e1 : (zl7 A && (zka a && (zqN ms (1000 + zkd A) (1000 + zkd A) j (j + 1) && zua ms a (zmN A)))) = true) (e2 : (zun ms' A && (zua ms' a (zmN A) && zqN ms' (1000 + zkd A) (1000 + zkd A) j (j + 1))) = true) (f : fld h1 r j = 0) : zF1 A j a g := by
  simp only [Bool.and_eq_true] at e1 e2
  obtain ⟨k1, k0, k3, k4⟩ := e1
  obtain ⟨k5, k7, k6⟩ := e2
  have hA := zl7_of k1
  have hb := zLis_b C1 hA
  have hd := D.1
  intro i hi
  rw [S.vz hA k5] at hi
  have hm : i < zmN A := by unfold zmN; omega
  rw [S.v C1 hA k5 hi, S.vf C1 hA k6 hi, S.a k7 (zka_of k0) hm, R.a k4 (zka_of k0) hm]
  rcases D.cs C hA hi with ⟨z, e⟩ | ⟨z, e⟩
  · rw [e, R.vf C hA k3 z]
    exact P i z
  · rw [e, f]
    exact (Z i (by omega) (by omega)).symm
theorem zZ1.ad {A a : Nat} {r : Int} (C : CI h) (R : zXR ms c s h h1) (S : zXR ms' c' s' h1 g) (D : zAd A h h1 r) (Z : zZ1 A a h) (e1 : (zl7 A && (zka a && zua ms a (zmN A))) = true) (e2 : (zun ms' A && zua ms' a (zmN A)) = true) : zZ1 A a g := by
  simp only [Bool.and_eq_true] at e1 e2
  obtain ⟨k1, k0, k4⟩ := e1
  obtain ⟨k5, k7⟩ := e2
  have hA := zl7_of k1
  have hd := D.1
  intro i hi hm
  rw [S.vz hA k5] at hi
  have hm2 : i < zmN A := by unfold zmN; omega
  rw [S.a k7 (zka_of k0) hm2, R.a k4 (zka_of k0) hm2]
  exact Z i (by omega) hm
/-- entries of A tell entries of B: A has one more -/
theorem zR1.ad {A j B a k : Nat} {r : Int} {x : Nat} (C : CI h) (C1 : CI h1) (R : zXR ms c s h h1) (S : zXR ms' c' s' h1 g) (D : zAd A h h1 r) (P : zR1 A j B a h) (e1 : (zl7 A && (zl7 B && (zka a && (zqN ms (1000 + zkd A) (1000 + zkd A) j (j + 1) && (zua ms a (zmN A) && zun ms B))))) = true) (e2 : (zun ms' A && (zun ms' B && zqN ms' (1000 + zkd A) (1000 + zkd A) j (j + 1))) = true) (hx : (x : Int) < fld h B 2) (f : fld h1 r j = zv h B x) (m : ∀ i : Nat, fld g a i = if i = k then (x : Int) else fld h1 a i) (hk : (k : Int) = fld h A 2) : zR1 A j B a g := by
  simp only [Bool.and_eq_true] at e1 e2
  obtain ⟨k1, k8, k0, k3, k4, k9⟩ := e1
  obtain ⟨k5, k7, k6⟩ := e2
  have hA := zl7_of k1
  have hB := zl7_of k8
  have sB : fld g B 2 = fld h B 2 := (S.vz hB k7).trans (R.vz hB k9)
  have vB : ∀ i : Nat, (i : Int) < fld h B 2 → zv g B i = zv h B i := fun i hi => (S.v C1 hB k7 (by rw [R.vz hB k9]; exact hi)).trans (R.v C hB k9 hi)
  intro i hi
  rw [S.vz hA k5] at hi
  rw [S.v C1 hA k5 hi, S.vf C1 hA k6 hi, m i, sB]
  rcases D.cs C hA hi with ⟨z, e⟩ | ⟨z, e⟩
  · rw [e, R.vf C hA k3 z, if_neg (by omega), R.a k4 (zka_of k0) (zmN_of C hA z)]
    have p := P i z
    exact ⟨p.1, p.2.1, p.2.2.trans (vB _ (by omega)).symm⟩
  · rw [e, f, if_pos (by omega), vB _ (by omega)]
    exact ⟨by omega, hx, rfl⟩
/-- B has one more -/
theorem zR1.adB {A j B a : Nat} {r : Int} (C : CI h) (C1 : CI h1) (R : zXR ms c s h h1) (S : zXR ms' c' s' h1 g) (D : zAd B h h1 r) (P : zR1 A j B a h) (e1 : (zl7 A && (zl7 B && (zka a && (zqN ms (1000 + zkd A) (1000 + zkd A) j (j + 1) && (zua ms a (zmN A) && zun ms A))))) = true) (e2 : (zun ms' A && (zun ms' B && (zua ms' a (zmN A) && zqN ms' (1000 + zkd A) (1000 + zkd A) j (j + 1)))) = true) : zR1 A j B a g := by
  simp only [Bool.and_eq_true] at e1 e2
  obtain ⟨k1, k8, k0, k3, k4, k9⟩ := e1
  obtain ⟨k5, k7, k10, k6⟩ := e2
  have hA := zl7_of k1
  have hB := zl7_of k8
  have hd := D.1
  intro i hi
  rw [S.vz hA k5] at hi
  rw [S.v C1 hA k5 hi, S.vf C1 hA k6 hi]
  rw [R.vz hA k9] at hi
  have hm := zmN_of C hA hi
  have p := P i hi
  rw [R.v C hA k9 hi, R.vf C hA k3 hi, S.a k10 (zka_of k0) hm, R.a k4 (zka_of k0) hm, S.vz hB k7]
  have hx : ((fld h a i).toNat : Int) < fld h B 2 := by omega
  refine ⟨p.1, by omega, p.2.2.trans ?_⟩
  rw [S.v C1 hB k7 (by omega)]
  exact (D.2.2.1 _ hx).symm
end ZAD
end
section
/-! the model's way of finding the least days: rounds over all roads -/
section ZBF
variable {W : Nat → Nat → Int} {D w w' : Nat → Int} {A n k x y : Nat}
def zRc (D : Nat → Int) (t : Int) : Nat → Nat
  | 0 => 0
  | n + 1 => zRc D t n + (if D n < t then 1 else 0)
/-- how many are nearer -/
def zRk (D : Nat → Int) (v : Nat) : Nat := zRc D (D v) 8
theorem zRc_le {t u : Int} (h : t ≤ u) : ∀ n, zRc D t n ≤ zRc D u n
  | 0 => Nat.le_refl _
  | n + 1 => by
    have := zRc_le h n
    unfold zRc
    split <;> split <;> omega
theorem zRc_lt {t u : Int} (h : t ≤ u) {c : Nat} (h1 : ¬ D c < t) (h2 : D c < u) : ∀ n, c < n → zRc D t n < zRc D u n
  | 0, hc => by omega
  | n + 1, hc => by
    unfold zRc
    by_cases q : c = n
    · subst q
      have := zRc_le (D := D) h c
      rw [if_neg h1, if_pos h2]
      omega
    · have := zRc_lt h h1 h2 n (by omega)
      split <;> split <;> omega
theorem zRc_0 {t : Int} (h : ∀ u : Nat, u < n → ¬ D u < t) : zRc D t n = 0 := by
  induction n with
  | zero => rfl
  | succ m ih =>
    unfold zRc
    rw [ih (fun u hu => h u (by omega)), if_neg (h m (by omega))]
theorem zRc_m {t : Int} {m : Nat} : ∀ n, (∀ u : Nat, u < n → D u < t → u < m) → zRc D t n ≤ m ∧ zRc D t n ≤ n
  | 0, _ => ⟨Nat.zero_le _, Nat.le_refl _⟩
  | n + 1, h => by
    have := zRc_m (t := t) (m := m) n (fun u hu => h u (by omega))
    unfold zRc
    split
    · have := h n (by omega) ‹_›
      omega
    · omega
theorem zRk_lt {u v : Nat} (hu : u < 8) (h : D u < D v) : zRk D u < zRk D v := zRc_lt (by omega) (by omega) h 8 hu
/-- what is known of the days from A -/
def zGd (W : Nat → Nat → Int) (D : Nat → Int) (A n : Nat) : Prop :=
  (A < n ∧ n ≤ 8) ∧ D A = 0 ∧ (∀ v : Nat, v < 8 → 0 ≤ D v) ∧ (∀ u v : Nat, u < 8 → v < 8 → D v ≤ D u + W u v) ∧
  (∀ v : Nat, v < 8 → v ≠ A → D v < 1000000 → ∃ c : Nat, c < 8 ∧ c ≠ v ∧ W c v < 1000000 ∧ D c + W c v ≤ D v) ∧
  (∀ u v : Nat, u < 8 → v < 8 → u ≠ v → 1 ≤ W u v ∧ (W u v < 1000000 → u < n ∧ v < n))
/-- what stands in way, at round k, from x, to y -/
def zBf (W : Nat → Nat → Int) (D : Nat → Int) (n k x y : Nat) (w : Nat → Int) : Prop :=
  (∀ v : Nat, v < n → w v = -1 ∨ (0 ≤ w v ∧ D v ≤ w v)) ∧
  (∀ v : Nat, v < n → D v < 1000000 → zRk D v ≤ k → w v = D v) ∧
  (∀ v : Nat, v < n → D v < 1000000 → zRk D v ≤ k + 1 → ∀ c : Nat, c < n → c ≠ v → W c v < 1000000 → D c + W c v = D v → (c < x ∨ (c = x ∧ v < y)) → w v = D v)
theorem zBf.init (G : zGd W D A n) (hw : ∀ v : Nat, v < n → w v = if v = A then 0 else -1) : zBf W D n 0 0 0 w := by
  obtain ⟨⟨g1, g2⟩, g3, g4, g5, g6, g7⟩ := G
  refine ⟨fun v hv => ?_, fun v hv hl hr => ?_, fun v hv hl hr c hc hne h1 h2 h3 => by omega⟩
  · rw [hw v hv]
    split
    · rename_i e
      subst e
      omega
    · exact Or.inl rfl
  · rw [hw v hv]
    split
    · rename_i e
      subst e
      omega
    · exfalso
      rename_i e
      obtain ⟨c, c1, c2, c3, c4⟩ := g6 v (by omega) e hl
      have p1 := g4 c c1
      have p2 := (g7 c v c1 (by omega) c2).1
      have : zRk D A < zRk D v := zRk_lt (by omega) (by omega)
      omega
/-- x is settled, if y is to be settled by it -/
theorem zBf.pre (G : zGd W D A n) (H : zBf W D n k x y w) (hx : x < n) (hy : y < n) (hne : x ≠ y) (hl : D y < 1000000) (hr : zRk D y ≤ k + 1) (h2 : D x + W x y = D y) : w x = D x := by
  obtain ⟨⟨g1, g2⟩, g3, g4, g5, g6, g7⟩ := G
  have p := (g7 x y (by omega) (by omega) hne).1
  have q : zRk D x < zRk D y := zRk_lt (by omega) (by omega)
  exact H.2.1 x hx (by omega) (by omega)
theorem zBf.sk {d : Int} (G : zGd W D A n) (H : zBf W D n k x y w) (hx : x < n) (hy : y < n) (hd : W x y = if x = y then 0 else if d = 0 then 1000000 else d) (hc : w x = -1 ∨ d = 0 ∨ (w x ≠ -1 ∧ w y ≠ -1 ∧ w y ≤ w x + d)) : zBf W D n k x (y + 1) w := by
  refine ⟨H.1, H.2.1, fun v hv hl hr c hc' hne h1 h2 h3 => ?_⟩
  by_cases z : c = x ∧ v = y
  · obtain ⟨rfl, rfl⟩ := z
    have p := H.pre G hx hy hne hl hr h2
    rw [if_neg hne] at hd
    have g4 := G.2.2.1 c (by have := G.1.2; omega)
    have s := H.1 v hy
    by_cases z0 : d = 0
    · rw [if_pos z0] at hd
      omega
    · rw [if_neg z0] at hd
      omega
  · exact H.2.2 v hv hl hr c hc' hne h1 h2 (by omega)
theorem zBf.rl {d : Int} (G : zGd W D A n) (H : zBf W D n k x y w) (hx : x < n) (hy : y < n) (hd : W x y = if x = y then 0 else if d = 0 then 1000000 else d) (hd0 : d ≠ 0) (hne : x ≠ y) (h1 : w x ≠ -1) (h2 : w y = -1 ∨ w x + d < w y) (e1 : w' y = w x + d) (e2 : ∀ v : Nat, v ≠ y → w' v = w v) : zBf W D n k x (y + 1) w' := by
  rw [if_neg hne, if_neg hd0] at hd
  have g8 := G.1.2
  have tr := G.2.2.2.1 x y (by omega) (by omega)
  have s := H.1 y hy
  have sx := H.1 x hx
  have gy := G.2.2.1 y (by omega)
  have pw := (G.2.2.2.2.2 x y (by omega) (by omega) hne).1
  refine ⟨fun v hv => ?_, fun v hv hl hr => ?_, fun v hv hl hr c hc' hne' k1 k2 k3 => ?_⟩
  · by_cases z : v = y
    · subst z
      rw [e1]
      omega
    · rw [e2 v z]
      exact H.1 v hv
  · have o := H.2.1 v hv hl hr
    by_cases z : v = y
    · subst z
      omega
    · rw [e2 v z]
      exact o
  · by_cases z : v = y
    · subst z
      by_cases zc : c = x
      · subst zc
        have p := H.pre G hx hy hne hl hr k2
        rw [e1]
        omega
      · have o := H.2.2 v hv hl hr c hc' hne' k1 k2 (by omega)
        omega
    · rw [e2 v z]
      exact H.2.2 v hv hl hr c hc' hne' k1 k2 (by omega)
theorem zBf.nx (H : zBf W D n k x y w) (hy : n ≤ y) : zBf W D n k (x + 1) 0 w :=
  ⟨H.1, H.2.1, fun v hv hl hr c hc hne h1 h2 h3 => H.2.2 v hv hl hr c hc hne h1 h2 (by omega)⟩
theorem zBf.nk (G : zGd W D A n) (H : zBf W D n k x y w) (hx : n ≤ x) : zBf W D n (k + 1) 0 0 w := by
  refine ⟨H.1, fun v hv hl hr => ?_, fun v hv hl hr c hc hne h1 h2 h3 => by omega⟩
  obtain ⟨⟨g1, g2⟩, g3, g4, g5, g6, g7⟩ := G
  by_cases e : v = A
  · subst e
    refine H.2.1 v hv hl ?_
    have : zRk D v = 0 := zRc_0 (fun u hu => by have := g4 u hu; omega)
    omega
  · obtain ⟨c, c1, c2, c3, c4⟩ := g6 v (by omega) e hl
    have c5 := ((g7 c v c1 (by omega) c2).2 c3).1
    have t := g5 c v c1 (by omega)
    exact H.2.2 v hv hl hr c c5 c2 c3 (by omega) (by omega)
theorem zBf.fin (G : zGd W D A n) (H : zBf W D n k x y w) (hk : n ≤ k) {v : Nat} (hv : v < n) (hw : w v < 1000000) : w v = if D v < 1000000 then D v else -1 := by
  obtain ⟨⟨g1, g2⟩, g3, g4, g5, g6, g7⟩ := G
  split
  · rename_i hl
    refine H.2.1 v hv hl (Nat.le_trans (zRc_m (m := n) 8 (fun u hu hd => ?_)).1 hk)
    by_cases e : u = A
    · omega
    · obtain ⟨c, c1, c2, c3, c4⟩ := g6 u hu e (by omega)
      exact ((g7 c u c1 hu c2).2 c3).2
  · have := H.1 v hv
    omega
/-- out of what class and model have alike -/
theorem zRO.gd {h : Hp} (R : zRO h) {A n : Nat} (hA : A < n) (hn : (n : Int) = fld h 37 1) (hn8 : n ≤ 8) : zGd (zLa h) (zLe h A) A n := by
  obtain ⟨r1, ⟨f1, f2, f3, f4⟩, r3⟩ := R
  refine ⟨⟨hA, hn8⟩, f2 A (by omega), fun v hv => (f1 A v (by omega) hv).1, fun u v hu hv => ?_, fun v hv hne hl => f4 A v (by omega) hv (fun z => hne z.symm) hl, fun u v hu hv hne => ?_⟩
  · have := f3 A v u (by omega) hv hu hu
    have := (f1 u v hu hv).2.1
    omega
  · obtain ⟨d1, d2⟩ := r3 u v hu hv
    rw [if_neg hne] at d1
    by_cases z : fld h (48 + (u : Int)) v = 0
    · rw [if_pos z] at d1
      omega
    · rw [if_neg z] at d1
      have d2 := d2 z
      omega
/-- what is alike of roads stays -/
def zkRO (ms : Zms) : Bool := zqN ms 7 7 0 64 && (zqN ms 8 8 0 64 && zqN ms 48 55 0 8)
theorem zRO.eq {h g : Hp} (P : zRO h) (a7 : ∀ a b : Nat, a < 8 → b < 8 → zLa g a b = zLa h a b) (a8 : ∀ a b : Nat, a < 8 → b < 8 → zLe g a b = zLe h a b) (ad : ∀ a b : Nat, a < 8 → b < 8 → fld g (48 + (a : Int)) b = fld h (48 + (a : Int)) b) (hn : fld h 37 1 ≤ fld g 37 1) : zRO g := by
  obtain ⟨p1, p2, p3⟩ := P
  refine ⟨fun a b ha hb => by rw [a7 a b ha hb]; exact p1 a b ha hb, (p2.cg a7).cg2 a8 (Nat.le_refl _), fun a b ha hb => ?_⟩
  rw [a7 a b ha hb, ad a b ha hb]
  obtain ⟨d1, d2⟩ := p3 a b ha hb
  exact ⟨d1, fun z => by have := d2 z; omega⟩
theorem zRO.kp {h g : Hp} {ms : Zms} {c s : Int} (P : zRO h) (R : zXR ms c s h g) (e : zkRO ms = true) (hn : fld h 37 1 ≤ fld g 37 1) : zRO g := by
  unfold zkRO at e
  simp only [Bool.and_eq_true] at e
  obtain ⟨e1, e2, e3⟩ := e
  exact P.eq (fun a b ha hb => R.f e1 (r := 7) (by first | decide | exact ⟨by decide, by decide⟩) ⟨Nat.zero_le _, by omega⟩ (by first | decide | exact ⟨by decide, by decide⟩)) (fun a b ha hb => R.f e2 (r := 8) (by first | decide | exact ⟨by decide, by decide⟩) ⟨Nat.zero_le _, by omega⟩ (by first | decide | exact ⟨by decide, by decide⟩)) (fun a b ha hb => R.f e3 (by first | omega | exact ⟨by omega, by omega⟩) ⟨Nat.zero_le _, by omega⟩ (by first | omega | exact ⟨by omega, by omega⟩)) hn
theorem zRO.mr {h g : Hp} {ms : Zms} (P : zRO h) (R : zMR ms h g) (e : zkRO ms = true) (hn : fld h 37 1 ≤ fld g 37 1) : zRO g := by
  unfold zkRO at e
  simp only [Bool.and_eq_true] at e
  obtain ⟨e1, e2, e3⟩ := e
  exact P.eq (fun a b ha hb => R.f e1 (r := 7) (by first | decide | exact ⟨by decide, by decide⟩) ⟨Nat.zero_le _, by omega⟩) (fun a b ha hb => R.f e2 (r := 8) (by first | decide | exact ⟨by decide, by decide⟩) ⟨Nat.zero_le _, by omega⟩) (fun a b ha hb => R.f e3 (by first | omega | exact ⟨by omega, by omega⟩) ⟨Nat.zero_le _, by omega⟩) hn
/-- a road is laid on both sides -/
theorem zRO.rd {h h1 g : Hp} {ms ms' : Zms} {c s c' s' x a b : Int} (P : zRO h) (R : zXR ms c s h h1) (S : zXR ms' c' s' h1 g) (e1 : zqN ms 48 55 0 8 = true) (e2 : (zqN ms' 7 7 0 64 && zqN ms' 8 8 0 64) = true) (x1 : zLd h1) (x2 : zFw (zLa h1) (zLe h1) 8) (x3 : ∀ p q : Nat, p < 8 → q < 8 → zLa h1 p q = if (p = a.toNat ∧ q = b.toNat) ∨ (p = b.toNat ∧ q = a.toNat) then x else zLa h p q) (m : ∀ p q : Nat, p < 8 → q < 8 → fld g (48 + (p : Int)) q = if (p = a.toNat ∧ q = b.toNat) ∨ (p = b.toNat ∧ q = a.toNat) then x else fld h1 (48 + (p : Int)) q) (hx : 1 ≤ x ∧ x ≤ 9) (hab : 0 ≤ a ∧ a < fld h 37 1 ∧ 0 ≤ b ∧ b < fld h 37 1 ∧ a ≠ b) (hn : fld g 37 1 = fld h 37 1) : zRO g := by
  rw [Bool.and_eq_true] at e2
  have a7 : ∀ a b : Nat, a < 8 → b < 8 → zLa g a b = zLa h1 a b := fun a b ha hb => S.f e2.1 (r := 7) (by first | decide | exact ⟨by decide, by decide⟩) ⟨Nat.zero_le _, by omega⟩ (by first | decide | exact ⟨by decide, by decide⟩)
  have a8 : ∀ a b : Nat, a < 8 → b < 8 → zLe g a b = zLe h1 a b := fun a b ha hb => S.f e2.2 (r := 8) (by first | decide | exact ⟨by decide, by decide⟩) ⟨Nat.zero_le _, by omega⟩ (by first | decide | exact ⟨by decide, by decide⟩)
  have ad : ∀ a b : Nat, a < 8 → b < 8 → fld h1 (48 + (a : Int)) b = fld h (48 + (a : Int)) b := fun a b ha hb => R.f e1 (by first | omega | exact ⟨by omega, by omega⟩) ⟨Nat.zero_le _, by omega⟩ (by first | omega | exact ⟨by omega, by omega⟩)
  refine ⟨fun p q hp hq => by rw [a7 p q hp hq]; exact x1 p q hp hq, (x2.cg a7).cg2 a8 (Nat.le_refl _), fun p q hp hq => ?_⟩
  rw [a7 p q hp hq, x3 p q hp hq, m p q hp hq, ad p q hp hq, hn]
  by_cases z : (p = a.toNat ∧ q = b.toNat) ∨ (p = b.toNat ∧ q = a.toNat)
  · rw [if_pos z, if_pos z, if_neg (by omega), if_neg (by omega)]
    exact ⟨rfl, fun _ => ⟨by omega, by omega, by omega, hx.1, hx.2⟩⟩
  · rw [if_neg z, if_neg z]
    exact P.2.2 p q hp hq
end ZBF
end
