/-! contracts of the class -/
def msx199 : Zms := [(9, 9, 2, 7), (11, 11, 0, 400), (12, 12, 0, 5)]
-- WheelLand$Reader.clause()Z
theorem x199 {sc : List Int} (h : Hp) (C : CI h) : zwC sc 231 199 [(2, 9)] h (zwRt 0 (fun x g => CI g ∧ zXR msx199 (0) (0) h g ∧ (0 ≤ x ∧ x ≤ 1))) := by
  refine zwC_of (D := 230) 3 (by decide +kernel) rfl (ls := [(2, 9), (9, 0), (9, 0)]) rfl ?_
  have X : zXR msx199 0 0 h h := zXR.rf _ _
  refine zwW_p [(1, 0, 2)] (q := 1) (ls' := [(2, 9), (9, 0), (9, 0)]) (st' := [(2, 9)]) (by decide +kernel) rfl ?_
  refine zwW_gs C.1 (kd := 7) (bn := 4) (n := 9) (t := 0) (lo := -2147483648) (hi := 2147483647) (nx := 4) (by decide +kernel) ?_
  intro v1 ev1 lv1 uv1
  refine zwW_p [(0, 1, 0)] (q := 5) (ls' := [(2, 9), (9, 0), (9, 0)]) (st' := [(0, 1), (0, v1)]) (by decide +kernel) rfl ?_
  refine zwic_ne (q := 18) (nx := 8) (by decide +kernel) (fun c2 => ?_) (fun c2 => ?_)
  · refine zwW_p [(0, -1, 0), (2, 1, 0), (1, 1, 0), (0, 0, 0), (0, 4, 0)] (q := 23) (ls' := [(2, 9), (0, -1), (9, 0)]) (st' := [(0, 4), (0, 0), (0, -1)]) (by decide +kernel) rfl ?_
    refine zwW_cs (k' := 98) (n := 3) (nx := 26) (as := [(0, -1), (0, 0), (0, 4)]) (st' := []) (by decide +kernel) rfl (x98 h C (-1) 0 4 (by omega) (by omega) (by omega)) rfl ?_
    rintro x _ ⟨rfl, ⟨rfl, c3⟩ | ⟨rfl, c3⟩⟩
    · refine zwif_ne (q := 39) (nx := 29) (by decide +kernel) (fun c4 => ?_) (fun c4 => ?_)
      · refine zwW_p [(0, 0, 0)] (q := 40) (ls' := [(2, 9), (0, -1), (9, 0)]) (st' := [(0, 0)]) (by decide +kernel) rfl ?_
        refine zwW_ret (nx := 41) (a := 1) (b := 0) (by decide +kernel) rfl (Or.inr (Or.inl ⟨rfl, by omega⟩)) ?_
        exact ⟨C, X.le (by decide) (by decide), by omega⟩
      · exfalso; omega
    · exfalso; omega
  · refine zwW_p [(1, 0, 2)] (q := 9) (ls' := [(2, 9), (9, 0), (9, 0)]) (st' := [(2, 9)]) (by decide +kernel) rfl ?_
    refine zwW_gs C.1 (kd := 7) (bn := 5) (n := 9) (t := 0) (lo := -2147483648) (hi := 2147483647) (nx := 12) (by decide +kernel) ?_
    intro v5 ev5 lv5 uv5
    refine zwW_p [(0, 13, 0)] (q := 14) (ls' := [(2, 9), (9, 0), (9, 0)]) (st' := [(0, 13), (0, v5)]) (by decide +kernel) rfl ?_
    refine zwW_sbw (nx := 15) (by decide +kernel) ?_
    intro v6 ev6 lv6 uv6
    refine zwW_p [(24, 19, 0), (2, 1, 0), (1, 1, 0), (0, 0, 0), (0, 4, 0)] (q := 23) (ls' := [(2, 9), (0, v6), (9, 0)]) (st' := [(0, 4), (0, 0), (0, v6)]) (by decide +kernel) rfl ?_
    refine zwW_cs (k' := 98) (n := 3) (nx := 26) (as := [(0, v6), (0, 0), (0, 4)]) (st' := []) (by decide +kernel) rfl (x98 h C v6 0 4 (by omega) (by omega) (by omega)) rfl ?_
    rintro x _ ⟨rfl, ⟨rfl, c7⟩ | ⟨rfl, c7⟩⟩
    · refine zwif_ne (q := 39) (nx := 29) (by decide +kernel) (fun c8 => ?_) (fun c8 => ?_)
      · refine zwW_p [(0, 0, 0)] (q := 40) (ls' := [(2, 9), (0, v6), (9, 0)]) (st' := [(0, 0)]) (by decide +kernel) rfl ?_
        refine zwW_ret (nx := 41) (a := 1) (b := 0) (by decide +kernel) rfl (Or.inr (Or.inl ⟨rfl, by omega⟩)) ?_
        exact ⟨C, X.le (by decide) (by decide), by omega⟩
      · exfalso; omega
    · refine zwif_ne (q := 39) (nx := 29) (by decide +kernel) (fun c9 => ?_) (fun c9 => ?_)
      · exfalso; omega
      · refine zwW_p [(1, 0, 2)] (q := 30) (ls' := [(2, 9), (0, v6), (9, 0)]) (st' := [(2, 9)]) (by decide +kernel) rfl ?_
        refine zwW_gc C.1 (kd := 7) (bn := 8) (n := 9) (c := 12) (nx := 33) (by decide +kernel) ?_
        refine zwW_p [(1, 1, 0)] (q := 34) (ls' := [(2, 9), (0, v6), (9, 0)]) (st' := [(0, v6), (2, 12)]) (by decide +kernel) rfl ?_
        refine zwW_al C.1 (a1 := 12) (a2 := 12) (kd := 20) (n := 5) (t := 0) (lo := -2147483648) (hi := 2147483647) (nx := 35) (by decide +kernel) ⟨by decide, by decide⟩ ⟨by omega, by omega⟩ ?_
        intro v10 ev10 lv10 uv10
        refine zwW_p [(0, -1, 0)] (q := 36) (ls' := [(2, 9), (0, v6), (9, 0)]) (st' := [(0, -1), (0, v10)]) (by decide +kernel) rfl ?_
        refine zwic_eq (q := 41) (nx := 39) (by decide +kernel) (fun c11 => ?_) (fun c11 => ?_)
        · refine zwW_p [(1, 0, 2)] (q := 42) (ls' := [(2, 9), (0, v6), (9, 0)]) (st' := [(2, 9)]) (by decide +kernel) rfl ?_
          refine zwW_gc C.1 (kd := 7) (bn := 8) (n := 9) (c := 12) (nx := 45) (by decide +kernel) ?_
          refine zwW_p [(1, 1, 0), (1, 0, 2)] (q := 47) (ls' := [(2, 9), (0, v6), (9, 0)]) (st' := [(2, 9), (0, v6), (2, 12)]) (by decide +kernel) rfl ?_
          refine zwW_gs C.1 (kd := 7) (bn := 6) (n := 9) (t := 0) (lo := 0) (hi := 400) (nx := 50) (by decide +kernel) ?_
          intro v12 ev12 lv12 uv12
          refine zwW_as C.1 (a1 := 12) (a2 := 12) (n := 5) (lo := -2147483648) (hi := 2147483647) (nx := 51) (by decide +kernel) ⟨by decide, by decide⟩ ⟨by omega, by omega⟩ ⟨by omega, by omega⟩ ?_
          intro h13 eh13 Ih13
          have Ch13 : CI h13 := C.wc eh13 Ih13 (by decide) (by decide)
          have Qh13 : zXR [(12, 12, 0, 5)] 0 0 h h13 := zXR.wc eh13 rfl ⟨by decide, by decide, Or.inl (by decide)⟩ ⟨by omega, by omega⟩
          have Xh13 : zXR msx199 (0) (0) h h13 := X.tr (c2 := 0) (s2 := 0) Qh13 (by decide +kernel) (by decide) (by decide)
          refine zwW_p [(1, 0, 2)] (q := 52) (ls' := [(2, 9), (0, v6), (9, 0)]) (st' := [(2, 9)]) (by decide +kernel) rfl ?_
          refine zwW_cm Ch13.1 (op := 60) (k' := 198) (n := 0) (kd := 7) (m := 9) (nx := 55) (r := 9) (tl := []) (st' := []) (by decide +kernel) rfl (by decide +kernel) rfl (x198 h13 Ch13) ?_
          rintro v15 h16 ⟨Ch16, Qh16, f14⟩
          have Xh16 : zXR msx199 (0) (0) h h16 := Xh13.tr (c2 := 0) (s2 := 0) Qh16 (by decide +kernel) (by decide) (by decide)
          refine zwW_p [(15, 0, 0), (1, 1, 0), (0, 3, 0)] (q := 58) (ls' := [(2, 9), (0, v6), (9, 0)]) (st' := [(0, 3), (0, v6)]) (by decide +kernel) rfl ?_
          refine zwic_ge (q := 69) (nx := 61) (by decide +kernel) (fun c17 => ?_) (fun c17 => ?_)
          · refine zwW_p [(1, 0, 2), (0, 0, 0)] (q := 71) (ls' := [(2, 9), (0, v6), (9, 0)]) (st' := [(0, 0), (2, 9)]) (by decide +kernel) rfl ?_
            refine zwW_cm Ch16.1 (op := 60) (k' := 242) (n := 1) (kd := 7) (m := 9) (nx := 74) (r := 9) (tl := [(0, 0)]) (st' := []) (by decide +kernel) rfl (by decide +kernel) rfl (zk_either sc h16 Ch16) ?_
            rintro v19 h20 ⟨Ch20, Qh20, f18⟩
            have Xh20 : zXR msx199 (0) (0) h h20 := Xh16.tr (c2 := 0) (s2 := 0) Qh20 (by decide +kernel) (by decide) (by decide)
            refine zwW_p [(2, 2, 0), (1, 2, 0)] (q := 76) (ls' := [(2, 9), (0, v6), (0, v19)]) (st' := [(0, v19)]) (by decide +kernel) rfl ?_
            refine zwif_eq (q := 108) (nx := 79) (by decide +kernel) (fun c21 => ?_) (fun c21 => ?_)
            · refine zwW_p [(0, 0, 0)] (q := 109) (ls' := [(2, 9), (0, v6), (0, v19)]) (st' := [(0, 0)]) (by decide +kernel) rfl ?_
              refine zwW_ret (nx := 110) (a := 1) (b := 0) (by decide +kernel) rfl (Or.inr (Or.inl ⟨rfl, by omega⟩)) ?_
              exact ⟨Ch20, Xh20.le (by decide) (by decide), by omega⟩
            · refine zwW_p [(1, 0, 2)] (q := 80) (ls' := [(2, 9), (0, v6), (0, v19)]) (st' := [(2, 9)]) (by decide +kernel) rfl ?_
              refine zwW_gs Ch20.1 (kd := 7) (bn := 4) (n := 9) (t := 0) (lo := -2147483648) (hi := 2147483647) (nx := 83) (by decide +kernel) ?_
              intro v22 ev22 lv22 uv22
              refine zwW_p [(0, 59, 0)] (q := 85) (ls' := [(2, 9), (0, v6), (0, v19)]) (st' := [(0, 59), (0, v22)]) (by decide +kernel) rfl ?_
              refine zwic_ne (q := 108) (nx := 88) (by decide +kernel) (fun c23 => ?_) (fun c23 => ?_)
              · refine zwW_p [(0, 0, 0)] (q := 109) (ls' := [(2, 9), (0, v6), (0, v19)]) (st' := [(0, 0)]) (by decide +kernel) rfl ?_
                refine zwW_ret (nx := 110) (a := 1) (b := 0) (by decide +kernel) rfl (Or.inr (Or.inl ⟨rfl, by omega⟩)) ?_
                exact ⟨Ch20, Xh20.le (by decide) (by decide), by omega⟩
              · refine zwW_p [(1, 0, 2)] (q := 89) (ls' := [(2, 9), (0, v6), (0, v19)]) (st' := [(2, 9)]) (by decide +kernel) rfl ?_
                refine zwW_cm Ch20.1 (op := 60) (k' := 198) (n := 0) (kd := 7) (m := 9) (nx := 92) (r := 9) (tl := []) (st' := []) (by decide +kernel) rfl (by decide +kernel) rfl (x198 h20 Ch20) ?_
                rintro v25 h26 ⟨Ch26, Qh26, f24⟩
                have Xh26 : zXR msx199 (0) (0) h h26 := Xh20.tr (c2 := 0) (s2 := 0) Qh26 (by decide +kernel) (by decide) (by decide)
                refine zwif_eq (q := 108) (nx := 95) (by decide +kernel) (fun c27 => ?_) (fun c27 => ?_)
                · refine zwW_p [(0, 0, 0)] (q := 109) (ls' := [(2, 9), (0, v6), (0, v19)]) (st' := [(0, 0)]) (by decide +kernel) rfl ?_
                  refine zwW_ret (nx := 110) (a := 1) (b := 0) (by decide +kernel) rfl (Or.inr (Or.inl ⟨rfl, by omega⟩)) ?_
                  exact ⟨Ch26, Xh26.le (by decide) (by decide), by omega⟩
                · refine zwW_p [(1, 0, 2), (0, -21, 0)] (q := 98) (ls' := [(2, 9), (0, v6), (0, v19)]) (st' := [(0, -21), (2, 9)]) (by decide +kernel) rfl ?_
                  refine zwW_cm Ch26.1 (op := 60) (k' := 243) (n := 1) (kd := 7) (m := 9) (nx := 101) (r := 9) (tl := [(0, -21)]) (st' := []) (by decide +kernel) rfl (by decide +kernel) rfl (x243 h26 Ch26 (-21) (by omega)) ?_
                  rintro v29 h30 ⟨Ch30, Qh30, f28⟩
                  have Xh30 : zXR msx199 (0) (0) h h30 := Xh26.tr (c2 := 0) (s2 := 0) Qh30 (by decide +kernel) (by decide) (by decide)
                  refine zwif_eq (q := 108) (nx := 104) (by decide +kernel) (fun c31 => ?_) (fun c31 => ?_)
                  · refine zwW_p [(0, 0, 0)] (q := 109) (ls' := [(2, 9), (0, v6), (0, v19)]) (st' := [(0, 0)]) (by decide +kernel) rfl ?_
                    refine zwW_ret (nx := 110) (a := 1) (b := 0) (by decide +kernel) rfl (Or.inr (Or.inl ⟨rfl, by omega⟩)) ?_
                    exact ⟨Ch30, Xh30.le (by decide) (by decide), by omega⟩
                  · refine zwW_p [(0, 1, 0), (24, 109, 0)] (q := 109) (ls' := [(2, 9), (0, v6), (0, v19)]) (st' := [(0, 1)]) (by decide +kernel) rfl ?_
                    refine zwW_ret (nx := 110) (a := 1) (b := 0) (by decide +kernel) rfl (Or.inr (Or.inl ⟨rfl, by omega⟩)) ?_
                    exact ⟨Ch30, Xh30.le (by decide) (by decide), by omega⟩
          · refine zwW_p [(1, 0, 2), (0, 0, 0)] (q := 63) (ls' := [(2, 9), (0, v6), (9, 0)]) (st' := [(0, 0), (2, 9)]) (by decide +kernel) rfl ?_
            refine zwW_cm Ch16.1 (op := 60) (k' := 241) (n := 1) (kd := 7) (m := 9) (nx := 66) (r := 9) (tl := [(0, 0)]) (st' := []) (by decide +kernel) rfl (by decide +kernel) rfl (zk_sum sc h16 Ch16) ?_
            rintro v33 h34 ⟨Ch34, Qh34, f32⟩
            have Xh34 : zXR msx199 (0) (0) h h34 := Xh16.tr (c2 := 0) (s2 := 0) Qh34 (by decide +kernel) (by decide) (by decide)
            refine zwW_p [(24, 74, 0), (2, 2, 0), (1, 2, 0)] (q := 76) (ls' := [(2, 9), (0, v6), (0, v33)]) (st' := [(0, v33)]) (by decide +kernel) rfl ?_
            refine zwif_eq (q := 108) (nx := 79) (by decide +kernel) (fun c35 => ?_) (fun c35 => ?_)
            · refine zwW_p [(0, 0, 0)] (q := 109) (ls' := [(2, 9), (0, v6), (0, v33)]) (st' := [(0, 0)]) (by decide +kernel) rfl ?_
              refine zwW_ret (nx := 110) (a := 1) (b := 0) (by decide +kernel) rfl (Or.inr (Or.inl ⟨rfl, by omega⟩)) ?_
              exact ⟨Ch34, Xh34.le (by decide) (by decide), by omega⟩
            · refine zwW_p [(1, 0, 2)] (q := 80) (ls' := [(2, 9), (0, v6), (0, v33)]) (st' := [(2, 9)]) (by decide +kernel) rfl ?_
              refine zwW_gs Ch34.1 (kd := 7) (bn := 4) (n := 9) (t := 0) (lo := -2147483648) (hi := 2147483647) (nx := 83) (by decide +kernel) ?_
              intro v36 ev36 lv36 uv36
              refine zwW_p [(0, 59, 0)] (q := 85) (ls' := [(2, 9), (0, v6), (0, v33)]) (st' := [(0, 59), (0, v36)]) (by decide +kernel) rfl ?_
              refine zwic_ne (q := 108) (nx := 88) (by decide +kernel) (fun c37 => ?_) (fun c37 => ?_)
              · refine zwW_p [(0, 0, 0)] (q := 109) (ls' := [(2, 9), (0, v6), (0, v33)]) (st' := [(0, 0)]) (by decide +kernel) rfl ?_
                refine zwW_ret (nx := 110) (a := 1) (b := 0) (by decide +kernel) rfl (Or.inr (Or.inl ⟨rfl, by omega⟩)) ?_
                exact ⟨Ch34, Xh34.le (by decide) (by decide), by omega⟩
              · refine zwW_p [(1, 0, 2)] (q := 89) (ls' := [(2, 9), (0, v6), (0, v33)]) (st' := [(2, 9)]) (by decide +kernel) rfl ?_
                refine zwW_cm Ch34.1 (op := 60) (k' := 198) (n := 0) (kd := 7) (m := 9) (nx := 92) (r := 9) (tl := []) (st' := []) (by decide +kernel) rfl (by decide +kernel) rfl (x198 h34 Ch34) ?_
                rintro v39 h40 ⟨Ch40, Qh40, f38⟩
                have Xh40 : zXR msx199 (0) (0) h h40 := Xh34.tr (c2 := 0) (s2 := 0) Qh40 (by decide +kernel) (by decide) (by decide)
                refine zwif_eq (q := 108) (nx := 95) (by decide +kernel) (fun c41 => ?_) (fun c41 => ?_)
                · refine zwW_p [(0, 0, 0)] (q := 109) (ls' := [(2, 9), (0, v6), (0, v33)]) (st' := [(0, 0)]) (by decide +kernel) rfl ?_
                  refine zwW_ret (nx := 110) (a := 1) (b := 0) (by decide +kernel) rfl (Or.inr (Or.inl ⟨rfl, by omega⟩)) ?_
                  exact ⟨Ch40, Xh40.le (by decide) (by decide), by omega⟩
                · refine zwW_p [(1, 0, 2), (0, -21, 0)] (q := 98) (ls' := [(2, 9), (0, v6), (0, v33)]) (st' := [(0, -21), (2, 9)]) (by decide +kernel) rfl ?_
                  refine zwW_cm Ch40.1 (op := 60) (k' := 243) (n := 1) (kd := 7) (m := 9) (nx := 101) (r := 9) (tl := [(0, -21)]) (st' := []) (by decide +kernel) rfl (by decide +kernel) rfl (x243 h40 Ch40 (-21) (by omega)) ?_
                  rintro v43 h44 ⟨Ch44, Qh44, f42⟩
                  have Xh44 : zXR msx199 (0) (0) h h44 := Xh40.tr (c2 := 0) (s2 := 0) Qh44 (by decide +kernel) (by decide) (by decide)
                  refine zwif_eq (q := 108) (nx := 104) (by decide +kernel) (fun c45 => ?_) (fun c45 => ?_)
                  · refine zwW_p [(0, 0, 0)] (q := 109) (ls' := [(2, 9), (0, v6), (0, v33)]) (st' := [(0, 0)]) (by decide +kernel) rfl ?_
                    refine zwW_ret (nx := 110) (a := 1) (b := 0) (by decide +kernel) rfl (Or.inr (Or.inl ⟨rfl, by omega⟩)) ?_
                    exact ⟨Ch44, Xh44.le (by decide) (by decide), by omega⟩
                  · refine zwW_p [(0, 1, 0), (24, 109, 0)] (q := 109) (ls' := [(2, 9), (0, v6), (0, v33)]) (st' := [(0, 1)]) (by decide +kernel) rfl ?_
                    refine zwW_ret (nx := 110) (a := 1) (b := 0) (by decide +kernel) rfl (Or.inr (Or.inl ⟨rfl, by omega⟩)) ?_
                    exact ⟨Ch44, Xh44.le (by decide) (by decide), by omega⟩
        · refine zwW_p [(0, 0, 0)] (q := 40) (ls' := [(2, 9), (0, v6), (9, 0)]) (st' := [(0, 0)]) (by decide +kernel) rfl ?_
          refine zwW_ret (nx := 41) (a := 1) (b := 0) (by decide +kernel) rfl (Or.inr (Or.inl ⟨rfl, by omega⟩)) ?_
          exact ⟨C, X.le (by decide) (by decide), by omega⟩
def msx120 : Zms := [(9, 9, 2, 7), (11, 11, 0, 400), (12, 12, 0, 5)]
-- WheelLand$Reader.read()I
theorem x120 {sc : List Int} (h : Hp) (C : CI h) : zwC sc 232 120 [(2, 9)] h (zwRt 0 (fun x g => CI g ∧ zXR msx120 (0) (0) h g ∧ (-2147483648 ≤ x ∧ x ≤ 2147483647))) := by
  refine zwC_of (D := 231) 2 (by decide +kernel) rfl (ls := [(2, 9), (9, 0)]) rfl ?_
  have X : zXR msx120 0 0 h h := zXR.rf _ _
  refine zwW_p [(1, 0, 2), (0, 0, 0)] (q := 2) (ls' := [(2, 9), (9, 0)]) (st' := [(0, 0), (2, 9)]) (by decide +kernel) rfl ?_
  refine zwW_ps C.1 (kd := 7) (bn := 2) (n := 9) (lo := 0) (hi := 400) (nx := 5) (by decide +kernel) ⟨by decide, by decide⟩ ?_
  intro h1 eh1 Ih1
  have Ch1 : CI h1 := C.wc eh1 Ih1 (by decide) (by decide)
  have Qh1 : zXR [(9, 9, 2, 3)] 0 0 h h1 := zXR.wc eh1 rfl ⟨by decide, by decide, Or.inl (by decide)⟩ ⟨by decide, by decide⟩
  have Xh1 : zXR msx120 (0) (0) h h1 := X.tr (c2 := 0) (s2 := 0) Qh1 (by decide +kernel) (by decide) (by decide)
  have th1_9_2 : fld h1 9 2 = 0 := by rw [eh1]; exact fld_wr_eq (C.1.s (a1 := 9) (a2 := 9) (k := 7) (n := 9) (by decide +kernel) (by decide) (by decide)) (by decide)
  refine zwW_p [(1, 0, 2), (0, 0, 0)] (q := 7) (ls' := [(2, 9), (9, 0)]) (st' := [(0, 0), (2, 9)]) (by decide +kernel) rfl ?_
  refine zwW_ps Ch1.1 (kd := 7) (bn := 6) (n := 9) (lo := 0) (hi := 400) (nx := 10) (by decide +kernel) ⟨by decide, by decide⟩ ?_
  intro h2 eh2 Ih2
  have Ch2 : CI h2 := Ch1.wc eh2 Ih2 (by decide) (by decide)
  have Qh2 : zXR [(9, 9, 6, 7)] 0 0 h1 h2 := zXR.wc eh2 rfl ⟨by decide, by decide, Or.inl (by decide)⟩ ⟨by decide, by decide⟩
  have Xh2 : zXR msx120 (0) (0) h h2 := Xh1.tr (c2 := 0) (s2 := 0) Qh2 (by decide +kernel) (by decide) (by decide)
  have th2_9_2 : fld h2 9 2 = fld h1 9 2 := Qh2.f (a1 := 9) (a2 := 9) (j1 := 2) (j2 := 3) (by decide +kernel) ⟨by decide, by decide⟩ ⟨by decide, by decide⟩ ⟨by decide, by decide⟩
  refine zwW_p [(1, 0, 2)] (q := 11) (ls' := [(2, 9), (9, 0)]) (st' := [(2, 9)]) (by decide +kernel) rfl ?_
  refine zwW_gc Ch2.1 (kd := 7) (bn := 8) (n := 9) (c := 12) (nx := 14) (by decide +kernel) ?_
  refine zwW_p [(0, -1, 0)] (q := 15) (ls' := [(2, 9), (9, 0)]) (st' := [(0, -1), (2, 12)]) (by decide +kernel) rfl ?_
  refine zwW_csv (k' := 180) (n := 2) (nx := 18) (as := [(2, 12), (0, -1)]) (st' := []) (by decide +kernel) rfl (x180_12 Ch2 ⟨by omega, by omega⟩) rfl ?_
  rintro h3 ⟨Ch3, Qh3, fh3⟩
  have Xh3 : zXR msx120 (0) (0) h h3 := Xh2.tr (c2 := 0) (s2 := 0) Qh3 (by decide +kernel) (by decide) (by decide)
  have th3_9_2 : fld h3 9 2 = fld h2 9 2 := Qh3.f (a1 := 9) (a2 := 9) (j1 := 2) (j2 := 3) (by decide +kernel) ⟨by decide, by decide⟩ ⟨by decide, by decide⟩ ⟨by decide, by decide⟩
  refine zwW_p [(1, 0, 2)] (q := 19) (ls' := [(2, 9), (9, 0)]) (st' := [(2, 9)]) (by decide +kernel) rfl ?_
  refine zwW_cm Ch3.1 (op := 60) (k' := 198) (n := 0) (kd := 7) (m := 9) (nx := 22) (r := 9) (tl := []) (st' := []) (by decide +kernel) rfl (by decide +kernel) rfl (x198 h3 Ch3) ?_
  rintro v5 h6 ⟨Ch6, Qh6, f4⟩
  have Xh6 : zXR msx120 (0) (0) h h6 := Xh3.tr (c2 := 0) (s2 := 0) Qh6 (by decide +kernel) (by decide) (by decide)
  refine zwW_p [(15, 0, 0), (0, 0, 0), (2, 1, 0)] (q := 25) (ls' := [(2, 9), (0, 0)]) (st' := []) (by decide +kernel) rfl ?_
  have L7 : ∀ (n : Nat) (v1L7 : Int) (hL7 : Hp), n = ((1000 - v1L7)).toNat → (0 ≤ v1L7 ∧ v1L7 ≤ 1000) → CI hL7 → zXR msx120 (0) (0) h hL7 → zwW sc (231) 120 25 [(2, 9), (0, v1L7)] [] hL7 (zwRt 0 (fun x g => CI g ∧ zXR msx120 (0) (0) h g ∧ (-2147483648 ≤ x ∧ x ≤ 2147483647))) := by
    intro n
    induction n using Nat.strongRecOn with
    | ind n IHL7 =>
      intro v1L7 hL7 hnL7 iL7_0 ChL7 XhL7
      refine zwW_p [(1, 1, 0), (0, 400, 0)] (q := 29) (ls' := [(2, 9), (0, v1L7)]) (st' := [(0, 400), (0, v1L7)]) (by decide +kernel) rfl ?_
      refine zwic_ge (q := 57) (nx := 32) (by decide +kernel) (fun c8 => ?_) (fun c8 => ?_)
      · refine zwW_p [(0, -1, 0)] (q := 58) (ls' := [(2, 9), (0, v1L7)]) (st' := [(0, -1)]) (by decide +kernel) rfl ?_
        refine zwW_ret (nx := 59) (a := 0) (b := 0) (by decide +kernel) rfl (Or.inl rfl) ?_
        exact ⟨ChL7, XhL7.le (by decide) (by decide), by omega⟩
      · refine zwW_p [(1, 0, 2)] (q := 33) (ls' := [(2, 9), (0, v1L7)]) (st' := [(2, 9)]) (by decide +kernel) rfl ?_
        refine zwW_gs ChL7.1 (kd := 7) (bn := 4) (n := 9) (t := 0) (lo := -2147483648) (hi := 2147483647) (nx := 36) (by decide +kernel) ?_
        intro v9 ev9 lv9 uv9
        refine zwif_eq (q := 57) (nx := 39) (by decide +kernel) (fun c10 => ?_) (fun c10 => ?_)
        · refine zwW_p [(0, -1, 0)] (q := 58) (ls' := [(2, 9), (0, v1L7)]) (st' := [(0, -1)]) (by decide +kernel) rfl ?_
          refine zwW_ret (nx := 59) (a := 0) (b := 0) (by decide +kernel) rfl (Or.inl rfl) ?_
          exact ⟨ChL7, XhL7.le (by decide) (by decide), by omega⟩
        · refine zwW_p [(1, 0, 2)] (q := 40) (ls' := [(2, 9), (0, v1L7)]) (st' := [(2, 9)]) (by decide +kernel) rfl ?_
          refine zwW_cm ChL7.1 (op := 60) (k' := 199) (n := 0) (kd := 7) (m := 9) (nx := 43) (r := 9) (tl := []) (st' := []) (by decide +kernel) rfl (by decide +kernel) rfl (x199 hL7 ChL7) ?_
          rintro v12 h13 ⟨Ch13, Qh13, f11⟩
          have Xh13 : zXR msx120 (0) (0) h h13 := XhL7.tr (c2 := 0) (s2 := 0) Qh13 (by decide +kernel) (by decide) (by decide)
          refine zwif_ne (q := 51) (nx := 46) (by decide +kernel) (fun c14 => ?_) (fun c14 => ?_)
          · refine zwW_inc (i := 1) (c := 1) (x := v1L7) (nx := 54) (by decide +kernel) rfl ⟨by omega, by omega⟩ (ls' := [(2, 9), (0, (v1L7 + 1))]) rfl ?_
            refine zwW_p [(24, 25, 0)] (q := 25) (ls' := [(2, 9), (0, (v1L7 + 1))]) (st' := []) (by decide +kernel) rfl ?_
            exact IHL7 ((1000 - (v1L7 + 1))).toNat (by omega) (v1L7 + 1) h13 rfl (by omega) Ch13 (Xh13.le (by decide) (by decide))
          · refine zwW_p [(1, 0, 2)] (q := 47) (ls' := [(2, 9), (0, v1L7)]) (st' := [(2, 9)]) (by decide +kernel) rfl ?_
            refine zwW_gs Ch13.1 (kd := 7) (bn := 3) (n := 9) (t := 0) (lo := 0) (hi := 400) (nx := 50) (by decide +kernel) ?_
            intro v15 ev15 lv15 uv15
            refine zwW_ret (nx := 51) (a := 0) (b := 0) (by decide +kernel) rfl (Or.inl rfl) ?_
            exact ⟨Ch13, Xh13.le (by decide) (by decide), by omega⟩
  exact L7 _ 0 h6 rfl (by omega) Ch6 (Xh6.le (by decide) (by decide))
def msx146 : Zms := [(19, 19, 4, 5), (24, 24, 0, 6), (25, 25, 0, 6), (26, 26, 0, 6)]
-- WheelLand$Handwork.find()V
theorem x146 {sc : List Int} (h : Hp) (C : CI h) : zwC sc 71 146 [(2, 19)] h (zwRv (fun g => CI g ∧ zXR msx146 (0) (0) h g)) := by
  refine zwC_of (D := 70) 1 (by decide +kernel) rfl (ls := [(2, 19)]) rfl ?_
  have X : zXR msx146 0 0 h h := zXR.rf _ _
  refine zwW_p [(1, 0, 2), (0, 1000000, 0)] (q := 3) (ls' := [(2, 19)]) (st' := [(0, 1000000), (2, 19)]) (by decide +kernel) rfl ?_
  refine zwW_ps C.1 (kd := 3) (bn := 4) (n := 10) (lo := -2147483648) (hi := 2147483647) (nx := 6) (by decide +kernel) ⟨by decide, by decide⟩ ?_
  intro h1 eh1 Ih1
  have Ch1 : CI h1 := C.wc eh1 Ih1 (by decide) (by decide)
  have Qh1 : zXR [(19, 19, 4, 5)] 0 0 h h1 := zXR.wc eh1 rfl ⟨by decide, by decide, Or.inl (by decide)⟩ ⟨by decide, by decide⟩
  have Xh1 : zXR msx146 (0) (0) h h1 := X.tr (c2 := 0) (s2 := 0) Qh1 (by decide +kernel) (by decide) (by decide)
  refine zwW_p [(1, 0, 2), (0, 0, 0), (0, 0, 0)] (q := 9) (ls' := [(2, 19)]) (st' := [(0, 0), (0, 0), (2, 19)]) (by decide +kernel) rfl ?_
  refine zwW_cmv Ch1.1 (op := 60) (k' := 212) (n := 2) (kd := 3) (m := 10) (nx := 12) (r := 19) (tl := [(0, 0), (0, 0)]) (st' := []) (by decide +kernel) rfl (by decide +kernel) rfl (zk_search sc h1 Ch1 0 (by omega)) ?_
  rintro h2 ⟨Ch2, Qh2⟩
  have Xh2 : zXR msx146 (0) (0) h h2 := Xh1.tr (c2 := 0) (s2 := 0) Qh2 (by decide +kernel) (by decide) (by decide)
  refine zwW_retv (nx := 13) (a := 0) (b := 0) (by decide +kernel) ?_
  exact ⟨Ch2, Xh2.le (by decide) (by decide)⟩
-- WheelLand.wouldSpin(LWheelLand$House;)I
theorem x170 {sc : List Int} (h : Hp) (C : CI h) (r : Int) (G_r : gH h r) : zwC sc 3 170 [(2, 1), (2, r)] h (zwRt 0 (fun x g => h = g ∧ (-2147483648 ≤ x ∧ x ≤ 2147483647) ∧ (x ≤ 0 ∨ fld h 4 2 < 300))) := by
  refine zwC_of (D := 2) 3 (by decide +kernel) rfl (ls := [(2, 1), (2, r), (9, 0)]) rfl ?_
  have lw_r := G_r.1
  refine zwW_p [(1, 0, 2)] (q := 1) (ls' := [(2, 1), (2, r), (9, 0)]) (st' := [(2, 1)]) (by decide +kernel) rfl ?_
  refine zwW_gc C.1 (kd := 12) (bn := 4) (n := 13) (c := 4) (nx := 4) (by decide +kernel) ?_
  refine zwW_cm C.1 (op := 60) (k' := 96) (n := 0) (kd := 0) (m := 3) (nx := 7) (r := 4) (tl := []) (st' := []) (by decide +kernel) rfl (by decide +kernel) rfl (x96_4 C) ?_
  rintro v1 _ ⟨rfl, ev1⟩
  have bv1 := zLb_4 C
  refine zwW_p [(0, 300, 0)] (q := 10) (ls' := [(2, 1), (2, r), (9, 0)]) (st' := [(0, 300), (0, v1)]) (by decide +kernel) rfl ?_
  refine zwic_lt (q := 15) (nx := 13) (by decide +kernel) (fun c2 => ?_) (fun c2 => ?_)
  · refine zwW_p [(1, 1, 2)] (q := 16) (ls' := [(2, 1), (2, r), (9, 0)]) (st' := [(2, r)]) (by decide +kernel) rfl ?_
    refine zwX_gi C (kd := 4) (bn := 2) (n := 19) (nx := 19) (by decide +kernel) G_r.2.1 G_r.1 rfl ?_
    intro v3 ev3 lv3 uv3
    refine zwW_p [(1, 1, 2)] (q := 20) (ls' := [(2, 1), (2, r), (9, 0)]) (st' := [(2, r), (0, v3)]) (by decide +kernel) rfl ?_
    refine zwW_get (kd := 4) (bn := 1) (t := 2) (n := 19) (nx := 23) (by decide +kernel) G_r.2.1 rfl ?_
    obtain ⟨v4, ev4⟩ : ∃ z, z = fld h r 1 := ⟨_, rfl⟩
    rw [← ev4]
    have Gv4 : gV h v4 := by rw [ev4]; exact G_r.2.2
    have lv4 := Gv4.1
    refine zwW_p [(1, 0, 2)] (q := 24) (ls' := [(2, 1), (2, r), (9, 0)]) (st' := [(2, 1), (2, v4), (0, v3)]) (by decide +kernel) rfl ?_
    refine zwW_gs C.1 (kd := 12) (bn := 0) (n := 13) (t := 0) (lo := 0) (hi := 156) (nx := 27) (by decide +kernel) ?_
    intro v5 ev5 lv5 uv5
    refine zwW_cs (k' := 162) (n := 1) (nx := 30) (as := [(0, v5)]) (st' := [(2, v4), (0, v3)]) (by decide +kernel) rfl (x162 h C v5 (by omega) (by omega)) rfl ?_
    rintro v6 _ ⟨rfl, f7, f8, f9⟩
    refine zwW_cv (op := 60) (k' := 222) (n := 1) (kd := 11) (m := 17) (nx := 33) (r := v4) (tl := [(0, v6)]) (st' := [(0, v3)]) (by decide +kernel) rfl (by decide +kernel) Gv4.2.1 (x222 h C v4 v6 Gv4 (by omega)) rfl ?_
    rintro v10 _ ⟨rfl, f11⟩
    refine zwW_mlw (nx := 34) (by decide +kernel) ?_
    intro v12 ev12 lv12 uv12
    have Ev12 : v12 = w32 ((fld h r 2) * v10) := by rw [ev12, ev3]
    refine zwW_p [(2, 2, 0), (1, 2, 0), (1, 1, 2)] (q := 37) (ls' := [(2, 1), (2, r), (0, v12)]) (st' := [(2, r), (0, v12)]) (by decide +kernel) rfl ?_
    refine zwX_gi C (kd := 4) (bn := 3) (n := 19) (nx := 40) (by decide +kernel) G_r.2.1 G_r.1 rfl ?_
    intro v13 ev13 lv13 uv13
    refine zwW_p [(1, 1, 2)] (q := 41) (ls' := [(2, 1), (2, r), (0, v12)]) (st' := [(2, r), (0, v13), (0, v12)]) (by decide +kernel) rfl ?_
    refine zwX_gi C (kd := 4) (bn := 7) (n := 19) (nx := 44) (by decide +kernel) G_r.2.1 G_r.1 rfl ?_
    intro v14 ev14 lv14 uv14
    refine zwW_p [(1, 1, 2)] (q := 45) (ls' := [(2, 1), (2, r), (0, v12)]) (st' := [(2, r), (0, v14), (0, v13), (0, v12)]) (by decide +kernel) rfl ?_
    refine zwW_get (kd := 4) (bn := 1) (t := 2) (n := 19) (nx := 48) (by decide +kernel) G_r.2.1 rfl ?_
    rw [← ev4]
    refine zwX_gi C (kd := 11) (bn := 3) (n := 17) (nx := 51) (by decide +kernel) Gv4.2.1 Gv4.1 rfl ?_
    intro v16 ev16 lv16 uv16
    refine zwW_cs (k' := 223) (n := 4) (nx := 54) (as := [(0, v12), (0, v13), (0, v14), (0, v16)]) (st' := []) (by decide +kernel) rfl (x223 h C v12 v13 v14 v16 (by omega) (by omega) (by omega) (by omega)) rfl ?_
    rintro v17 _ ⟨rfl, f18⟩
    refine zwW_ret (nx := 55) (a := 0) (b := 0) (by decide +kernel) rfl (Or.inl rfl) ?_
    exact ⟨rfl, by omega, by omega⟩
  · refine zwW_p [(0, 0, 0)] (q := 14) (ls' := [(2, 1), (2, r), (9, 0)]) (st' := [(0, 0)]) (by decide +kernel) rfl ?_
    refine zwW_ret (nx := 15) (a := 0) (b := 0) (by decide +kernel) rfl (Or.inl rfl) ?_
    exact ⟨rfl, by omega, by omega⟩
def msx232 : Zms := [(1, 1, 1, 2), (1004, 1004, 6, 7), (1004, 1004, 8, 9), (1004, 1004, 9, 10), (1004, 1004, 10, 11), (1011, 1011, 5, 6), (1011, 1011, 6, 7), (1011, 1011, 7, 8), (1011, 1011, 10, 11), (1011, 1011, 13, 14), (1011, 1011, 14, 15)]
-- WheelLand.buyYard(LWheelLand$House;I)V
theorem x232 {sc : List Int} (h : Hp) (C : CI h) (r a : Int) (G_r : gH h r) (q_a : -2147483648 ≤ a ∧ a ≤ 2147483647) : zwC sc 2 232 [(2, 1), (2, r), (0, a)] h (zwRv (fun g => CI g ∧ zXR msx232 (0) (0) h g)) := by
  refine zwC_of (D := 1) 5 (by decide +kernel) rfl (ls := [(2, 1), (2, r), (0, a), (9, 0), (9, 0)]) rfl ?_
  have lw_r := G_r.1
  have X : zXR msx232 0 0 h h := zXR.rf _ _
  refine zwW_p [(1, 1, 2)] (q := 1) (ls' := [(2, 1), (2, r), (0, a), (9, 0), (9, 0)]) (st' := [(2, r)]) (by decide +kernel) rfl ?_
  refine zwW_get (kd := 4) (bn := 1) (t := 2) (n := 19) (nx := 4) (by decide +kernel) G_r.2.1 rfl ?_
  obtain ⟨v1, ev1⟩ : ∃ z, z = fld h r 1 := ⟨_, rfl⟩
  rw [← ev1]
  have Gv1 : gV h v1 := by rw [ev1]; exact G_r.2.2
  have lv1 := Gv1.1
  refine zwW_p [(2, 3, 2), (1, 3, 2), (1, 1, 2)] (q := 7) (ls' := [(2, 1), (2, r), (0, a), (2, v1), (9, 0)]) (st' := [(2, r), (2, v1)]) (by decide +kernel) rfl ?_
  refine zwX_gi C (kd := 4) (bn := 6) (n := 19) (nx := 10) (by decide +kernel) G_r.2.1 G_r.1 rfl ?_
  intro v2 ev2 lv2 uv2
  refine zwW_p [(1, 2, 0)] (q := 11) (ls' := [(2, 1), (2, r), (0, a), (2, v1), (9, 0)]) (st' := [(0, a), (0, v2), (2, v1)]) (by decide +kernel) rfl ?_
  refine zwW_cv (op := 60) (k' := 154) (n := 2) (kd := 11) (m := 17) (nx := 14) (r := v1) (tl := [(0, v2), (0, a)]) (st' := []) (by decide +kernel) rfl (by decide +kernel) Gv1.2.1 (x154 h C v1 v2 a Gv1 (by omega) (by omega)) rfl ?_
  rintro v3 _ ⟨rfl, f4⟩
  refine zwW_p [(2, 4, 0), (1, 4, 0)] (q := 18) (ls' := [(2, 1), (2, r), (0, a), (2, v1), (0, v3)]) (st' := [(0, v3)]) (by decide +kernel) rfl ?_
  refine zwif_ne (q := 51) (nx := 21) (by decide +kernel) (fun c5 => ?_) (fun c5 => ?_)
  · refine zwW_p [(1, 4, 0), (0, 1, 0)] (q := 54) (ls' := [(2, 1), (2, r), (0, a), (2, v1), (0, v3)]) (st' := [(0, 1), (0, v3)]) (by decide +kernel) rfl ?_
    refine zwic_ne (q := 99) (nx := 57) (by decide +kernel) (fun c6 => ?_) (fun c6 => ?_)
    · refine zwW_p [(1, 1, 2), (12, 0, 0)] (q := 101) (ls' := [(2, 1), (2, r), (0, a), (2, v1), (0, v3)]) (st' := [(2, r), (2, r)]) (by decide +kernel) rfl ?_
      refine zwX_gi C (kd := 4) (bn := 8) (n := 19) (nx := 104) (by decide +kernel) G_r.2.1 G_r.1 rfl ?_
      intro v7 ev7 lv7 uv7
      refine zwW_p [(0, 1, 0)] (q := 105) (ls' := [(2, 1), (2, r), (0, a), (2, v1), (0, v3)]) (st' := [(0, 1), (0, v7), (2, r)]) (by decide +kernel) rfl ?_
      refine zwW_adw (nx := 106) (by decide +kernel) ?_
      intro v8 ev8 lv8 uv8
      have Ev8 : v8 = w32 ((fld h r 8) + 1) := by rw [ev8, ev7]
      refine zwX_pi C (kd := 4) (bn := 8) (n := 19) (nx := 109) (by decide +kernel) G_r.2.1 G_r.1 ⟨by omega, by omega⟩ ?_
      rintro h9 eh9 Ch9 Qh9
      have Xh9 : zXR msx232 (0) (0) h h9 := X.tr (c2 := 0) (s2 := 0) Qh9 (by decide +kernel) (by decide) (by decide)
      have Gh9_0 : gH h9 r := G_r.x Qh9
      have Gh9_1 : gV h9 v1 := Gv1.x Qh9
      refine zwW_retv (nx := 110) (a := 0) (b := 0) (by decide +kernel) ?_
      exact ⟨Ch9, Xh9.le (by decide) (by decide)⟩
    · refine zwW_p [(1, 3, 2)] (q := 58) (ls' := [(2, 1), (2, r), (0, a), (2, v1), (0, v3)]) (st' := [(2, v1)]) (by decide +kernel) rfl ?_
      refine zwW_cvv (op := 60) (k' := 259) (n := 0) (kd := 11) (m := 17) (nx := 61) (r := v1) (tl := []) (st' := []) (by decide +kernel) rfl (by decide +kernel) Gv1.2.1 (x259 h C v1 Gv1) rfl ?_
      rintro h10 ⟨Ch10, Qh10⟩
      have Xh10 : zXR msx232 (0) (0) h h10 := X.tr (c2 := 0) (s2 := 0) Qh10 (by decide +kernel) (by decide) (by decide)
      have Gh10_0 : gH h10 r := G_r.x Qh10
      have Gh10_1 : gV h10 v1 := Gv1.x Qh10
      refine zwW_p [(1, 1, 2), (12, 0, 0)] (q := 63) (ls' := [(2, 1), (2, r), (0, a), (2, v1), (0, v3)]) (st' := [(2, r), (2, r)]) (by decide +kernel) rfl ?_
      refine zwX_gi Ch10 (kd := 4) (bn := 10) (n := 19) (nx := 66) (by decide +kernel) Gh10_0.2.1 Gh10_0.1 rfl ?_
      intro v11 ev11 lv11 uv11
      refine zwW_p [(0, 1, 0)] (q := 67) (ls' := [(2, 1), (2, r), (0, a), (2, v1), (0, v3)]) (st' := [(0, 1), (0, v11), (2, r)]) (by decide +kernel) rfl ?_
      refine zwW_adw (nx := 68) (by decide +kernel) ?_
      intro v12 ev12 lv12 uv12
      have Ev12 : v12 = w32 ((fld h10 r 10) + 1) := by rw [ev12, ev11]
      refine zwX_pi Ch10 (kd := 4) (bn := 10) (n := 19) (nx := 71) (by decide +kernel) Gh10_0.2.1 Gh10_0.1 ⟨by omega, by omega⟩ ?_
      rintro h13 eh13 Ch13 Qh13
      have Xh13 : zXR msx232 (0) (0) h h13 := Xh10.tr (c2 := 0) (s2 := 0) Qh13 (by decide +kernel) (by decide) (by decide)
      have Gh13_0 : gH h13 r := Gh10_0.x Qh13
      have Gh13_1 : gV h13 v1 := Gh10_1.x Qh13
      refine zwW_p [(1, 1, 2), (12, 0, 0)] (q := 73) (ls' := [(2, 1), (2, r), (0, a), (2, v1), (0, v3)]) (st' := [(2, r), (2, r)]) (by decide +kernel) rfl ?_
      refine zwX_gi Ch13 (kd := 4) (bn := 6) (n := 19) (nx := 76) (by decide +kernel) Gh13_0.2.1 Gh13_0.1 rfl ?_
      intro v14 ev14 lv14 uv14
      refine zwW_p [(1, 3, 2)] (q := 77) (ls' := [(2, 1), (2, r), (0, a), (2, v1), (0, v3)]) (st' := [(2, v1), (0, v14), (2, r)]) (by decide +kernel) rfl ?_
      refine zwX_gi Ch13 (kd := 11) (bn := 9) (n := 17) (nx := 80) (by decide +kernel) Gh13_1.2.1 Gh13_1.1 rfl ?_
      intro v15 ev15 lv15 uv15
      refine zwW_p [(1, 2, 0)] (q := 81) (ls' := [(2, 1), (2, r), (0, a), (2, v1), (0, v3)]) (st' := [(0, a), (0, v15), (0, v14), (2, r)]) (by decide +kernel) rfl ?_
      refine zwW_adw (nx := 82) (by decide +kernel) ?_
      intro v16 ev16 lv16 uv16
      have Ev16 : v16 = w32 ((fld h13 v1 9) + a) := by rw [ev16, ev15]
      refine zwW_sbw (nx := 83) (by decide +kernel) ?_
      intro v17 ev17 lv17 uv17
      have Ev17 : v17 = w32 ((fld h13 r 6) - (w32 ((fld h13 v1 9) + a))) := by rw [ev17, ev14, Ev16]
      refine zwX_pi Ch13 (kd := 4) (bn := 6) (n := 19) (nx := 86) (by decide +kernel) Gh13_0.2.1 Gh13_0.1 ⟨by omega, by omega⟩ ?_
      rintro h18 eh18 Ch18 Qh18
      have Xh18 : zXR msx232 (0) (0) h h18 := Xh13.tr (c2 := 0) (s2 := 0) Qh18 (by decide +kernel) (by decide) (by decide)
      have Gh18_0 : gH h18 r := Gh13_0.x Qh18
      have Gh18_1 : gV h18 v1 := Gh13_1.x Qh18
      refine zwW_p [(1, 0, 2), (12, 0, 0)] (q := 88) (ls' := [(2, 1), (2, r), (0, a), (2, v1), (0, v3)]) (st' := [(2, 1), (2, 1)]) (by decide +kernel) rfl ?_
      refine zwW_gs Ch18.1 (kd := 12) (bn := 1) (n := 13) (t := 0) (lo := -2147483648) (hi := 2147483647) (nx := 91) (by decide +kernel) ?_
      intro v19 ev19 lv19 uv19
      refine zwW_p [(1, 2, 0)] (q := 92) (ls' := [(2, 1), (2, r), (0, a), (2, v1), (0, v3)]) (st' := [(0, a), (0, v19), (2, 1)]) (by decide +kernel) rfl ?_
      refine zwW_adw (nx := 93) (by decide +kernel) ?_
      intro v20 ev20 lv20 uv20
      refine zwW_ps Ch18.1 (kd := 12) (bn := 1) (n := 13) (lo := -2147483648) (hi := 2147483647) (nx := 96) (by decide +kernel) ⟨by omega, by omega⟩ ?_
      intro h21 eh21 Ih21
      have Ch21 : CI h21 := Ch18.wc eh21 Ih21 (by decide) (by decide)
      have Qh21 : zXR [(1, 1, 1, 2)] 0 0 h18 h21 := zXR.wc eh21 rfl ⟨by decide, by decide, Or.inl (by decide)⟩ ⟨by decide, by decide⟩
      have Xh21 : zXR msx232 (0) (0) h h21 := Xh18.tr (c2 := 0) (s2 := 0) Qh21 (by decide +kernel) (by decide) (by decide)
      have Gh21_0 : gH h21 r := Gh18_0.x Qh21
      have Gh21_1 : gV h21 v1 := Gh18_1.x Qh21
      refine zwW_p [(24, 109, 0)] (q := 109) (ls' := [(2, 1), (2, r), (0, a), (2, v1), (0, v3)]) (st' := []) (by decide +kernel) rfl ?_
      refine zwW_retv (nx := 110) (a := 0) (b := 0) (by decide +kernel) ?_
      exact ⟨Ch21, Xh21.le (by decide) (by decide)⟩
  · refine zwW_p [(1, 3, 2)] (q := 22) (ls' := [(2, 1), (2, r), (0, a), (2, v1), (0, v3)]) (st' := [(2, v1)]) (by decide +kernel) rfl ?_
    refine zwW_cvv (op := 60) (k' := 258) (n := 0) (kd := 11) (m := 17) (nx := 25) (r := v1) (tl := []) (st' := []) (by decide +kernel) rfl (by decide +kernel) Gv1.2.1 (x258 h C v1 Gv1) rfl ?_
    rintro h22 ⟨Ch22, Qh22⟩
    have Xh22 : zXR msx232 (0) (0) h h22 := X.tr (c2 := 0) (s2 := 0) Qh22 (by decide +kernel) (by decide) (by decide)
    have Gh22_0 : gH h22 r := G_r.x Qh22
    have Gh22_1 : gV h22 v1 := Gv1.x Qh22
    refine zwW_p [(1, 1, 2), (12, 0, 0)] (q := 27) (ls' := [(2, 1), (2, r), (0, a), (2, v1), (0, v3)]) (st' := [(2, r), (2, r)]) (by decide +kernel) rfl ?_
    refine zwX_gi Ch22 (kd := 4) (bn := 9) (n := 19) (nx := 30) (by decide +kernel) Gh22_0.2.1 Gh22_0.1 rfl ?_
    intro v23 ev23 lv23 uv23
    refine zwW_p [(0, 1, 0)] (q := 31) (ls' := [(2, 1), (2, r), (0, a), (2, v1), (0, v3)]) (st' := [(0, 1), (0, v23), (2, r)]) (by decide +kernel) rfl ?_
    refine zwW_adw (nx := 32) (by decide +kernel) ?_
    intro v24 ev24 lv24 uv24
    have Ev24 : v24 = w32 ((fld h22 r 9) + 1) := by rw [ev24, ev23]
    refine zwX_pi Ch22 (kd := 4) (bn := 9) (n := 19) (nx := 35) (by decide +kernel) Gh22_0.2.1 Gh22_0.1 ⟨by omega, by omega⟩ ?_
    rintro h25 eh25 Ch25 Qh25
    have Xh25 : zXR msx232 (0) (0) h h25 := Xh22.tr (c2 := 0) (s2 := 0) Qh25 (by decide +kernel) (by decide) (by decide)
    have Gh25_0 : gH h25 r := Gh22_0.x Qh25
    have Gh25_1 : gV h25 v1 := Gh22_1.x Qh25
    refine zwW_p [(1, 1, 2), (12, 0, 0)] (q := 37) (ls' := [(2, 1), (2, r), (0, a), (2, v1), (0, v3)]) (st' := [(2, r), (2, r)]) (by decide +kernel) rfl ?_
    refine zwX_gi Ch25 (kd := 4) (bn := 6) (n := 19) (nx := 40) (by decide +kernel) Gh25_0.2.1 Gh25_0.1 rfl ?_
    intro v26 ev26 lv26 uv26
    refine zwW_p [(1, 3, 2)] (q := 41) (ls' := [(2, 1), (2, r), (0, a), (2, v1), (0, v3)]) (st' := [(2, v1), (0, v26), (2, r)]) (by decide +kernel) rfl ?_
    refine zwX_gi Ch25 (kd := 11) (bn := 8) (n := 17) (nx := 44) (by decide +kernel) Gh25_1.2.1 Gh25_1.1 rfl ?_
    intro v27 ev27 lv27 uv27
    refine zwW_sbw (nx := 45) (by decide +kernel) ?_
    intro v28 ev28 lv28 uv28
    have Ev28 : v28 = w32 ((fld h25 r 6) - (fld h25 v1 8)) := by rw [ev28, ev26, ev27]
    refine zwX_pi Ch25 (kd := 4) (bn := 6) (n := 19) (nx := 48) (by decide +kernel) Gh25_0.2.1 Gh25_0.1 ⟨by omega, by omega⟩ ?_
    rintro h29 eh29 Ch29 Qh29
    have Xh29 : zXR msx232 (0) (0) h h29 := Xh25.tr (c2 := 0) (s2 := 0) Qh29 (by decide +kernel) (by decide) (by decide)
    have Gh29_0 : gH h29 r := Gh25_0.x Qh29
    have Gh29_1 : gV h29 v1 := Gh25_1.x Qh29
    refine zwW_p [(24, 109, 0)] (q := 109) (ls' := [(2, 1), (2, r), (0, a), (2, v1), (0, v3)]) (st' := []) (by decide +kernel) rfl ?_
    refine zwW_retv (nx := 110) (a := 0) (b := 0) (by decide +kernel) ?_
    exact ⟨Ch29, Xh29.le (by decide) (by decide)⟩
def msx185 : Zms := [(4, 4, 0, 3), (1004, 1004, 18, 19), (1011, 1011, 3, 4)]
-- WheelLand.spinAll()I
theorem x185 {sc : List Int} (h : Hp) (C : CI h) (hl : h.length ≤ 999930000) : zwC sc 7 185 [(2, 1)] h (zwRt 0 (fun x g => CI g ∧ zXR msx185 (0) (0) h g ∧ (-2147483648 ≤ x ∧ x ≤ 2147483647))) := by
  refine zwC_of (D := 6) 6 (by decide +kernel) rfl (ls := [(2, 1), (9, 0), (9, 0), (9, 0), (9, 0), (9, 0)]) rfl ?_
  have X : zXR msx185 0 0 h h := zXR.rf _ _
  refine zwW_p [(1, 0, 2)] (q := 1) (ls' := [(2, 1), (9, 0), (9, 0), (9, 0), (9, 0), (9, 0)]) (st' := [(2, 1)]) (by decide +kernel) rfl ?_
  refine zwW_gs C.1 (kd := 12) (bn := 0) (n := 13) (t := 0) (lo := 0) (hi := 156) (nx := 4) (by decide +kernel) ?_
  intro v1 ev1 lv1 uv1
  refine zwW_cs (k' := 162) (n := 1) (nx := 7) (as := [(0, v1)]) (st' := []) (by decide +kernel) rfl (x162 h C v1 (by omega) (by omega)) rfl ?_
  rintro v2 _ ⟨rfl, f3, f4, f5⟩
  refine zwW_p [(2, 1, 0), (0, 0, 0), (2, 2, 0), (0, 0, 0), (2, 3, 0)] (q := 12) (ls' := [(2, 1), (0, v2), (0, 0), (0, 0), (9, 0), (9, 0)]) (st' := []) (by decide +kernel) rfl ?_
  have L6 : ∀ (n : Nat) (v2L6 v3L6 : Int) (w4L6 w5L6 : Vl) (hL6 : Hp), n = ((1000 - v3L6)).toNat → (-2147483648 ≤ v2L6 ∧ v2L6 ≤ 2147483647) → (0 ≤ v3L6 ∧ v3L6 ≤ 1000) → CI hL6 → zXR msx185 (0) (0) h hL6 → zwW sc (6) 185 12 [(2, 1), (0, v2), (0, v2L6), (0, v3L6), w4L6, w5L6] [] hL6 (zwRt 0 (fun x g => CI g ∧ zXR msx185 (0) (0) h g ∧ (-2147483648 ≤ x ∧ x ≤ 2147483647))) := by
    intro n
    induction n using Nat.strongRecOn with
    | ind n IHL6 =>
      intro v2L6 v3L6 w4L6 w5L6 hL6 hnL6 iL6_0 iL6_1 ChL6 XhL6
      refine zwW_p [(1, 3, 0), (1, 0, 2)] (q := 14) (ls' := [(2, 1), (0, v2), (0, v2L6), (0, v3L6), w4L6, w5L6]) (st' := [(2, 1), (0, v3L6)]) (by decide +kernel) rfl ?_
      refine zwW_gc ChL6.1 (kd := 12) (bn := 3) (n := 13) (c := 3) (nx := 17) (by decide +kernel) ?_
      refine zwW_cm ChL6.1 (op := 60) (k' := 96) (n := 0) (kd := 0) (m := 3) (nx := 20) (r := 3) (tl := []) (st' := [(0, v3L6)]) (by decide +kernel) rfl (by decide +kernel) rfl (x96_3 ChL6) ?_
      rintro v7 _ ⟨rfl, ev7⟩
      have bv7 := zLb_3 ChL6
      refine zwic_ge (q := 129) (nx := 23) (by decide +kernel) (fun c8 => ?_) (fun c8 => ?_)
      · refine zwW_p [(1, 2, 0)] (q := 130) (ls' := [(2, 1), (0, v2), (0, v2L6), (0, v3L6), w4L6, w5L6]) (st' := [(0, v2L6)]) (by decide +kernel) rfl ?_
        refine zwW_ret (nx := 131) (a := 0) (b := 0) (by decide +kernel) rfl (Or.inl rfl) ?_
        exact ⟨ChL6, XhL6.le (by decide) (by decide), by omega⟩
      · refine zwW_p [(1, 0, 2)] (q := 24) (ls' := [(2, 1), (0, v2), (0, v2L6), (0, v3L6), w4L6, w5L6]) (st' := [(2, 1)]) (by decide +kernel) rfl ?_
        refine zwW_gc ChL6.1 (kd := 12) (bn := 3) (n := 13) (c := 3) (nx := 27) (by decide +kernel) ?_
        refine zwW_p [(1, 3, 0)] (q := 28) (ls' := [(2, 1), (0, v2), (0, v2L6), (0, v3L6), w4L6, w5L6]) (st' := [(0, v3L6), (2, 3)]) (by decide +kernel) rfl ?_
        refine zwW_cm ChL6.1 (op := 60) (k' := 123) (n := 1) (kd := 0) (m := 3) (nx := 31) (r := 3) (tl := [(0, v3L6)]) (st' := []) (by decide +kernel) rfl (by decide +kernel) rfl (x123_3 ChL6 (i := v3L6) ⟨by omega, by omega⟩) ?_
        rintro v9 _ ⟨rfl, Gv9, ev9⟩
        have lv9 := Gv9.1
        refine zwW_cast (a := 4) (kd := 4) (n := 19) (nx := 34) (by decide +kernel) rfl (Or.inr Gv9.2.1) ?_
        refine zwW_p [(2, 4, 2), (1, 4, 2), (12, 0, 0)] (q := 39) (ls' := [(2, 1), (0, v2), (0, v2L6), (0, v3L6), (2, v9), w5L6]) (st' := [(2, v9), (2, v9)]) (by decide +kernel) rfl ?_
        refine zwX_gi ChL6 (kd := 4) (bn := 18) (n := 19) (nx := 42) (by decide +kernel) Gv9.2.1 Gv9.1 rfl ?_
        intro v10 ev10 lv10 uv10
        refine zwW_p [(1, 4, 2), (1, 1, 0)] (q := 45) (ls' := [(2, 1), (0, v2), (0, v2L6), (0, v3L6), (2, v9), w5L6]) (st' := [(0, v2), (2, v9), (0, v10), (2, v9)]) (by decide +kernel) rfl ?_
        refine zwW_cv (op := 60) (k' := 230) (n := 1) (kd := 4) (m := 19) (nx := 48) (r := v9) (tl := [(0, v2)]) (st' := [(0, v10), (2, v9)]) (by decide +kernel) rfl (by decide +kernel) Gv9.2.1 (x230 hL6 ChL6 v9 v2 Gv9 (by omega)) rfl ?_
        rintro v11 _ ⟨rfl, f12⟩
        refine zwW_adw (nx := 49) (by decide +kernel) ?_
        intro v13 ev13 lv13 uv13
        have Ev13 : v13 = w32 ((fld hL6 v9 18) + v11) := by rw [ev13, ev10]
        refine zwX_pi ChL6 (kd := 4) (bn := 18) (n := 19) (nx := 52) (by decide +kernel) Gv9.2.1 Gv9.1 ⟨by omega, by omega⟩ ?_
        rintro h14 eh14 Ch14 Qh14
        have Xh14 : zXR msx185 (0) (0) h h14 := XhL6.tr (c2 := 0) (s2 := 0) Qh14 (by decide +kernel) (by decide) (by decide)
        have Gh14_0 : gH h14 v9 := Gv9.x Qh14
        have th14_4_2 : fld h14 4 2 = fld hL6 4 2 := Qh14.f (a1 := 4) (a2 := 4) (j1 := 2) (j2 := 3) (by decide +kernel) ⟨by decide, by decide⟩ ⟨by decide, by decide⟩ ⟨by decide, by decide⟩
        refine zwW_p [(1, 0, 2), (1, 4, 2)] (q := 55) (ls' := [(2, 1), (0, v2), (0, v2L6), (0, v3L6), (2, v9), w5L6]) (st' := [(2, v9), (2, 1)]) (by decide +kernel) rfl ?_
        refine zwW_cm Ch14.1 (op := 60) (k' := 170) (n := 1) (kd := 12) (m := 13) (nx := 58) (r := 1) (tl := [(2, v9)]) (st' := []) (by decide +kernel) rfl (by decide +kernel) rfl (x170 h14 Ch14 v9 Gh14_0) ?_
        rintro v15 _ ⟨rfl, f16, f17⟩
        refine zwW_p [(2, 5, 0), (1, 5, 0)] (q := 62) (ls' := [(2, 1), (0, v2), (0, v2L6), (0, v3L6), (2, v9), (0, v15)]) (st' := [(0, v15)]) (by decide +kernel) rfl ?_
        refine zwif_le (q := 123) (nx := 65) (by decide +kernel) (fun c18 => ?_) (fun c18 => ?_)
        · refine zwW_inc (i := 3) (c := 1) (x := v3L6) (nx := 126) (by decide +kernel) rfl ⟨by omega, by omega⟩ (ls' := [(2, 1), (0, v2), (0, v2L6), (0, (v3L6 + 1)), (2, v9), (0, v15)]) rfl ?_
          refine zwW_p [(24, 12, 0)] (q := 12) (ls' := [(2, 1), (0, v2), (0, v2L6), (0, (v3L6 + 1)), (2, v9), (0, v15)]) (st' := []) (by decide +kernel) rfl ?_
          exact IHL6 ((1000 - (v3L6 + 1))).toNat (by omega) v2L6 (v3L6 + 1) (2, v9) (0, v15) h14 rfl (by omega) (by omega) Ch14 (Xh14.le (by decide) (by decide))
        · refine zwW_p [(1, 4, 2)] (q := 67) (ls' := [(2, 1), (0, v2), (0, v2L6), (0, v3L6), (2, v9), (0, v15)]) (st' := [(2, v9)]) (by decide +kernel) rfl ?_
          refine zwW_get (kd := 4) (bn := 1) (t := 2) (n := 19) (nx := 70) (by decide +kernel) Gh14_0.2.1 rfl ?_
          obtain ⟨v19, ev19⟩ : ∃ z, z = fld h14 v9 1 := ⟨_, rfl⟩
          rw [← ev19]
          have Gv19 : gV h14 v19 := by rw [ev19]; exact Gh14_0.2.2
          have lv19 := Gv19.1
          refine zwW_p [(12, 0, 0)] (q := 71) (ls' := [(2, 1), (0, v2), (0, v2L6), (0, v3L6), (2, v9), (0, v15)]) (st' := [(2, v19), (2, v19)]) (by decide +kernel) rfl ?_
          refine zwX_gi Ch14 (kd := 11) (bn := 3) (n := 17) (nx := 74) (by decide +kernel) Gv19.2.1 Gv19.1 rfl ?_
          intro v20 ev20 lv20 uv20
          refine zwW_p [(1, 5, 0), (1, 4, 2)] (q := 78) (ls' := [(2, 1), (0, v2), (0, v2L6), (0, v3L6), (2, v9), (0, v15)]) (st' := [(2, v9), (0, v15), (0, v20), (2, v19)]) (by decide +kernel) rfl ?_
          refine zwX_gi Ch14 (kd := 4) (bn := 7) (n := 19) (nx := 81) (by decide +kernel) Gh14_0.2.1 Gh14_0.1 rfl ?_
          intro v21 ev21 lv21 uv21
          refine zwW_cs (k' := 151) (n := 2) (nx := 84) (as := [(0, v15), (0, v21)]) (st' := [(0, v20), (2, v19)]) (by decide +kernel) rfl (x151 h14 Ch14 v15 v21 (by omega) (by omega)) rfl ?_
          rintro v22 _ ⟨rfl, f23⟩
          refine zwW_sbw (nx := 85) (by decide +kernel) ?_
          intro v24 ev24 lv24 uv24
          have Ev24 : v24 = w32 ((fld h14 v19 3) - v22) := by rw [ev24, ev20]
          refine zwX_pi Ch14 (kd := 11) (bn := 3) (n := 17) (nx := 88) (by decide +kernel) Gv19.2.1 Gv19.1 ⟨by omega, by omega⟩ ?_
          rintro h25 eh25 Ch25 Qh25
          have Xh25 : zXR msx185 (0) (0) h h25 := Xh14.tr (c2 := 0) (s2 := 0) Qh25 (by decide +kernel) (by decide) (by decide)
          have Gh25_0 : gH h25 v9 := Gh14_0.x Qh25
          have th25_4_2 : fld h25 4 2 = fld h14 4 2 := Qh25.f (a1 := 4) (a2 := 4) (j1 := 2) (j2 := 3) (by decide +kernel) ⟨by decide, by decide⟩ ⟨by decide, by decide⟩ ⟨by decide, by decide⟩
          refine zwW_p [(1, 0, 2)] (q := 89) (ls' := [(2, 1), (0, v2), (0, v2L6), (0, v3L6), (2, v9), (0, v15)]) (st' := [(2, 1)]) (by decide +kernel) rfl ?_
          refine zwW_gc Ch25.1 (kd := 12) (bn := 4) (n := 13) (c := 4) (nx := 92) (by decide +kernel) ?_
          refine zwW_new (kd := 6) (n := 7) (nx := 95) (by decide +kernel) rfl rfl ?_
          rintro h26 r27 eh26 er27
          have Oh26 : zOld h25 h26 := by rw [eh26]; exact zOld.app _
          have Yh26 : zDy h26 := by rw [eh26]; exact Ch25.2.1.app (fun x hx => by rw [List.eq_of_mem_replicate hx]; decide)
          have Ch26 : CI h26 := Ch25.old Oh26 Yh26
          have Xh26 := Oh26.X Ch25
          have th26_4_2 : fld h26 4 2 = fld h25 4 2 := Xh26.f (a1 := 4) (a2 := 4) (j1 := 2) (j2 := 3) (by decide +kernel) ⟨by decide, by decide⟩ ⟨by decide, by decide⟩ ⟨by decide, by decide⟩
          have Gh26_0 : gH h26 v9 := Gh25_0.x Xh26
          refine zwW_p [(12, 0, 0), (1, 0, 2)] (q := 97) (ls' := [(2, 1), (0, v2), (0, v2L6), (0, v3L6), (2, v9), (0, v15)]) (st' := [(2, 1), (2, r27), (2, r27), (2, 4)]) (by decide +kernel) rfl ?_
          refine zwW_gc Ch26.1 (kd := 12) (bn := 4) (n := 13) (c := 4) (nx := 100) (by decide +kernel) ?_
          refine zwW_cm Ch26.1 (op := 60) (k' := 96) (n := 0) (kd := 0) (m := 3) (nx := 103) (r := 4) (tl := []) (st' := [(2, r27), (2, r27), (2, 4)]) (by decide +kernel) rfl (by decide +kernel) rfl (x96_4 Ch26) ?_
          rintro v28 _ ⟨rfl, ev28⟩
          have bv28 := zLb_4 Ch26
          refine zwW_p [(1, 4, 2), (1, 0, 2)] (q := 106) (ls' := [(2, 1), (0, v2), (0, v2L6), (0, v3L6), (2, v9), (0, v15)]) (st' := [(2, 1), (2, v9), (0, v28), (2, r27), (2, r27), (2, 4)]) (by decide +kernel) rfl ?_
          refine zwW_gs Ch26.1 (kd := 12) (bn := 0) (n := 13) (t := 0) (lo := 0) (hi := 156) (nx := 109) (by decide +kernel) ?_
          intro v29 ev29 lv29 uv29
          refine zwW_p [(1, 5, 0)] (q := 111) (ls' := [(2, 1), (0, v2), (0, v2L6), (0, v3L6), (2, v9), (0, v15)]) (st' := [(0, v15), (0, v29), (2, v9), (0, v28), (2, r27), (2, r27), (2, 4)]) (by decide +kernel) rfl ?_
          subst er27 eh26
          refine zwW_cvv (op := 62) (k' := 231) (n := 4) (kd := 6) (m := 7) (nx := 114) (r := ((h25.length + 1 : Nat) : Int)) (tl := [(0, v28), (2, v9), (0, v29), (0, v15)]) (st' := [(2, ((h25.length + 1 : Nat) : Int)), (2, 4)]) (by decide +kernel) rfl (by decide +kernel) (sh_new _ _) (x231 h25 Ch25 v28 v9 v29 v15 (by omega) (by omega) (by omega) Gh25_0 (fun g O Cg => x169 g Cg v9 (Gh25_0.x (O.X Ch25)))) rfl ?_
          rintro h30 ⟨Ch30, Qh30, Nh30, Fh30_0⟩
          obtain ⟨nr27, err27⟩ : ∃ z, z = ((h25.length + 1 : Nat) : Int) := ⟨_, rfl⟩
          rw [← err27] at Nh30 ⊢
          try rw [← err27] at Fh30_0
          have Xh30 : zXR msx185 (1) (7) h h30 := Xh25.tr (c2 := 1) (s2 := 7) Qh30 (by decide +kernel) (by decide) (by decide)
          have Gh30_0 : gH h30 v9 := Gh25_0.x Qh30
          have th30_4_2 : fld h30 4 2 = fld h25 4 2 := Qh30.f (a1 := 4) (a2 := 4) (j1 := 2) (j2 := 3) (by decide +kernel) ⟨by decide, by decide⟩ ⟨by decide, by decide⟩ ⟨by decide, by decide⟩
          have lnr27 := Nh30.1
          refine zwW_cm Ch30.1 (op := 60) (k' := 100) (n := 1) (kd := 0) (m := 3) (nx := 117) (r := 4) (tl := [(2, nr27)]) (st' := []) (by decide +kernel) rfl (by decide +kernel) rfl (x100_4 Ch30 Nh30 (by omega) (by have := Xh30.hl C Ch30 (by decide) hl; omega)) ?_
          rintro x h32 ⟨rfl, Ah32⟩
          have Ch32 := Ah32.1
          have Qh32 : zXR [(4, 4, 0, 3)] (-1) (-7) h30 h32 := Ah32.2.1
          have zh32 : fld h32 4 2 = fld h30 4 2 + 1 := Ah32.2.2.1
          have Xh32 : zXR msx185 (0) (0) h h32 := Xh30.tr (c2 := 0) (s2 := 0) Qh32 (by decide +kernel) (by decide) (by decide)
          have Gh32_0 : gH h32 v9 := Gh30_0.x Qh32
          refine zwW_p [(15, 0, 0), (1, 2, 0), (1, 5, 0)] (q := 121) (ls' := [(2, 1), (0, v2), (0, v2L6), (0, v3L6), (2, v9), (0, v15)]) (st' := [(0, v15), (0, v2L6)]) (by decide +kernel) rfl ?_
          refine zwW_adw (nx := 122) (by decide +kernel) ?_
          intro v33 ev33 lv33 uv33
          refine zwW_p [(2, 2, 0)] (q := 123) (ls' := [(2, 1), (0, v2), (0, v33), (0, v3L6), (2, v9), (0, v15)]) (st' := []) (by decide +kernel) rfl ?_
          refine zwW_inc (i := 3) (c := 1) (x := v3L6) (nx := 126) (by decide +kernel) rfl ⟨by omega, by omega⟩ (ls' := [(2, 1), (0, v2), (0, v33), (0, (v3L6 + 1)), (2, v9), (0, v15)]) rfl ?_
          refine zwW_p [(24, 12, 0)] (q := 12) (ls' := [(2, 1), (0, v2), (0, v33), (0, (v3L6 + 1)), (2, v9), (0, v15)]) (st' := []) (by decide +kernel) rfl ?_
          exact IHL6 ((1000 - (v3L6 + 1))).toNat (by omega) v33 (v3L6 + 1) (2, v9) (0, v15) h32 rfl (by omega) (by omega) Ch32 (Xh32.le (by decide) (by decide))
  exact L6 _ 0 0 (9, 0) (9, 0) h rfl (by omega) (by omega) C (X.le (by decide) (by decide))
def msx186 : Zms := [(1, 1, 1, 2), (17, 17, 0, 13), (18, 18, 0, 400), (1004, 1004, 6, 7), (1004, 1004, 8, 9), (1004, 1004, 9, 10), (1004, 1004, 10, 11), (1011, 1011, 5, 6), (1011, 1011, 6, 7), (1011, 1011, 7, 8), (1011, 1011, 10, 11), (1011, 1011, 13, 14), (1011, 1011, 14, 15)]
-- WheelLand.buyAll()V
theorem x186 {sc : List Int} (h : Hp) (C : CI h) : zwC sc 5 186 [(2, 1)] h (zwRv (fun g => CI g ∧ zXR msx186 (0) (0) h g)) := by
  refine zwC_of (D := 4) 3 (by decide +kernel) rfl (ls := [(2, 1), (9, 0), (9, 0)]) rfl ?_
  have X : zXR msx186 0 0 h h := zXR.rf _ _
  refine zwW_p [(0, 0, 0), (2, 1, 0)] (q := 2) (ls' := [(2, 1), (0, 0), (9, 0)]) (st' := []) (by decide +kernel) rfl ?_
  have L1 : ∀ (n : Nat) (v1L1 : Int) (w2L1 : Vl) (hL1 : Hp), n = ((1000 - v1L1)).toNat → (0 ≤ v1L1 ∧ v1L1 ≤ 1000) → CI hL1 → zXR msx186 (0) (0) h hL1 → zwW sc (4) 186 2 [(2, 1), (0, v1L1), w2L1] [] hL1 (zwRv (fun g => CI g ∧ zXR msx186 (0) (0) h g)) := by
    intro n
    induction n using Nat.strongRecOn with
    | ind n IHL1 =>
      intro v1L1 w2L1 hL1 hnL1 iL1_0 ChL1 XhL1
      refine zwW_p [(1, 1, 0), (1, 0, 2)] (q := 4) (ls' := [(2, 1), (0, v1L1), w2L1]) (st' := [(2, 1), (0, v1L1)]) (by decide +kernel) rfl ?_
      refine zwW_gc ChL1.1 (kd := 12) (bn := 3) (n := 13) (c := 3) (nx := 7) (by decide +kernel) ?_
      refine zwW_cm ChL1.1 (op := 60) (k' := 96) (n := 0) (kd := 0) (m := 3) (nx := 10) (r := 3) (tl := []) (st' := [(0, v1L1)]) (by decide +kernel) rfl (by decide +kernel) rfl (x96_3 ChL1) ?_
      rintro v2 _ ⟨rfl, ev2⟩
      have bv2 := zLb_3 ChL1
      refine zwic_ge (q := 58) (nx := 13) (by decide +kernel) (fun c3 => ?_) (fun c3 => ?_)
      · refine zwW_retv (nx := 59) (a := 0) (b := 0) (by decide +kernel) ?_
        exact ⟨ChL1, XhL1.le (by decide) (by decide)⟩
      · refine zwW_p [(1, 0, 2)] (q := 14) (ls' := [(2, 1), (0, v1L1), w2L1]) (st' := [(2, 1)]) (by decide +kernel) rfl ?_
        refine zwW_gc ChL1.1 (kd := 12) (bn := 3) (n := 13) (c := 3) (nx := 17) (by decide +kernel) ?_
        refine zwW_p [(1, 1, 0)] (q := 18) (ls' := [(2, 1), (0, v1L1), w2L1]) (st' := [(0, v1L1), (2, 3)]) (by decide +kernel) rfl ?_
        refine zwW_cm ChL1.1 (op := 60) (k' := 123) (n := 1) (kd := 0) (m := 3) (nx := 21) (r := 3) (tl := [(0, v1L1)]) (st' := []) (by decide +kernel) rfl (by decide +kernel) rfl (x123_3 ChL1 (i := v1L1) ⟨by omega, by omega⟩) ?_
        rintro v4 _ ⟨rfl, Gv4, ev4⟩
        have lv4 := Gv4.1
        refine zwW_cast (a := 4) (kd := 4) (n := 19) (nx := 24) (by decide +kernel) rfl (Or.inr Gv4.2.1) ?_
        refine zwW_p [(2, 2, 2), (1, 0, 2)] (q := 26) (ls' := [(2, 1), (0, v1L1), (2, v4)]) (st' := [(2, 1)]) (by decide +kernel) rfl ?_
        refine zwW_gs ChL1.1 (kd := 12) (bn := 0) (n := 13) (t := 0) (lo := 0) (hi := 156) (nx := 29) (by decide +kernel) ?_
        intro v5 ev5 lv5 uv5
        refine zwW_p [(1, 2, 2)] (q := 30) (ls' := [(2, 1), (0, v1L1), (2, v4)]) (st' := [(2, v4), (0, v5)]) (by decide +kernel) rfl ?_
        refine zwX_gi ChL1 (kd := 4) (bn := 5) (n := 19) (nx := 33) (by decide +kernel) Gv4.2.1 Gv4.1 rfl ?_
        intro v6 ev6 lv6 uv6
        refine zwW_adw (nx := 34) (by decide +kernel) ?_
        intro v7 ev7 lv7 uv7
        have Ev7 : v7 = w32 (v5 + (fld hL1 v4 5)) := by rw [ev7, ev6]
        refine zwW_p [(0, 4, 0)] (q := 35) (ls' := [(2, 1), (0, v1L1), (2, v4)]) (st' := [(0, 4), (0, v7)]) (by decide +kernel) rfl ?_
        refine zwW_tmw (nx := 36) (by decide +kernel) ⟨by omega, by omega⟩ (by omega) ?_
        intro v8 ev8 lv8 uv8
        refine zwif_ne (q := 52) (nx := 39) (by decide +kernel) (fun c9 => ?_) (fun c9 => ?_)
        · refine zwW_inc (i := 1) (c := 1) (x := v1L1) (nx := 55) (by decide +kernel) rfl ⟨by omega, by omega⟩ (ls' := [(2, 1), (0, (v1L1 + 1)), (2, v4)]) rfl ?_
          refine zwW_p [(24, 2, 0)] (q := 2) (ls' := [(2, 1), (0, (v1L1 + 1)), (2, v4)]) (st' := []) (by decide +kernel) rfl ?_
          exact IHL1 ((1000 - (v1L1 + 1))).toNat (by omega) (v1L1 + 1) (2, v4) hL1 rfl (by omega) ChL1 (XhL1.le (by decide) (by decide))
        · refine zwW_p [(1, 0, 2), (1, 2, 2), (1, 0, 2), (1, 2, 2)] (q := 43) (ls' := [(2, 1), (0, v1L1), (2, v4)]) (st' := [(2, v4), (2, 1), (2, v4), (2, 1)]) (by decide +kernel) rfl ?_
          refine zwW_get (kd := 4) (bn := 1) (t := 2) (n := 19) (nx := 46) (by decide +kernel) Gv4.2.1 rfl ?_
          obtain ⟨v10, ev10⟩ : ∃ z, z = fld hL1 v4 1 := ⟨_, rfl⟩
          rw [← ev10]
          have Gv10 : gV hL1 v10 := by rw [ev10]; exact Gv4.2.2
          have lv10 := Gv10.1
          refine zwW_cm ChL1.1 (op := 60) (k' := 153) (n := 1) (kd := 12) (m := 13) (nx := 49) (r := 1) (tl := [(2, v10)]) (st' := [(2, v4), (2, 1)]) (by decide +kernel) rfl (by decide +kernel) rfl (x153 hL1 ChL1 v10 Gv10) ?_
          rintro v12 h13 ⟨Ch13, Qh13, f11⟩
          have Xh13 : zXR msx186 (0) (0) h h13 := XhL1.tr (c2 := 0) (s2 := 0) Qh13 (by decide +kernel) (by decide) (by decide)
          have Gh13_0 : gH h13 v4 := Gv4.x Qh13
          refine zwW_cmv Ch13.1 (op := 60) (k' := 232) (n := 2) (kd := 12) (m := 13) (nx := 52) (r := 1) (tl := [(2, v4), (0, v12)]) (st' := []) (by decide +kernel) rfl (by decide +kernel) rfl (x232 h13 Ch13 v4 v12 Gh13_0 (by omega)) ?_
          rintro h14 ⟨Ch14, Qh14⟩
          have Xh14 : zXR msx186 (0) (0) h h14 := Xh13.tr (c2 := 0) (s2 := 0) Qh14 (by decide +kernel) (by decide) (by decide)
          have Gh14_0 : gH h14 v4 := Gh13_0.x Qh14
          refine zwW_inc (i := 1) (c := 1) (x := v1L1) (nx := 55) (by decide +kernel) rfl ⟨by omega, by omega⟩ (ls' := [(2, 1), (0, (v1L1 + 1)), (2, v4)]) rfl ?_
          refine zwW_p [(24, 2, 0)] (q := 2) (ls' := [(2, 1), (0, (v1L1 + 1)), (2, v4)]) (st' := []) (by decide +kernel) rfl ?_
          exact IHL1 ((1000 - (v1L1 + 1))).toNat (by omega) (v1L1 + 1) (2, v4) h14 rfl (by omega) Ch14 (Xh14.le (by decide) (by decide))
  exact L1 _ 0 (9, 0) h rfl (by omega) C (X.le (by decide) (by decide))
def msx187 : Zms := [(36, 36, 0, 8), (1011, 1011, 4, 5)]
-- WheelLand.spreadWord()V
theorem x187 {sc : List Int} (h : Hp) (C : CI h) : zwC sc 5 187 [(2, 1)] h (zwRv (fun g => CI g ∧ zXR msx187 (0) (0) h g)) := by
  refine zwC_of (D := 4) 5 (by decide +kernel) rfl (ls := [(2, 1), (9, 0), (9, 0), (9, 0), (9, 0)]) rfl ?_
  have X : zXR msx187 0 0 h h := zXR.rf _ _
  refine zwW_p [(1, 0, 2)] (q := 1) (ls' := [(2, 1), (9, 0), (9, 0), (9, 0), (9, 0)]) (st' := [(2, 1)]) (by decide +kernel) rfl ?_
  refine zwW_gc C.1 (kd := 12) (bn := 2) (n := 13) (c := 2) (nx := 4) (by decide +kernel) ?_
  refine zwW_cm C.1 (op := 60) (k' := 96) (n := 0) (kd := 0) (m := 3) (nx := 7) (r := 2) (tl := []) (st' := []) (by decide +kernel) rfl (by decide +kernel) rfl (x96_2 C) ?_
  rintro v1 _ ⟨rfl, ev1⟩
  have bv1 := zLb_2 C
  refine zwW_p [(1, 0, 2)] (q := 8) (ls' := [(2, 1), (9, 0), (9, 0), (9, 0), (9, 0)]) (st' := [(2, 1), (0, v1)]) (by decide +kernel) rfl ?_
  refine zwW_gc C.1 (kd := 12) (bn := 12) (n := 13) (c := 36) (nx := 11) (by decide +kernel) ?_
  refine zwW_len (kd := 20) (n := 8) (nx := 12) (by decide +kernel) (C.1.s (a1 := 36) (a2 := 36) (by decide +kernel) (by omega) (by omega)) rfl ?_
  refine zwW_min (nx := 15) (by decide +kernel) rfl ?_
  intro v2 ev2
  refine zwW_p [(2, 1, 0), (0, 0, 0), (2, 2, 0)] (q := 18) (ls' := [(2, 1), (0, v2), (0, 0), (9, 0), (9, 0)]) (st' := []) (by decide +kernel) rfl ?_
  have L3 : ∀ (n : Nat) (v2L3 : Int) (hL3 : Hp), n = ((1000 - v2L3)).toNat → (fld hL3 2 2 = fld h 2 2) → (0 ≤ v2L3 ∧ v2L3 ≤ 1000) → CI hL3 → zXR msx187 (0) (0) h hL3 → zwW sc (4) 187 18 [(2, 1), (0, v2), (0, v2L3), (9, 0), (9, 0)] [] hL3 (zwRv (fun g => CI g ∧ zXR msx187 (0) (0) h g)) := by
    intro n
    induction n using Nat.strongRecOn with
    | ind n IHL3 =>
      intro v2L3 hL3 hnL3 iL3_0 iL3_1 ChL3 XhL3
      refine zwW_p [(1, 2, 0), (1, 1, 0)] (q := 20) (ls' := [(2, 1), (0, v2), (0, v2L3), (9, 0), (9, 0)]) (st' := [(0, v2), (0, v2L3)]) (by decide +kernel) rfl ?_
      refine zwic_ge (q := 49) (nx := 23) (by decide +kernel) (fun c4 => ?_) (fun c4 => ?_)
      · refine zwW_p [(0, 0, 0), (2, 2, 0)] (q := 51) (ls' := [(2, 1), (0, v2), (0, 0), (9, 0), (9, 0)]) (st' := []) (by decide +kernel) rfl ?_
        have L5 : ∀ (n : Nat) (v2L5 : Int) (w3L5 w4L5 : Vl) (hL5 : Hp), n = ((1000 - v2L5)).toNat → (fld hL5 2 2 = fld h 2 2) → (0 ≤ v2L5 ∧ v2L5 ≤ 1000) → CI hL5 → zXR msx187 (0) (0) h hL5 → zwW sc (4) 187 51 [(2, 1), (0, v2), (0, v2L5), w3L5, w4L5] [] hL5 (zwRv (fun g => CI g ∧ zXR msx187 (0) (0) h g)) := by
          intro n
          induction n using Nat.strongRecOn with
          | ind n IHL5 =>
            intro v2L5 w3L5 w4L5 hL5 hnL5 iL5_0 iL5_1 ChL5 XhL5
            refine zwW_p [(1, 2, 0), (1, 1, 0)] (q := 53) (ls' := [(2, 1), (0, v2), (0, v2L5), w3L5, w4L5]) (st' := [(0, v2), (0, v2L5)]) (by decide +kernel) rfl ?_
            refine zwic_ge (q := 132) (nx := 56) (by decide +kernel) (fun c6 => ?_) (fun c6 => ?_)
            · refine zwW_retv (nx := 133) (a := 0) (b := 0) (by decide +kernel) ?_
              exact ⟨ChL5, XhL5.le (by decide) (by decide)⟩
            · refine zwW_p [(1, 0, 2)] (q := 57) (ls' := [(2, 1), (0, v2), (0, v2L5), w3L5, w4L5]) (st' := [(2, 1)]) (by decide +kernel) rfl ?_
              refine zwW_gc ChL5.1 (kd := 12) (bn := 12) (n := 13) (c := 36) (nx := 60) (by decide +kernel) ?_
              refine zwW_p [(1, 2, 0)] (q := 61) (ls' := [(2, 1), (0, v2), (0, v2L5), w3L5, w4L5]) (st' := [(0, v2L5), (2, 36)]) (by decide +kernel) rfl ?_
              refine zwW_al ChL5.1 (a1 := 36) (a2 := 36) (kd := 20) (n := 8) (t := 0) (lo := -2147483648) (hi := 2147483647) (nx := 62) (by decide +kernel) ⟨by decide, by decide⟩ ⟨by omega, by omega⟩ ?_
              intro v7 ev7 lv7 uv7
              refine zwW_p [(0, 1, 0)] (q := 63) (ls' := [(2, 1), (0, v2), (0, v2L5), w3L5, w4L5]) (st' := [(0, 1), (0, v7)]) (by decide +kernel) rfl ?_
              refine zwW_sbw (nx := 64) (by decide +kernel) ?_
              intro v8 ev8 lv8 uv8
              refine zwW_p [(0, 0, 0)] (q := 65) (ls' := [(2, 1), (0, v2), (0, v2L5), w3L5, w4L5]) (st' := [(0, 0), (0, v8)]) (by decide +kernel) rfl ?_
              refine zwW_max (nx := 68) (by decide +kernel) rfl ?_
              intro v9 ev9
              refine zwW_p [(2, 3, 0), (0, 0, 0), (2, 4, 0)] (q := 72) (ls' := [(2, 1), (0, v2), (0, v2L5), (0, v9), (0, 0)]) (st' := []) (by decide +kernel) rfl ?_
              have L10 : ∀ (n : Nat) (v3L10 v4L10 : Int) (hL10 : Hp), n = ((1000 - v4L10)).toNat → (fld hL10 2 2 = fld h 2 2) → (-2147483648 ≤ v3L10 ∧ v3L10 ≤ 2147483647) → (0 ≤ v4L10 ∧ v4L10 ≤ 1000) → CI hL10 → zXR msx187 (0) (0) h hL10 → zwW sc (4) 187 72 [(2, 1), (0, v2), (0, v2L5), (0, v3L10), (0, v4L10)] [] hL10 (zwRv (fun g => CI g ∧ zXR msx187 (0) (0) h g)) := by
                intro n
                induction n using Nat.strongRecOn with
                | ind n IHL10 =>
                  intro v3L10 v4L10 hL10 hnL10 iL10_0 iL10_1 iL10_2 ChL10 XhL10
                  refine zwW_p [(1, 4, 0), (1, 1, 0)] (q := 75) (ls' := [(2, 1), (0, v2), (0, v2L5), (0, v3L10), (0, v4L10)]) (st' := [(0, v2), (0, v4L10)]) (by decide +kernel) rfl ?_
                  refine zwic_ge (q := 111) (nx := 78) (by decide +kernel) (fun c11 => ?_) (fun c11 => ?_)
                  · refine zwW_p [(1, 0, 2)] (q := 112) (ls' := [(2, 1), (0, v2), (0, v2L5), (0, v3L10), (0, v4L10)]) (st' := [(2, 1)]) (by decide +kernel) rfl ?_
                    refine zwW_gc ChL10.1 (kd := 12) (bn := 2) (n := 13) (c := 2) (nx := 115) (by decide +kernel) ?_
                    refine zwW_p [(1, 2, 0)] (q := 116) (ls' := [(2, 1), (0, v2), (0, v2L5), (0, v3L10), (0, v4L10)]) (st' := [(0, v2L5), (2, 2)]) (by decide +kernel) rfl ?_
                    refine zwW_cm ChL10.1 (op := 60) (k' := 123) (n := 1) (kd := 0) (m := 3) (nx := 119) (r := 2) (tl := [(0, v2L5)]) (st' := []) (by decide +kernel) rfl (by decide +kernel) rfl (x123_2 ChL10 (i := v2L5) ⟨by omega, by omega⟩) ?_
                    rintro v12 _ ⟨rfl, Gv12, ev12⟩
                    have lv12 := Gv12.1
                    refine zwW_cast (a := 11) (kd := 11) (n := 17) (nx := 122) (by decide +kernel) rfl (Or.inr Gv12.2.1) ?_
                    refine zwW_p [(1, 3, 0)] (q := 123) (ls' := [(2, 1), (0, v2), (0, v2L5), (0, v3L10), (0, v4L10)]) (st' := [(0, v3L10), (2, v12)]) (by decide +kernel) rfl ?_
                    refine zwX_pi ChL10 (kd := 11) (bn := 4) (n := 17) (nx := 126) (by decide +kernel) Gv12.2.1 Gv12.1 ⟨by omega, by omega⟩ ?_
                    rintro h13 eh13 Ch13 Qh13
                    have Xh13 : zXR msx187 (0) (0) h h13 := XhL10.tr (c2 := 0) (s2 := 0) Qh13 (by decide +kernel) (by decide) (by decide)
                    have th13_2_2 : fld h13 2 2 = fld hL10 2 2 := Qh13.f (a1 := 2) (a2 := 2) (j1 := 2) (j2 := 3) (by decide +kernel) ⟨by decide, by decide⟩ ⟨by decide, by decide⟩ ⟨by decide, by decide⟩
                    refine zwW_inc (i := 2) (c := 1) (x := v2L5) (nx := 129) (by decide +kernel) rfl ⟨by omega, by omega⟩ (ls' := [(2, 1), (0, v2), (0, (v2L5 + 1)), (0, v3L10), (0, v4L10)]) rfl ?_
                    refine zwW_p [(24, 51, 0)] (q := 51) (ls' := [(2, 1), (0, v2), (0, (v2L5 + 1)), (0, v3L10), (0, v4L10)]) (st' := []) (by decide +kernel) rfl ?_
                    exact IHL5 ((1000 - (v2L5 + 1))).toNat (by omega) (v2L5 + 1) (0, v3L10) (0, v4L10) h13 rfl (by omega) (by omega) Ch13 (Xh13.le (by decide) (by decide))
                  · refine zwW_p [(1, 0, 2)] (q := 79) (ls' := [(2, 1), (0, v2), (0, v2L5), (0, v3L10), (0, v4L10)]) (st' := [(2, 1)]) (by decide +kernel) rfl ?_
                    refine zwW_gc ChL10.1 (kd := 12) (bn := 6) (n := 13) (c := 6) (nx := 82) (by decide +kernel) ?_
                    refine zwW_p [(1, 2, 0), (1, 4, 0)] (q := 85) (ls' := [(2, 1), (0, v2), (0, v2L5), (0, v3L10), (0, v4L10)]) (st' := [(0, v4L10), (0, v2L5), (2, 6)]) (by decide +kernel) rfl ?_
                    refine zwW_cm ChL10.1 (op := 60) (k' := 233) (n := 2) (kd := 8) (m := 2) (nx := 88) (r := 6) (tl := [(0, v2L5), (0, v4L10)]) (st' := []) (by decide +kernel) rfl (by decide +kernel) rfl (x233 hL10 ChL10 v2L5 v4L10 (by omega) (by omega)) ?_
                    rintro x _ ⟨rfl, ⟨rfl, c14⟩ | ⟨rfl, c14⟩⟩
                    · refine zwif_eq (q := 105) (nx := 91) (by decide +kernel) (fun c15 => ?_) (fun c15 => ?_)
                      · exfalso; omega
                      · refine zwW_p [(1, 3, 0), (1, 0, 2)] (q := 93) (ls' := [(2, 1), (0, v2), (0, v2L5), (0, v3L10), (0, v4L10)]) (st' := [(2, 1), (0, v3L10)]) (by decide +kernel) rfl ?_
                        refine zwW_gc ChL10.1 (kd := 12) (bn := 12) (n := 13) (c := 36) (nx := 96) (by decide +kernel) ?_
                        refine zwW_p [(1, 4, 0)] (q := 98) (ls' := [(2, 1), (0, v2), (0, v2L5), (0, v3L10), (0, v4L10)]) (st' := [(0, v4L10), (2, 36), (0, v3L10)]) (by decide +kernel) rfl ?_
                        refine zwW_al ChL10.1 (a1 := 36) (a2 := 36) (kd := 20) (n := 8) (t := 0) (lo := -2147483648) (hi := 2147483647) (nx := 99) (by decide +kernel) ⟨by decide, by decide⟩ ⟨by omega, by omega⟩ ?_
                        intro v16 ev16 lv16 uv16
                        refine zwW_p [(0, 2, 0)] (q := 100) (ls' := [(2, 1), (0, v2), (0, v2L5), (0, v3L10), (0, v4L10)]) (st' := [(0, 2), (0, v16), (0, v3L10)]) (by decide +kernel) rfl ?_
                        refine zwW_sbw (nx := 101) (by decide +kernel) ?_
                        intro v17 ev17 lv17 uv17
                        refine zwW_max (nx := 104) (by decide +kernel) rfl ?_
                        intro v18 ev18
                        refine zwW_p [(2, 3, 0)] (q := 105) (ls' := [(2, 1), (0, v2), (0, v2L5), (0, v18), (0, v4L10)]) (st' := []) (by decide +kernel) rfl ?_
                        refine zwW_inc (i := 4) (c := 1) (x := v4L10) (nx := 108) (by decide +kernel) rfl ⟨by omega, by omega⟩ (ls' := [(2, 1), (0, v2), (0, v2L5), (0, v18), (0, (v4L10 + 1))]) rfl ?_
                        refine zwW_p [(24, 72, 0)] (q := 72) (ls' := [(2, 1), (0, v2), (0, v2L5), (0, v18), (0, (v4L10 + 1))]) (st' := []) (by decide +kernel) rfl ?_
                        exact IHL10 ((1000 - (v4L10 + 1))).toNat (by omega) v18 (v4L10 + 1) hL10 rfl (by omega) (by omega) (by omega) ChL10 (XhL10.le (by decide) (by decide))
                    · refine zwif_eq (q := 105) (nx := 91) (by decide +kernel) (fun c19 => ?_) (fun c19 => ?_)
                      · refine zwW_inc (i := 4) (c := 1) (x := v4L10) (nx := 108) (by decide +kernel) rfl ⟨by omega, by omega⟩ (ls' := [(2, 1), (0, v2), (0, v2L5), (0, v3L10), (0, (v4L10 + 1))]) rfl ?_
                        refine zwW_p [(24, 72, 0)] (q := 72) (ls' := [(2, 1), (0, v2), (0, v2L5), (0, v3L10), (0, (v4L10 + 1))]) (st' := []) (by decide +kernel) rfl ?_
                        exact IHL10 ((1000 - (v4L10 + 1))).toNat (by omega) v3L10 (v4L10 + 1) hL10 rfl (by omega) (by omega) (by omega) ChL10 (XhL10.le (by decide) (by decide))
                      · exfalso; omega
              exact L10 _ v9 0 hL5 rfl (by omega) (by omega) (by omega) ChL5 (XhL5.le (by decide) (by decide))
        exact L5 _ 0 (9, 0) (9, 0) hL3 rfl (by omega) (by omega) ChL3 (XhL3.le (by decide) (by decide))
      · refine zwW_p [(1, 0, 2)] (q := 24) (ls' := [(2, 1), (0, v2), (0, v2L3), (9, 0), (9, 0)]) (st' := [(2, 1)]) (by decide +kernel) rfl ?_
        refine zwW_gc ChL3.1 (kd := 12) (bn := 12) (n := 13) (c := 36) (nx := 27) (by decide +kernel) ?_
        refine zwW_p [(1, 2, 0), (1, 0, 2)] (q := 29) (ls' := [(2, 1), (0, v2), (0, v2L3), (9, 0), (9, 0)]) (st' := [(2, 1), (0, v2L3), (2, 36)]) (by decide +kernel) rfl ?_
        refine zwW_gc ChL3.1 (kd := 12) (bn := 2) (n := 13) (c := 2) (nx := 32) (by decide +kernel) ?_
        refine zwW_p [(1, 2, 0)] (q := 33) (ls' := [(2, 1), (0, v2), (0, v2L3), (9, 0), (9, 0)]) (st' := [(0, v2L3), (2, 2), (0, v2L3), (2, 36)]) (by decide +kernel) rfl ?_
        refine zwW_cm ChL3.1 (op := 60) (k' := 123) (n := 1) (kd := 0) (m := 3) (nx := 36) (r := 2) (tl := [(0, v2L3)]) (st' := [(0, v2L3), (2, 36)]) (by decide +kernel) rfl (by decide +kernel) rfl (x123_2 ChL3 (i := v2L3) ⟨by omega, by omega⟩) ?_
        rintro v20 _ ⟨rfl, Gv20, ev20⟩
        have lv20 := Gv20.1
        refine zwW_cast (a := 11) (kd := 11) (n := 17) (nx := 39) (by decide +kernel) rfl (Or.inr Gv20.2.1) ?_
        refine zwX_gi ChL3 (kd := 11) (bn := 4) (n := 17) (nx := 42) (by decide +kernel) Gv20.2.1 Gv20.1 rfl ?_
        intro v21 ev21 lv21 uv21
        refine zwW_as ChL3.1 (a1 := 36) (a2 := 36) (n := 8) (lo := -2147483648) (hi := 2147483647) (nx := 43) (by decide +kernel) ⟨by decide, by decide⟩ ⟨by omega, by omega⟩ ⟨by omega, by omega⟩ ?_
        intro h22 eh22 Ih22
        have Ch22 : CI h22 := ChL3.wc eh22 Ih22 (by decide) (by decide)
        have Qh22 : zXR [(36, 36, 0, 8)] 0 0 hL3 h22 := zXR.wc eh22 rfl ⟨by decide, by decide, Or.inl (by decide)⟩ ⟨by omega, by omega⟩
        have Xh22 : zXR msx187 (0) (0) h h22 := XhL3.tr (c2 := 0) (s2 := 0) Qh22 (by decide +kernel) (by decide) (by decide)
        have th22_2_2 : fld h22 2 2 = fld hL3 2 2 := Qh22.f (a1 := 2) (a2 := 2) (j1 := 2) (j2 := 3) (by decide +kernel) ⟨by decide, by decide⟩ ⟨by decide, by decide⟩ ⟨by decide, by decide⟩
        refine zwW_inc (i := 2) (c := 1) (x := v2L3) (nx := 46) (by decide +kernel) rfl ⟨by omega, by omega⟩ (ls' := [(2, 1), (0, v2), (0, (v2L3 + 1)), (9, 0), (9, 0)]) rfl ?_
        refine zwW_p [(24, 18, 0)] (q := 18) (ls' := [(2, 1), (0, v2), (0, (v2L3 + 1)), (9, 0), (9, 0)]) (st' := []) (by decide +kernel) rfl ?_
        exact IHL3 ((1000 - (v2L3 + 1))).toNat (by omega) (v2L3 + 1) h22 rfl (by omega) (by omega) Ch22 (Xh22.le (by decide) (by decide))
  exact L3 _ 0 h rfl (by omega) (by omega) C (X.le (by decide) (by decide))
def msx188 : Zms := [(17, 17, 0, 13), (18, 18, 0, 400), (1004, 1004, 15, 16)]
-- WheelLand.raiseDues()V
theorem x188 {sc : List Int} (h : Hp) (C : CI h) : zwC sc 5 188 [(2, 1)] h (zwRv (fun g => CI g ∧ zXR msx188 (0) (0) h g)) := by
  refine zwC_of (D := 4) 3 (by decide +kernel) rfl (ls := [(2, 1), (9, 0), (9, 0)]) rfl ?_
  have X : zXR msx188 0 0 h h := zXR.rf _ _
  refine zwW_p [(0, 0, 0), (2, 1, 0)] (q := 2) (ls' := [(2, 1), (0, 0), (9, 0)]) (st' := []) (by decide +kernel) rfl ?_
  have L1 : ∀ (n : Nat) (v1L1 : Int) (w2L1 : Vl) (hL1 : Hp), n = ((1000 - v1L1)).toNat → (0 ≤ v1L1 ∧ v1L1 ≤ 1000) → CI hL1 → zXR msx188 (0) (0) h hL1 → zwW sc (4) 188 2 [(2, 1), (0, v1L1), w2L1] [] hL1 (zwRv (fun g => CI g ∧ zXR msx188 (0) (0) h g)) := by
    intro n
    induction n using Nat.strongRecOn with
    | ind n IHL1 =>
      intro v1L1 w2L1 hL1 hnL1 iL1_0 ChL1 XhL1
      refine zwW_p [(1, 1, 0), (1, 0, 2)] (q := 4) (ls' := [(2, 1), (0, v1L1), w2L1]) (st' := [(2, 1), (0, v1L1)]) (by decide +kernel) rfl ?_
      refine zwW_gc ChL1.1 (kd := 12) (bn := 3) (n := 13) (c := 3) (nx := 7) (by decide +kernel) ?_
      refine zwW_cm ChL1.1 (op := 60) (k' := 96) (n := 0) (kd := 0) (m := 3) (nx := 10) (r := 3) (tl := []) (st' := [(0, v1L1)]) (by decide +kernel) rfl (by decide +kernel) rfl (x96_3 ChL1) ?_
      rintro v2 _ ⟨rfl, ev2⟩
      have bv2 := zLb_3 ChL1
      refine zwic_ge (q := 89) (nx := 13) (by decide +kernel) (fun c3 => ?_) (fun c3 => ?_)
      · refine zwW_retv (nx := 90) (a := 0) (b := 0) (by decide +kernel) ?_
        exact ⟨ChL1, XhL1.le (by decide) (by decide)⟩
      · refine zwW_p [(1, 0, 2)] (q := 14) (ls' := [(2, 1), (0, v1L1), w2L1]) (st' := [(2, 1)]) (by decide +kernel) rfl ?_
        refine zwW_gc ChL1.1 (kd := 12) (bn := 3) (n := 13) (c := 3) (nx := 17) (by decide +kernel) ?_
        refine zwW_p [(1, 1, 0)] (q := 18) (ls' := [(2, 1), (0, v1L1), w2L1]) (st' := [(0, v1L1), (2, 3)]) (by decide +kernel) rfl ?_
        refine zwW_cm ChL1.1 (op := 60) (k' := 123) (n := 1) (kd := 0) (m := 3) (nx := 21) (r := 3) (tl := [(0, v1L1)]) (st' := []) (by decide +kernel) rfl (by decide +kernel) rfl (x123_3 ChL1 (i := v1L1) ⟨by omega, by omega⟩) ?_
        rintro v4 _ ⟨rfl, Gv4, ev4⟩
        have lv4 := Gv4.1
        refine zwW_cast (a := 4) (kd := 4) (n := 19) (nx := 24) (by decide +kernel) rfl (Or.inr Gv4.2.1) ?_
        refine zwW_p [(2, 2, 2), (1, 2, 2)] (q := 26) (ls' := [(2, 1), (0, v1L1), (2, v4)]) (st' := [(2, v4)]) (by decide +kernel) rfl ?_
        refine zwX_gi ChL1 (kd := 4) (bn := 2) (n := 19) (nx := 29) (by decide +kernel) Gv4.2.1 Gv4.1 rfl ?_
        intro v5 ev5 lv5 uv5
        refine zwif_le (q := 83) (nx := 32) (by decide +kernel) (fun c6 => ?_) (fun c6 => ?_)
        · refine zwW_inc (i := 1) (c := 1) (x := v1L1) (nx := 86) (by decide +kernel) rfl ⟨by omega, by omega⟩ (ls' := [(2, 1), (0, (v1L1 + 1)), (2, v4)]) rfl ?_
          refine zwW_p [(24, 2, 0)] (q := 2) (ls' := [(2, 1), (0, (v1L1 + 1)), (2, v4)]) (st' := []) (by decide +kernel) rfl ?_
          exact IHL1 ((1000 - (v1L1 + 1))).toNat (by omega) (v1L1 + 1) (2, v4) hL1 rfl (by omega) ChL1 (XhL1.le (by decide) (by decide))
        · refine zwW_p [(1, 0, 2)] (q := 33) (ls' := [(2, 1), (0, v1L1), (2, v4)]) (st' := [(2, 1)]) (by decide +kernel) rfl ?_
          refine zwW_gc ChL1.1 (kd := 12) (bn := 8) (n := 13) (c := 13) (nx := 36) (by decide +kernel) ?_
          refine zwW_p [(1, 0, 2)] (q := 37) (ls' := [(2, 1), (0, v1L1), (2, v4)]) (st' := [(2, 1), (2, 13)]) (by decide +kernel) rfl ?_
          refine zwW_gs ChL1.1 (kd := 12) (bn := 0) (n := 13) (t := 0) (lo := 0) (hi := 156) (nx := 40) (by decide +kernel) ?_
          intro v7 ev7 lv7 uv7
          refine zwW_cmv ChL1.1 (op := 60) (k' := 166) (n := 1) (kd := 9) (m := 6) (nx := 43) (r := 13) (tl := [(0, v7)]) (st' := []) (by decide +kernel) rfl (by decide +kernel) rfl (x166 hL1 ChL1 v7 (by omega) (by omega)) ?_
          rintro h8 ⟨Ch8, Qh8⟩
          have Xh8 : zXR msx188 (0) (0) h h8 := XhL1.tr (c2 := 0) (s2 := 0) Qh8 (by decide +kernel) (by decide) (by decide)
          have Gh8_0 : gH h8 v4 := Gv4.x Qh8
          refine zwW_p [(1, 0, 2)] (q := 44) (ls' := [(2, 1), (0, v1L1), (2, v4)]) (st' := [(2, 1)]) (by decide +kernel) rfl ?_
          refine zwW_gc Ch8.1 (kd := 12) (bn := 8) (n := 13) (c := 13) (nx := 47) (by decide +kernel) ?_
          refine zwW_p [(1, 2, 2), (1, 0, 2)] (q := 49) (ls' := [(2, 1), (0, v1L1), (2, v4)]) (st' := [(2, 1), (2, v4), (2, 13)]) (by decide +kernel) rfl ?_
          refine zwW_gs Ch8.1 (kd := 12) (bn := 0) (n := 13) (t := 0) (lo := 0) (hi := 156) (nx := 52) (by decide +kernel) ?_
          intro v9 ev9 lv9 uv9
          refine zwW_cs (k' := 162) (n := 1) (nx := 55) (as := [(0, v9)]) (st' := [(2, v4), (2, 13)]) (by decide +kernel) rfl (x162 h8 Ch8 v9 (by omega) (by omega)) rfl ?_
          rintro v10 _ ⟨rfl, f11, f12, f13⟩
          refine zwW_cmv Ch8.1 (op := 60) (k' := 167) (n := 2) (kd := 9) (m := 6) (nx := 58) (r := 13) (tl := [(2, v4), (0, v10)]) (st' := []) (by decide +kernel) rfl (by decide +kernel) rfl (x167 h8 Ch8 v4 v10 Gh8_0 (by omega)) ?_
          rintro h14 ⟨Ch14, Qh14⟩
          have Xh14 : zXR msx188 (0) (0) h h14 := Xh8.tr (c2 := 0) (s2 := 0) Qh14 (by decide +kernel) (by decide) (by decide)
          have Gh14_0 : gH h14 v4 := Gh8_0.x Qh14
          refine zwW_p [(1, 2, 2), (12, 0, 0)] (q := 60) (ls' := [(2, 1), (0, v1L1), (2, v4)]) (st' := [(2, v4), (2, v4)]) (by decide +kernel) rfl ?_
          refine zwX_gi Ch14 (kd := 4) (bn := 15) (n := 19) (nx := 63) (by decide +kernel) Gh14_0.2.1 Gh14_0.1 rfl ?_
          intro v15 ev15 lv15 uv15
          refine zwW_p [(1, 0, 2)] (q := 64) (ls' := [(2, 1), (0, v1L1), (2, v4)]) (st' := [(2, 1), (0, v15), (2, v4)]) (by decide +kernel) rfl ?_
          refine zwW_gc Ch14.1 (kd := 12) (bn := 8) (n := 13) (c := 13) (nx := 67) (by decide +kernel) ?_
          refine zwW_p [(0, 0, 0), (1, 0, 2)] (q := 69) (ls' := [(2, 1), (0, v1L1), (2, v4)]) (st' := [(2, 1), (0, 0), (2, 13), (0, v15), (2, v4)]) (by decide +kernel) rfl ?_
          refine zwW_gs Ch14.1 (kd := 12) (bn := 0) (n := 13) (t := 0) (lo := 0) (hi := 156) (nx := 72) (by decide +kernel) ?_
          intro v16 ev16 lv16 uv16
          refine zwW_cm Ch14.1 (op := 60) (k' := 172) (n := 2) (kd := 9) (m := 6) (nx := 75) (r := 13) (tl := [(0, 0), (0, v16)]) (st' := [(0, v15), (2, v4)]) (by decide +kernel) rfl (by decide +kernel) rfl (x172 h14 Ch14 0 v16 (by omega) (by omega)) ?_
          rintro v18 h19 ⟨Ch19, Qh19, f17⟩
          have Xh19 : zXR msx188 (0) (0) h h19 := Xh14.tr (c2 := 0) (s2 := 0) Qh19 (by decide +kernel) (by decide) (by decide)
          have Gh19_0 : gH h19 v4 := Gh14_0.x Qh19
          refine zwW_p [(0, 0, 0)] (q := 76) (ls' := [(2, 1), (0, v1L1), (2, v4)]) (st' := [(0, 0), (0, v18), (0, v15), (2, v4)]) (by decide +kernel) rfl ?_
          refine zwW_max (nx := 79) (by decide +kernel) rfl ?_
          intro v20 ev20
          refine zwW_adw (nx := 80) (by decide +kernel) ?_
          intro v21 ev21 lv21 uv21
          have Ev21 : v21 = w32 ((fld h14 v4 15) + v20) := by rw [ev21, ev15]
          refine zwX_pi Ch19 (kd := 4) (bn := 15) (n := 19) (nx := 83) (by decide +kernel) Gh19_0.2.1 Gh19_0.1 ⟨by omega, by omega⟩ ?_
          rintro h22 eh22 Ch22 Qh22
          have Xh22 : zXR msx188 (0) (0) h h22 := Xh19.tr (c2 := 0) (s2 := 0) Qh22 (by decide +kernel) (by decide) (by decide)
          have Gh22_0 : gH h22 v4 := Gh19_0.x Qh22
          refine zwW_inc (i := 1) (c := 1) (x := v1L1) (nx := 86) (by decide +kernel) rfl ⟨by omega, by omega⟩ (ls' := [(2, 1), (0, (v1L1 + 1)), (2, v4)]) rfl ?_
          refine zwW_p [(24, 2, 0)] (q := 2) (ls' := [(2, 1), (0, (v1L1 + 1)), (2, v4)]) (st' := []) (by decide +kernel) rfl ?_
          exact IHL1 ((1000 - (v1L1 + 1))).toNat (by omega) (v1L1 + 1) (2, v4) h22 rfl (by omega) Ch22 (Xh22.le (by decide) (by decide))
  exact L1 _ 0 (9, 0) h rfl (by omega) C (X.le (by decide) (by decide))
def msx189 : Zms := [(1011, 1011, 9, 10), (1011, 1011, 14, 15), (1011, 1011, 15, 16)]
-- WheelLand.moveMillPrices()V
theorem x189 {sc : List Int} (h : Hp) (C : CI h) : zwC sc 5 189 [(2, 1)] h (zwRv (fun g => CI g ∧ zXR msx189 (0) (0) h g)) := by
  refine zwC_of (D := 4) 2 (by decide +kernel) rfl (ls := [(2, 1), (9, 0)]) rfl ?_
  have X : zXR msx189 0 0 h h := zXR.rf _ _
  refine zwW_p [(0, 0, 0), (2, 1, 0)] (q := 2) (ls' := [(2, 1), (0, 0)]) (st' := []) (by decide +kernel) rfl ?_
  have L1 : ∀ (n : Nat) (v1L1 : Int) (hL1 : Hp), n = ((1000 - v1L1)).toNat → (0 ≤ v1L1 ∧ v1L1 ≤ 1000) → CI hL1 → zXR msx189 (0) (0) h hL1 → zwW sc (4) 189 2 [(2, 1), (0, v1L1)] [] hL1 (zwRv (fun g => CI g ∧ zXR msx189 (0) (0) h g)) := by
    intro n
    induction n using Nat.strongRecOn with
    | ind n IHL1 =>
      intro v1L1 hL1 hnL1 iL1_0 ChL1 XhL1
      refine zwW_p [(1, 1, 0), (1, 0, 2)] (q := 4) (ls' := [(2, 1), (0, v1L1)]) (st' := [(2, 1), (0, v1L1)]) (by decide +kernel) rfl ?_
      refine zwW_gc ChL1.1 (kd := 12) (bn := 2) (n := 13) (c := 2) (nx := 7) (by decide +kernel) ?_
      refine zwW_cm ChL1.1 (op := 60) (k' := 96) (n := 0) (kd := 0) (m := 3) (nx := 10) (r := 2) (tl := []) (st' := [(0, v1L1)]) (by decide +kernel) rfl (by decide +kernel) rfl (x96_2 ChL1) ?_
      rintro v2 _ ⟨rfl, ev2⟩
      have bv2 := zLb_2 ChL1
      refine zwic_ge (q := 33) (nx := 13) (by decide +kernel) (fun c3 => ?_) (fun c3 => ?_)
      · refine zwW_retv (nx := 34) (a := 0) (b := 0) (by decide +kernel) ?_
        exact ⟨ChL1, XhL1.le (by decide) (by decide)⟩
      · refine zwW_p [(1, 0, 2)] (q := 14) (ls' := [(2, 1), (0, v1L1)]) (st' := [(2, 1)]) (by decide +kernel) rfl ?_
        refine zwW_gc ChL1.1 (kd := 12) (bn := 2) (n := 13) (c := 2) (nx := 17) (by decide +kernel) ?_
        refine zwW_p [(1, 1, 0)] (q := 18) (ls' := [(2, 1), (0, v1L1)]) (st' := [(0, v1L1), (2, 2)]) (by decide +kernel) rfl ?_
        refine zwW_cm ChL1.1 (op := 60) (k' := 123) (n := 1) (kd := 0) (m := 3) (nx := 21) (r := 2) (tl := [(0, v1L1)]) (st' := []) (by decide +kernel) rfl (by decide +kernel) rfl (x123_2 ChL1 (i := v1L1) ⟨by omega, by omega⟩) ?_
        rintro v4 _ ⟨rfl, Gv4, ev4⟩
        have lv4 := Gv4.1
        refine zwW_cast (a := 11) (kd := 11) (n := 17) (nx := 24) (by decide +kernel) rfl (Or.inr Gv4.2.1) ?_
        refine zwW_cvv (op := 60) (k' := 234) (n := 0) (kd := 11) (m := 17) (nx := 27) (r := v4) (tl := []) (st' := []) (by decide +kernel) rfl (by decide +kernel) Gv4.2.1 (x234 hL1 ChL1 v4 Gv4) rfl ?_
        rintro h5 ⟨Ch5, Qh5⟩
        have Xh5 : zXR msx189 (0) (0) h h5 := XhL1.tr (c2 := 0) (s2 := 0) Qh5 (by decide +kernel) (by decide) (by decide)
        refine zwW_inc (i := 1) (c := 1) (x := v1L1) (nx := 30) (by decide +kernel) rfl ⟨by omega, by omega⟩ (ls' := [(2, 1), (0, (v1L1 + 1))]) rfl ?_
        refine zwW_p [(24, 2, 0)] (q := 2) (ls' := [(2, 1), (0, (v1L1 + 1))]) (st' := []) (by decide +kernel) rfl ?_
        exact IHL1 ((1000 - (v1L1 + 1))).toNat (by omega) (v1L1 + 1) h5 rfl (by omega) Ch5 (Xh5.le (by decide) (by decide))
  exact L1 _ 0 h rfl (by omega) C (X.le (by decide) (by decide))
-- WheelLand.cottonOfAll()I
theorem x190 {sc : List Int} (h : Hp) (C : CI h) : zwC sc 5 190 [(2, 1)] h (zwRt 0 (fun x g => h = g ∧ (-2147483648 ≤ x ∧ x ≤ 2147483647))) := by
  refine zwC_of (D := 4) 3 (by decide +kernel) rfl (ls := [(2, 1), (9, 0), (9, 0)]) rfl ?_
  refine zwW_p [(0, 0, 0), (2, 1, 0), (0, 0, 0), (2, 2, 0)] (q := 4) (ls' := [(2, 1), (0, 0), (0, 0)]) (st' := []) (by decide +kernel) rfl ?_
  have L1 : ∀ (n : Nat) (v1L1 v2L1 : Int), n = ((1000 - v2L1)).toNat → (-2147483648 ≤ v1L1 ∧ v1L1 ≤ 2147483647) → (0 ≤ v2L1 ∧ v2L1 ≤ 1000) → zwW sc (4) 190 4 [(2, 1), (0, v1L1), (0, v2L1)] [] h (zwRt 0 (fun x g => h = g ∧ (-2147483648 ≤ x ∧ x ≤ 2147483647))) := by
    intro n
    induction n using Nat.strongRecOn with
    | ind n IHL1 =>
      intro v1L1 v2L1 hnL1 iL1_0 iL1_1
      refine zwW_p [(1, 2, 0), (1, 0, 2)] (q := 6) (ls' := [(2, 1), (0, v1L1), (0, v2L1)]) (st' := [(2, 1), (0, v2L1)]) (by decide +kernel) rfl ?_
      refine zwW_gc C.1 (kd := 12) (bn := 2) (n := 13) (c := 2) (nx := 9) (by decide +kernel) ?_
      refine zwW_cm C.1 (op := 60) (k' := 96) (n := 0) (kd := 0) (m := 3) (nx := 12) (r := 2) (tl := []) (st' := [(0, v2L1)]) (by decide +kernel) rfl (by decide +kernel) rfl (x96_2 C) ?_
      rintro v2 _ ⟨rfl, ev2⟩
      have bv2 := zLb_2 C
      refine zwic_ge (q := 38) (nx := 15) (by decide +kernel) (fun c3 => ?_) (fun c3 => ?_)
      · refine zwW_p [(1, 1, 0)] (q := 39) (ls' := [(2, 1), (0, v1L1), (0, v2L1)]) (st' := [(0, v1L1)]) (by decide +kernel) rfl ?_
        refine zwW_ret (nx := 40) (a := 0) (b := 0) (by decide +kernel) rfl (Or.inl rfl) ?_
        exact ⟨rfl, by omega⟩
      · refine zwW_p [(1, 1, 0), (1, 0, 2)] (q := 17) (ls' := [(2, 1), (0, v1L1), (0, v2L1)]) (st' := [(2, 1), (0, v1L1)]) (by decide +kernel) rfl ?_
        refine zwW_gc C.1 (kd := 12) (bn := 2) (n := 13) (c := 2) (nx := 20) (by decide +kernel) ?_
        refine zwW_p [(1, 2, 0)] (q := 21) (ls' := [(2, 1), (0, v1L1), (0, v2L1)]) (st' := [(0, v2L1), (2, 2), (0, v1L1)]) (by decide +kernel) rfl ?_
        refine zwW_cm C.1 (op := 60) (k' := 123) (n := 1) (kd := 0) (m := 3) (nx := 24) (r := 2) (tl := [(0, v2L1)]) (st' := [(0, v1L1)]) (by decide +kernel) rfl (by decide +kernel) rfl (x123_2 C (i := v2L1) ⟨by omega, by omega⟩) ?_
        rintro v4 _ ⟨rfl, Gv4, ev4⟩
        have lv4 := Gv4.1
        refine zwW_cast (a := 11) (kd := 11) (n := 17) (nx := 27) (by decide +kernel) rfl (Or.inr Gv4.2.1) ?_
        refine zwX_gi C (kd := 11) (bn := 3) (n := 17) (nx := 30) (by decide +kernel) Gv4.2.1 Gv4.1 rfl ?_
        intro v5 ev5 lv5 uv5
        refine zwW_adw (nx := 31) (by decide +kernel) ?_
        intro v6 ev6 lv6 uv6
        have Ev6 : v6 = w32 (v1L1 + (fld h v4 3)) := by rw [ev6, ev5]
        refine zwW_p [(2, 1, 0)] (q := 32) (ls' := [(2, 1), (0, v6), (0, v2L1)]) (st' := []) (by decide +kernel) rfl ?_
        refine zwW_inc (i := 2) (c := 1) (x := v2L1) (nx := 35) (by decide +kernel) rfl ⟨by omega, by omega⟩ (ls' := [(2, 1), (0, v6), (0, (v2L1 + 1))]) rfl ?_
        refine zwW_p [(24, 4, 0)] (q := 4) (ls' := [(2, 1), (0, v6), (0, (v2L1 + 1))]) (st' := []) (by decide +kernel) rfl ?_
        exact IHL1 ((1000 - (v2L1 + 1))).toNat (by omega) v6 (v2L1 + 1) rfl (by omega) (by omega)
  exact L1 _ 0 0 rfl (by omega) (by omega)
-- WheelLand.leftOfAll()I
theorem x191 {sc : List Int} (h : Hp) (C : CI h) : zwC sc 5 191 [(2, 1)] h (zwRt 0 (fun x g => h = g ∧ (-2147483648 ≤ x ∧ x ≤ 2147483647))) := by
  refine zwC_of (D := 4) 3 (by decide +kernel) rfl (ls := [(2, 1), (9, 0), (9, 0)]) rfl ?_
  refine zwW_p [(0, 0, 0), (2, 1, 0), (0, 0, 0), (2, 2, 0)] (q := 4) (ls' := [(2, 1), (0, 0), (0, 0)]) (st' := []) (by decide +kernel) rfl ?_
  have L1 : ∀ (n : Nat) (v1L1 v2L1 : Int), n = ((1000 - v2L1)).toNat → (-2147483648 ≤ v1L1 ∧ v1L1 ≤ 2147483647) → (0 ≤ v2L1 ∧ v2L1 ≤ 1000) → zwW sc (4) 191 4 [(2, 1), (0, v1L1), (0, v2L1)] [] h (zwRt 0 (fun x g => h = g ∧ (-2147483648 ≤ x ∧ x ≤ 2147483647))) := by
    intro n
    induction n using Nat.strongRecOn with
    | ind n IHL1 =>
      intro v1L1 v2L1 hnL1 iL1_0 iL1_1
      refine zwW_p [(1, 2, 0), (1, 0, 2)] (q := 6) (ls' := [(2, 1), (0, v1L1), (0, v2L1)]) (st' := [(2, 1), (0, v2L1)]) (by decide +kernel) rfl ?_
      refine zwW_gc C.1 (kd := 12) (bn := 4) (n := 13) (c := 4) (nx := 9) (by decide +kernel) ?_
      refine zwW_cm C.1 (op := 60) (k' := 96) (n := 0) (kd := 0) (m := 3) (nx := 12) (r := 4) (tl := []) (st' := [(0, v2L1)]) (by decide +kernel) rfl (by decide +kernel) rfl (x96_4 C) ?_
      rintro v2 _ ⟨rfl, ev2⟩
      have bv2 := zLb_4 C
      refine zwic_ge (q := 38) (nx := 15) (by decide +kernel) (fun c3 => ?_) (fun c3 => ?_)
      · refine zwW_p [(1, 1, 0)] (q := 39) (ls' := [(2, 1), (0, v1L1), (0, v2L1)]) (st' := [(0, v1L1)]) (by decide +kernel) rfl ?_
        refine zwW_ret (nx := 40) (a := 0) (b := 0) (by decide +kernel) rfl (Or.inl rfl) ?_
        exact ⟨rfl, by omega⟩
      · refine zwW_p [(1, 1, 0), (1, 0, 2)] (q := 17) (ls' := [(2, 1), (0, v1L1), (0, v2L1)]) (st' := [(2, 1), (0, v1L1)]) (by decide +kernel) rfl ?_
        refine zwW_gc C.1 (kd := 12) (bn := 4) (n := 13) (c := 4) (nx := 20) (by decide +kernel) ?_
        refine zwW_p [(1, 2, 0)] (q := 21) (ls' := [(2, 1), (0, v1L1), (0, v2L1)]) (st' := [(0, v2L1), (2, 4), (0, v1L1)]) (by decide +kernel) rfl ?_
        refine zwW_cm C.1 (op := 60) (k' := 123) (n := 1) (kd := 0) (m := 3) (nx := 24) (r := 4) (tl := [(0, v2L1)]) (st' := [(0, v1L1)]) (by decide +kernel) rfl (by decide +kernel) rfl (x123_4 C (i := v2L1) ⟨by omega, by omega⟩) ?_
        rintro v4 _ ⟨rfl, Gv4, ev4⟩
        have lv4 := Gv4.1
        refine zwW_cast (a := 6) (kd := 6) (n := 7) (nx := 27) (by decide +kernel) rfl (Or.inr Gv4.2.1) ?_
        refine zwX_gi C (kd := 6) (bn := 6) (n := 7) (nx := 30) (by decide +kernel) Gv4.2.1 Gv4.1 rfl ?_
        intro v5 ev5 lv5 uv5
        refine zwW_adw (nx := 31) (by decide +kernel) ?_
        intro v6 ev6 lv6 uv6
        have Ev6 : v6 = w32 (v1L1 + (fld h v4 6)) := by rw [ev6, ev5]
        refine zwW_p [(2, 1, 0)] (q := 32) (ls' := [(2, 1), (0, v6), (0, v2L1)]) (st' := []) (by decide +kernel) rfl ?_
        refine zwW_inc (i := 2) (c := 1) (x := v2L1) (nx := 35) (by decide +kernel) rfl ⟨by omega, by omega⟩ (ls' := [(2, 1), (0, v6), (0, (v2L1 + 1))]) rfl ?_
        refine zwW_p [(24, 4, 0)] (q := 4) (ls' := [(2, 1), (0, v6), (0, (v2L1 + 1))]) (st' := []) (by decide +kernel) rfl ?_
        exact IHL1 ((1000 - (v2L1 + 1))).toNat (by omega) v6 (v2L1 + 1) rfl (by omega) (by omega)
  exact L1 _ 0 0 rfl (by omega) (by omega)
def msx193 : Zms := [(1004, 1004, 14, 15), (1020, 1020, 0, 100000)]
-- WheelLand.beginWeek()V
theorem x193 {sc : List Int} (h : Hp) (C : CI h) : zwC sc 5 193 [(2, 1)] h (zwRv (fun g => CI g ∧ zXR msx193 (0) (0) h g)) := by
  refine zwC_of (D := 4) 2 (by decide +kernel) rfl (ls := [(2, 1), (9, 0)]) rfl ?_
  have X : zXR msx193 0 0 h h := zXR.rf _ _
  refine zwW_p [(0, 0, 0), (2, 1, 0)] (q := 2) (ls' := [(2, 1), (0, 0)]) (st' := []) (by decide +kernel) rfl ?_
  have L1 : ∀ (n : Nat) (v1L1 : Int) (hL1 : Hp), n = ((1000 - v1L1)).toNat → (0 ≤ v1L1 ∧ v1L1 ≤ 1000) → CI hL1 → zXR msx193 (0) (0) h hL1 → zwW sc (4) 193 2 [(2, 1), (0, v1L1)] [] hL1 (zwRv (fun g => CI g ∧ zXR msx193 (0) (0) h g)) := by
    intro n
    induction n using Nat.strongRecOn with
    | ind n IHL1 =>
      intro v1L1 hL1 hnL1 iL1_0 ChL1 XhL1
      refine zwW_p [(1, 1, 0), (1, 0, 2)] (q := 4) (ls' := [(2, 1), (0, v1L1)]) (st' := [(2, 1), (0, v1L1)]) (by decide +kernel) rfl ?_
      refine zwW_gc ChL1.1 (kd := 12) (bn := 2) (n := 13) (c := 2) (nx := 7) (by decide +kernel) ?_
      refine zwW_cm ChL1.1 (op := 60) (k' := 96) (n := 0) (kd := 0) (m := 3) (nx := 10) (r := 2) (tl := []) (st' := [(0, v1L1)]) (by decide +kernel) rfl (by decide +kernel) rfl (x96_2 ChL1) ?_
      rintro v2 _ ⟨rfl, ev2⟩
      have bv2 := zLb_2 ChL1
      refine zwic_ge (q := 37) (nx := 13) (by decide +kernel) (fun c3 => ?_) (fun c3 => ?_)
      · refine zwW_p [(0, 0, 0), (2, 1, 0)] (q := 39) (ls' := [(2, 1), (0, 0)]) (st' := []) (by decide +kernel) rfl ?_
        have L4 : ∀ (n : Nat) (v1L4 : Int) (hL4 : Hp), n = ((1000 - v1L4)).toNat → (0 ≤ v1L4 ∧ v1L4 ≤ 1000) → CI hL4 → zXR msx193 (0) (0) h hL4 → zwW sc (4) 193 39 [(2, 1), (0, v1L4)] [] hL4 (zwRv (fun g => CI g ∧ zXR msx193 (0) (0) h g)) := by
          intro n
          induction n using Nat.strongRecOn with
          | ind n IHL4 =>
            intro v1L4 hL4 hnL4 iL4_0 ChL4 XhL4
            refine zwW_p [(1, 1, 0), (1, 0, 2)] (q := 41) (ls' := [(2, 1), (0, v1L4)]) (st' := [(2, 1), (0, v1L4)]) (by decide +kernel) rfl ?_
            refine zwW_gc ChL4.1 (kd := 12) (bn := 3) (n := 13) (c := 3) (nx := 44) (by decide +kernel) ?_
            refine zwW_cm ChL4.1 (op := 60) (k' := 96) (n := 0) (kd := 0) (m := 3) (nx := 47) (r := 3) (tl := []) (st' := [(0, v1L4)]) (by decide +kernel) rfl (by decide +kernel) rfl (x96_3 ChL4) ?_
            rintro v5 _ ⟨rfl, ev5⟩
            have bv5 := zLb_3 ChL4
            refine zwic_ge (q := 71) (nx := 50) (by decide +kernel) (fun c6 => ?_) (fun c6 => ?_)
            · refine zwW_retv (nx := 72) (a := 0) (b := 0) (by decide +kernel) ?_
              exact ⟨ChL4, XhL4.le (by decide) (by decide)⟩
            · refine zwW_p [(1, 0, 2)] (q := 51) (ls' := [(2, 1), (0, v1L4)]) (st' := [(2, 1)]) (by decide +kernel) rfl ?_
              refine zwW_gc ChL4.1 (kd := 12) (bn := 3) (n := 13) (c := 3) (nx := 54) (by decide +kernel) ?_
              refine zwW_p [(1, 1, 0)] (q := 55) (ls' := [(2, 1), (0, v1L4)]) (st' := [(0, v1L4), (2, 3)]) (by decide +kernel) rfl ?_
              refine zwW_cm ChL4.1 (op := 60) (k' := 123) (n := 1) (kd := 0) (m := 3) (nx := 58) (r := 3) (tl := [(0, v1L4)]) (st' := []) (by decide +kernel) rfl (by decide +kernel) rfl (x123_3 ChL4 (i := v1L4) ⟨by omega, by omega⟩) ?_
              rintro v7 _ ⟨rfl, Gv7, ev7⟩
              have lv7 := Gv7.1
              refine zwW_cast (a := 4) (kd := 4) (n := 19) (nx := 61) (by decide +kernel) rfl (Or.inr Gv7.2.1) ?_
              refine zwW_p [(0, 0, 0)] (q := 62) (ls' := [(2, 1), (0, v1L4)]) (st' := [(0, 0), (2, v7)]) (by decide +kernel) rfl ?_
              refine zwX_pi ChL4 (kd := 4) (bn := 14) (n := 19) (nx := 65) (by decide +kernel) Gv7.2.1 Gv7.1 ⟨by decide, by decide⟩ ?_
              rintro h8 eh8 Ch8 Qh8
              have Xh8 : zXR msx193 (0) (0) h h8 := XhL4.tr (c2 := 0) (s2 := 0) Qh8 (by decide +kernel) (by decide) (by decide)
              refine zwW_inc (i := 1) (c := 1) (x := v1L4) (nx := 68) (by decide +kernel) rfl ⟨by omega, by omega⟩ (ls' := [(2, 1), (0, (v1L4 + 1))]) rfl ?_
              refine zwW_p [(24, 39, 0)] (q := 39) (ls' := [(2, 1), (0, (v1L4 + 1))]) (st' := []) (by decide +kernel) rfl ?_
              exact IHL4 ((1000 - (v1L4 + 1))).toNat (by omega) (v1L4 + 1) h8 rfl (by omega) Ch8 (Xh8.le (by decide) (by decide))
        exact L4 _ 0 hL1 rfl (by omega) ChL1 (XhL1.le (by decide) (by decide))
      · refine zwW_p [(1, 0, 2)] (q := 14) (ls' := [(2, 1), (0, v1L1)]) (st' := [(2, 1)]) (by decide +kernel) rfl ?_
        refine zwW_gc ChL1.1 (kd := 12) (bn := 2) (n := 13) (c := 2) (nx := 17) (by decide +kernel) ?_
        refine zwW_p [(1, 1, 0)] (q := 18) (ls' := [(2, 1), (0, v1L1)]) (st' := [(0, v1L1), (2, 2)]) (by decide +kernel) rfl ?_
        refine zwW_cm ChL1.1 (op := 60) (k' := 123) (n := 1) (kd := 0) (m := 3) (nx := 21) (r := 2) (tl := [(0, v1L1)]) (st' := []) (by decide +kernel) rfl (by decide +kernel) rfl (x123_2 ChL1 (i := v1L1) ⟨by omega, by omega⟩) ?_
        rintro v9 _ ⟨rfl, Gv9, ev9⟩
        have lv9 := Gv9.1
        refine zwW_cast (a := 11) (kd := 11) (n := 17) (nx := 24) (by decide +kernel) rfl (Or.inr Gv9.2.1) ?_
        refine zwW_p [(1, 0, 2)] (q := 25) (ls' := [(2, 1), (0, v1L1)]) (st' := [(2, 1), (2, v9)]) (by decide +kernel) rfl ?_
        refine zwW_gs ChL1.1 (kd := 12) (bn := 0) (n := 13) (t := 0) (lo := 0) (hi := 156) (nx := 28) (by decide +kernel) ?_
        intro v10 ev10 lv10 uv10
        refine zwW_cvv (op := 60) (k' := 235) (n := 1) (kd := 11) (m := 17) (nx := 31) (r := v9) (tl := [(0, v10)]) (st' := []) (by decide +kernel) rfl (by decide +kernel) Gv9.2.1 (x235 hL1 ChL1 v9 v10 Gv9 (by omega)) rfl ?_
        rintro h11 ⟨Ch11, Qh11⟩
        have Xh11 : zXR msx193 (0) (0) h h11 := XhL1.tr (c2 := 0) (s2 := 0) Qh11 (by decide +kernel) (by decide) (by decide)
        refine zwW_inc (i := 1) (c := 1) (x := v1L1) (nx := 34) (by decide +kernel) rfl ⟨by omega, by omega⟩ (ls' := [(2, 1), (0, (v1L1 + 1))]) rfl ?_
        refine zwW_p [(24, 2, 0)] (q := 2) (ls' := [(2, 1), (0, (v1L1 + 1))]) (st' := []) (by decide +kernel) rfl ?_
        exact IHL1 ((1000 - (v1L1 + 1))).toNat (by omega) (v1L1 + 1) h11 rfl (by omega) Ch11 (Xh11.le (by decide) (by decide))
  exact L1 _ 0 h rfl (by omega) C (X.le (by decide) (by decide))
def msx113 : Zms := [(1, 1, 0, 1), (1, 1, 1, 2), (4, 4, 0, 3), (17, 17, 0, 13), (18, 18, 0, 400), (34, 34, 2, 3), (35, 35, 0, 936), (36, 36, 0, 8), (1004, 1004, 6, 7), (1004, 1004, 8, 9), (1004, 1004, 9, 10), (1004, 1004, 10, 11), (1004, 1004, 14, 15), (1004, 1004, 15, 16), (1004, 1004, 18, 19), (1011, 1011, 3, 4), (1011, 1011, 4, 5), (1011, 1011, 5, 6), (1011, 1011, 6, 7), (1011, 1011, 7, 8), (1011, 1011, 9, 10), (1011, 1011, 10, 11), (1011, 1011, 13, 14), (1011, 1011, 14, 15), (1011, 1011, 15, 16), (1020, 1020, 0, 100000)]
-- WheelLand.endWeek()V
theorem x113 {sc : List Int} (h : Hp) (C : CI h) (p1 : fld h 1 0 < 156) (hl : h.length ≤ 999920000) : zwC sc 8 113 [(2, 1)] h (zwRv (fun g => CI g ∧ zXR msx113 (0) (0) h g ∧ (fld g 1 0 = fld h 1 0 + 1))) := by
  refine zwC_of (D := 7) 2 (by decide +kernel) rfl (ls := [(2, 1), (9, 0)]) rfl ?_
  have X : zXR msx113 0 0 h h := zXR.rf _ _
  refine zwW_p [(1, 0, 2)] (q := 1) (ls' := [(2, 1), (9, 0)]) (st' := [(2, 1)]) (by decide +kernel) rfl ?_
  refine zwW_cm C.1 (op := 60) (k' := 185) (n := 0) (kd := 12) (m := 13) (nx := 4) (r := 1) (tl := []) (st' := []) (by decide +kernel) rfl (by decide +kernel) rfl (x185 h C (by omega)) ?_
  rintro v2 h3 ⟨Ch3, Qh3, f1⟩
  have Xh3 : zXR msx113 (0) (0) h h3 := X.tr (c2 := 0) (s2 := 0) Qh3 (by decide +kernel) (by decide) (by decide)
  have th3_1_0 : fld h3 1 0 = fld h 1 0 := Qh3.f (a1 := 1) (a2 := 1) (j1 := 0) (j2 := 1) (by decide +kernel) ⟨by decide, by decide⟩ ⟨by decide, by decide⟩ ⟨by decide, by decide⟩
  refine zwW_p [(2, 1, 0), (1, 0, 2)] (q := 6) (ls' := [(2, 1), (0, v2)]) (st' := [(2, 1)]) (by decide +kernel) rfl ?_
  refine zwW_cmv Ch3.1 (op := 60) (k' := 186) (n := 0) (kd := 12) (m := 13) (nx := 9) (r := 1) (tl := []) (st' := []) (by decide +kernel) rfl (by decide +kernel) rfl (x186 h3 Ch3) ?_
  rintro h4 ⟨Ch4, Qh4⟩
  have Xh4 : zXR msx113 (0) (0) h h4 := Xh3.tr (c2 := 0) (s2 := 0) Qh4 (by decide +kernel) (by decide) (by decide)
  have th4_1_0 : fld h4 1 0 = fld h3 1 0 := Qh4.f (a1 := 1) (a2 := 1) (j1 := 0) (j2 := 1) (by decide +kernel) ⟨by decide, by decide⟩ ⟨by decide, by decide⟩ ⟨by decide, by decide⟩
  refine zwW_p [(1, 0, 2)] (q := 10) (ls' := [(2, 1), (0, v2)]) (st' := [(2, 1)]) (by decide +kernel) rfl ?_
  refine zwW_cmv Ch4.1 (op := 60) (k' := 187) (n := 0) (kd := 12) (m := 13) (nx := 13) (r := 1) (tl := []) (st' := []) (by decide +kernel) rfl (by decide +kernel) rfl (x187 h4 Ch4) ?_
  rintro h5 ⟨Ch5, Qh5⟩
  have Xh5 : zXR msx113 (0) (0) h h5 := Xh4.tr (c2 := 0) (s2 := 0) Qh5 (by decide +kernel) (by decide) (by decide)
  have th5_1_0 : fld h5 1 0 = fld h4 1 0 := Qh5.f (a1 := 1) (a2 := 1) (j1 := 0) (j2 := 1) (by decide +kernel) ⟨by decide, by decide⟩ ⟨by decide, by decide⟩ ⟨by decide, by decide⟩
  refine zwW_p [(1, 0, 2)] (q := 14) (ls' := [(2, 1), (0, v2)]) (st' := [(2, 1)]) (by decide +kernel) rfl ?_
  refine zwW_gs Ch5.1 (kd := 12) (bn := 0) (n := 13) (t := 0) (lo := 0) (hi := 156) (nx := 17) (by decide +kernel) ?_
  intro v6 ev6 lv6 uv6
  refine zwW_p [(0, 13, 0)] (q := 19) (ls' := [(2, 1), (0, v2)]) (st' := [(0, 13), (0, v6)]) (by decide +kernel) rfl ?_
  refine zwW_rem (nx := 20) (by decide +kernel) (by omega) (by omega) ?_
  refine zwW_p [(0, 12, 0)] (q := 22) (ls' := [(2, 1), (0, v2)]) (st' := [(0, 12), (0, (v6 % 13))]) (by decide +kernel) rfl ?_
  refine zwic_ne (q := 33) (nx := 25) (by decide +kernel) (fun c7 => ?_) (fun c7 => ?_)
  · refine zwW_p [(1, 0, 2)] (q := 34) (ls' := [(2, 1), (0, v2)]) (st' := [(2, 1)]) (by decide +kernel) rfl ?_
    refine zwW_gc Ch5.1 (kd := 12) (bn := 11) (n := 13) (c := 34) (nx := 37) (by decide +kernel) ?_
    refine zwW_p [(1, 0, 2)] (q := 38) (ls' := [(2, 1), (0, v2)]) (st' := [(2, 1), (2, 34)]) (by decide +kernel) rfl ?_
    refine zwW_gs Ch5.1 (kd := 12) (bn := 0) (n := 13) (t := 0) (lo := 0) (hi := 156) (nx := 41) (by decide +kernel) ?_
    intro v8 ev8 lv8 uv8
    refine zwW_p [(1, 0, 2)] (q := 42) (ls' := [(2, 1), (0, v2)]) (st' := [(2, 1), (0, v8), (2, 34)]) (by decide +kernel) rfl ?_
    refine zwW_cm Ch5.1 (op := 60) (k' := 190) (n := 0) (kd := 12) (m := 13) (nx := 45) (r := 1) (tl := []) (st' := [(0, v8), (2, 34)]) (by decide +kernel) rfl (by decide +kernel) rfl (x190 h5 Ch5) ?_
    rintro v9 _ ⟨rfl, f10⟩
    refine zwW_p [(1, 1, 0), (1, 0, 2)] (q := 47) (ls' := [(2, 1), (0, v2)]) (st' := [(2, 1), (0, v2), (0, v9), (0, v8), (2, 34)]) (by decide +kernel) rfl ?_
    refine zwW_cm Ch5.1 (op := 60) (k' := 191) (n := 0) (kd := 12) (m := 13) (nx := 50) (r := 1) (tl := []) (st' := [(0, v2), (0, v9), (0, v8), (2, 34)]) (by decide +kernel) rfl (by decide +kernel) rfl (x191 h5 Ch5) ?_
    rintro v11 _ ⟨rfl, f12⟩
    refine zwW_cmv Ch5.1 (op := 60) (k' := 192) (n := 4) (kd := 5) (m := 4) (nx := 53) (r := 34) (tl := [(0, v8), (0, v9), (0, v2), (0, v11)]) (st' := []) (by decide +kernel) rfl (by decide +kernel) rfl (x192 h5 Ch5 v8 v9 v2 v11 (by omega) (by omega) (by omega) (by omega) (by omega)) ?_
    rintro h13 ⟨Ch13, Qh13⟩
    have Xh13 : zXR msx113 (0) (0) h h13 := Xh5.tr (c2 := 0) (s2 := 0) Qh13 (by decide +kernel) (by decide) (by decide)
    have th13_1_0 : fld h13 1 0 = fld h5 1 0 := Qh13.f (a1 := 1) (a2 := 1) (j1 := 0) (j2 := 1) (by decide +kernel) ⟨by decide, by decide⟩ ⟨by decide, by decide⟩ ⟨by decide, by decide⟩
    refine zwW_p [(1, 0, 2), (12, 0, 0)] (q := 55) (ls' := [(2, 1), (0, v2)]) (st' := [(2, 1), (2, 1)]) (by decide +kernel) rfl ?_
    refine zwW_gs Ch13.1 (kd := 12) (bn := 0) (n := 13) (t := 0) (lo := 0) (hi := 156) (nx := 58) (by decide +kernel) ?_
    intro v14 ev14 lv14 uv14
    refine zwW_p [(0, 1, 0)] (q := 59) (ls' := [(2, 1), (0, v2)]) (st' := [(0, 1), (0, v14), (2, 1)]) (by decide +kernel) rfl ?_
    refine zwW_add (nx := 60) (by decide +kernel) ⟨by omega, by omega⟩ ?_
    refine zwW_ps Ch13.1 (kd := 12) (bn := 0) (n := 13) (lo := 0) (hi := 156) (nx := 63) (by decide +kernel) ⟨by omega, by omega⟩ ?_
    intro h15 eh15 Ih15
    have Ch15 : CI h15 := Ch13.wc eh15 Ih15 (by decide) (by decide)
    have Qh15 : zXR [(1, 1, 0, 1)] 0 0 h13 h15 := zXR.wc eh15 rfl ⟨by decide, by decide, Or.inl (by decide)⟩ ⟨by decide, by decide⟩
    have Xh15 : zXR msx113 (0) (0) h h15 := Xh13.tr (c2 := 0) (s2 := 0) Qh15 (by decide +kernel) (by decide) (by decide)
    have th15_1_0 : fld h15 1 0 = (v14 + 1) := by rw [eh15]; exact fld_wr_eq (Ch13.1.s (a1 := 1) (a2 := 1) (k := 12) (n := 13) (by decide +kernel) (by decide) (by decide)) (by decide)
    refine zwW_p [(1, 0, 2)] (q := 64) (ls' := [(2, 1), (0, v2)]) (st' := [(2, 1)]) (by decide +kernel) rfl ?_
    refine zwW_cmv Ch15.1 (op := 60) (k' := 193) (n := 0) (kd := 12) (m := 13) (nx := 67) (r := 1) (tl := []) (st' := []) (by decide +kernel) rfl (by decide +kernel) rfl (x193 h15 Ch15) ?_
    rintro h16 ⟨Ch16, Qh16⟩
    have Xh16 : zXR msx113 (0) (0) h h16 := Xh15.tr (c2 := 0) (s2 := 0) Qh16 (by decide +kernel) (by decide) (by decide)
    have th16_1_0 : fld h16 1 0 = fld h15 1 0 := Qh16.f (a1 := 1) (a2 := 1) (j1 := 0) (j2 := 1) (by decide +kernel) ⟨by decide, by decide⟩ ⟨by decide, by decide⟩ ⟨by decide, by decide⟩
    refine zwW_retv (nx := 68) (a := 0) (b := 0) (by decide +kernel) ?_
    exact ⟨Ch16, Xh16.le (by decide) (by decide), by omega⟩
  · refine zwW_p [(1, 0, 2)] (q := 26) (ls' := [(2, 1), (0, v2)]) (st' := [(2, 1)]) (by decide +kernel) rfl ?_
    refine zwW_cmv Ch5.1 (op := 60) (k' := 188) (n := 0) (kd := 12) (m := 13) (nx := 29) (r := 1) (tl := []) (st' := []) (by decide +kernel) rfl (by decide +kernel) rfl (x188 h5 Ch5) ?_
    rintro h17 ⟨Ch17, Qh17⟩
    have Xh17 : zXR msx113 (0) (0) h h17 := Xh5.tr (c2 := 0) (s2 := 0) Qh17 (by decide +kernel) (by decide) (by decide)
    have th17_1_0 : fld h17 1 0 = fld h5 1 0 := Qh17.f (a1 := 1) (a2 := 1) (j1 := 0) (j2 := 1) (by decide +kernel) ⟨by decide, by decide⟩ ⟨by decide, by decide⟩ ⟨by decide, by decide⟩
    refine zwW_p [(1, 0, 2)] (q := 30) (ls' := [(2, 1), (0, v2)]) (st' := [(2, 1)]) (by decide +kernel) rfl ?_
    refine zwW_cmv Ch17.1 (op := 60) (k' := 189) (n := 0) (kd := 12) (m := 13) (nx := 33) (r := 1) (tl := []) (st' := []) (by decide +kernel) rfl (by decide +kernel) rfl (x189 h17 Ch17) ?_
    rintro h18 ⟨Ch18, Qh18⟩
    have Xh18 : zXR msx113 (0) (0) h h18 := Xh17.tr (c2 := 0) (s2 := 0) Qh18 (by decide +kernel) (by decide) (by decide)
    have th18_1_0 : fld h18 1 0 = fld h17 1 0 := Qh18.f (a1 := 1) (a2 := 1) (j1 := 0) (j2 := 1) (by decide +kernel) ⟨by decide, by decide⟩ ⟨by decide, by decide⟩ ⟨by decide, by decide⟩
    refine zwW_p [(1, 0, 2)] (q := 34) (ls' := [(2, 1), (0, v2)]) (st' := [(2, 1)]) (by decide +kernel) rfl ?_
    refine zwW_gc Ch18.1 (kd := 12) (bn := 11) (n := 13) (c := 34) (nx := 37) (by decide +kernel) ?_
    refine zwW_p [(1, 0, 2)] (q := 38) (ls' := [(2, 1), (0, v2)]) (st' := [(2, 1), (2, 34)]) (by decide +kernel) rfl ?_
    refine zwW_gs Ch18.1 (kd := 12) (bn := 0) (n := 13) (t := 0) (lo := 0) (hi := 156) (nx := 41) (by decide +kernel) ?_
    intro v19 ev19 lv19 uv19
    refine zwW_p [(1, 0, 2)] (q := 42) (ls' := [(2, 1), (0, v2)]) (st' := [(2, 1), (0, v19), (2, 34)]) (by decide +kernel) rfl ?_
    refine zwW_cm Ch18.1 (op := 60) (k' := 190) (n := 0) (kd := 12) (m := 13) (nx := 45) (r := 1) (tl := []) (st' := [(0, v19), (2, 34)]) (by decide +kernel) rfl (by decide +kernel) rfl (x190 h18 Ch18) ?_
    rintro v20 _ ⟨rfl, f21⟩
    refine zwW_p [(1, 1, 0), (1, 0, 2)] (q := 47) (ls' := [(2, 1), (0, v2)]) (st' := [(2, 1), (0, v2), (0, v20), (0, v19), (2, 34)]) (by decide +kernel) rfl ?_
    refine zwW_cm Ch18.1 (op := 60) (k' := 191) (n := 0) (kd := 12) (m := 13) (nx := 50) (r := 1) (tl := []) (st' := [(0, v2), (0, v20), (0, v19), (2, 34)]) (by decide +kernel) rfl (by decide +kernel) rfl (x191 h18 Ch18) ?_
    rintro v22 _ ⟨rfl, f23⟩
    refine zwW_cmv Ch18.1 (op := 60) (k' := 192) (n := 4) (kd := 5) (m := 4) (nx := 53) (r := 34) (tl := [(0, v19), (0, v20), (0, v2), (0, v22)]) (st' := []) (by decide +kernel) rfl (by decide +kernel) rfl (x192 h18 Ch18 v19 v20 v2 v22 (by omega) (by omega) (by omega) (by omega) (by omega)) ?_
    rintro h24 ⟨Ch24, Qh24⟩
    have Xh24 : zXR msx113 (0) (0) h h24 := Xh18.tr (c2 := 0) (s2 := 0) Qh24 (by decide +kernel) (by decide) (by decide)
    have th24_1_0 : fld h24 1 0 = fld h18 1 0 := Qh24.f (a1 := 1) (a2 := 1) (j1 := 0) (j2 := 1) (by decide +kernel) ⟨by decide, by decide⟩ ⟨by decide, by decide⟩ ⟨by decide, by decide⟩
    refine zwW_p [(1, 0, 2), (12, 0, 0)] (q := 55) (ls' := [(2, 1), (0, v2)]) (st' := [(2, 1), (2, 1)]) (by decide +kernel) rfl ?_
    refine zwW_gs Ch24.1 (kd := 12) (bn := 0) (n := 13) (t := 0) (lo := 0) (hi := 156) (nx := 58) (by decide +kernel) ?_
    intro v25 ev25 lv25 uv25
    refine zwW_p [(0, 1, 0)] (q := 59) (ls' := [(2, 1), (0, v2)]) (st' := [(0, 1), (0, v25), (2, 1)]) (by decide +kernel) rfl ?_
    refine zwW_add (nx := 60) (by decide +kernel) ⟨by omega, by omega⟩ ?_
    refine zwW_ps Ch24.1 (kd := 12) (bn := 0) (n := 13) (lo := 0) (hi := 156) (nx := 63) (by decide +kernel) ⟨by omega, by omega⟩ ?_
    intro h26 eh26 Ih26
    have Ch26 : CI h26 := Ch24.wc eh26 Ih26 (by decide) (by decide)
    have Qh26 : zXR [(1, 1, 0, 1)] 0 0 h24 h26 := zXR.wc eh26 rfl ⟨by decide, by decide, Or.inl (by decide)⟩ ⟨by decide, by decide⟩
    have Xh26 : zXR msx113 (0) (0) h h26 := Xh24.tr (c2 := 0) (s2 := 0) Qh26 (by decide +kernel) (by decide) (by decide)
    have th26_1_0 : fld h26 1 0 = (v25 + 1) := by rw [eh26]; exact fld_wr_eq (Ch24.1.s (a1 := 1) (a2 := 1) (k := 12) (n := 13) (by decide +kernel) (by decide) (by decide)) (by decide)
    refine zwW_p [(1, 0, 2)] (q := 64) (ls' := [(2, 1), (0, v2)]) (st' := [(2, 1)]) (by decide +kernel) rfl ?_
    refine zwW_cmv Ch26.1 (op := 60) (k' := 193) (n := 0) (kd := 12) (m := 13) (nx := 67) (r := 1) (tl := []) (st' := []) (by decide +kernel) rfl (by decide +kernel) rfl (x193 h26 Ch26) ?_
    rintro h27 ⟨Ch27, Qh27⟩
    have Xh27 : zXR msx113 (0) (0) h h27 := Xh26.tr (c2 := 0) (s2 := 0) Qh27 (by decide +kernel) (by decide) (by decide)
    have th27_1_0 : fld h27 1 0 = fld h26 1 0 := Qh27.f (a1 := 1) (a2 := 1) (j1 := 0) (j2 := 1) (by decide +kernel) ⟨by decide, by decide⟩ ⟨by decide, by decide⟩ ⟨by decide, by decide⟩
    refine zwW_retv (nx := 68) (a := 0) (b := 0) (by decide +kernel) ?_
    exact ⟨Ch27, Xh27.le (by decide) (by decide), by omega⟩
def msx145 : Zms := [(17, 17, 0, 13), (18, 18, 0, 400), (19, 19, 2, 3), (19, 19, 3, 4), (22, 22, 0, 6), (23, 23, 0, 6)]
-- WheelLand.offerLot(ILWheelLand$Lot;)V
theorem x145 {sc : List Int} (h : Hp) (C : CI h) (a r : Int) (q_a : -2147483648 ≤ a ∧ a ≤ 2147483647) (G_r : gL h r) : zwC sc 6 145 [(2, 1), (0, a), (2, r)] h (zwRv (fun g => CI g ∧ zXR msx145 (0) (0) h g)) := by
  refine zwC_of (D := 5) 9 (by decide +kernel) rfl (ls := [(2, 1), (0, a), (2, r), (9, 0), (9, 0), (9, 0), (9, 0), (9, 0), (9, 0)]) rfl ?_
  have lw_r := G_r.1
  have X : zXR msx145 0 0 h h := zXR.rf _ _
  refine zwW_p [(1, 2, 2)] (q := 1) (ls' := [(2, 1), (0, a), (2, r), (9, 0), (9, 0), (9, 0), (9, 0), (9, 0), (9, 0)]) (st' := [(2, r)]) (by decide +kernel) rfl ?_
  refine zwX_gi C (kd := 6) (bn := 6) (n := 7) (nx := 4) (by decide +kernel) G_r.2.1 G_r.1 rfl ?_
  intro v1 ev1 lv1 uv1
  refine zwW_p [(1, 2, 2)] (q := 5) (ls' := [(2, 1), (0, a), (2, r), (9, 0), (9, 0), (9, 0), (9, 0), (9, 0), (9, 0)]) (st' := [(2, r), (0, v1)]) (by decide +kernel) rfl ?_
  refine zwX_gi C (kd := 6) (bn := 6) (n := 7) (nx := 8) (by decide +kernel) G_r.2.1 G_r.1 rfl ?_
  intro v2 ev2 lv2 uv2
  refine zwW_p [(0, 2, 0)] (q := 9) (ls' := [(2, 1), (0, a), (2, r), (9, 0), (9, 0), (9, 0), (9, 0), (9, 0), (9, 0)]) (st' := [(0, 2), (0, v2), (0, v1)]) (by decide +kernel) rfl ?_
  refine zwW_tmw (nx := 10) (by decide +kernel) ⟨by omega, by omega⟩ (by omega) ?_
  intro v3 ev3 lv3 uv3
  refine zwW_sbw (nx := 11) (by decide +kernel) ?_
  intro v4 ev4 lv4 uv4
  have Ev4 : v4 = w32 ((fld h r 6) - v3) := by rw [ev4, ev1]
  refine zwW_p [(2, 3, 0), (0, -1, 0), (2, 4, 0), (0, 0, 0), (2, 5, 0), (0, 0, 0), (2, 6, 0)] (q := 21) (ls' := [(2, 1), (0, a), (2, r), (0, v4), (0, -1), (0, 0), (0, 0), (9, 0), (9, 0)]) (st' := []) (by decide +kernel) rfl ?_
  have L5 : ∀ (n : Nat) (v4L5 v5L5 v6L5 : Int) (w7L5 w8L5 : Vl) (hL5 : Hp), n = ((1000 - v6L5)).toNat → (-2147483648 ≤ v4L5 ∧ v4L5 ≤ 2147483647) → (-2147483648 ≤ v5L5 ∧ v5L5 ≤ 2147483647) → (0 ≤ v6L5 ∧ v6L5 ≤ 1000) → (gL hL5 r) → CI hL5 → zXR msx145 (0) (0) h hL5 → zwW sc (5) 145 21 [(2, 1), (0, a), (2, r), (0, v4), (0, v4L5), (0, v5L5), (0, v6L5), w7L5, w8L5] [] hL5 (zwRv (fun g => CI g ∧ zXR msx145 (0) (0) h g)) := by
    intro n
    induction n using Nat.strongRecOn with
    | ind n IHL5 =>
      intro v4L5 v5L5 v6L5 w7L5 w8L5 hL5 hnL5 iL5_0 iL5_1 iL5_2 gL5_0 ChL5 XhL5
      refine zwW_p [(1, 6, 0), (1, 0, 2)] (q := 24) (ls' := [(2, 1), (0, a), (2, r), (0, v4), (0, v4L5), (0, v5L5), (0, v6L5), w7L5, w8L5]) (st' := [(2, 1), (0, v6L5)]) (by decide +kernel) rfl ?_
      refine zwW_gc ChL5.1 (kd := 12) (bn := 9) (n := 13) (c := 19) (nx := 27) (by decide +kernel) ?_
      refine zwW_gc ChL5.1 (kd := 3) (bn := 1) (n := 10) (c := 21) (nx := 30) (by decide +kernel) ?_
      refine zwW_cm ChL5.1 (op := 60) (k' := 96) (n := 0) (kd := 0) (m := 3) (nx := 33) (r := 21) (tl := []) (st' := [(0, v6L5)]) (by decide +kernel) rfl (by decide +kernel) rfl (x96_21 ChL5) ?_
      rintro v6 _ ⟨rfl, ev6⟩
      have bv6 := zLb_21 ChL5
      refine zwic_ge (q := 128) (nx := 36) (by decide +kernel) (fun c7 => ?_) (fun c7 => ?_)
      · refine zwW_p [(1, 0, 2)] (q := 129) (ls' := [(2, 1), (0, a), (2, r), (0, v4), (0, v4L5), (0, v5L5), (0, v6L5), w7L5, w8L5]) (st' := [(2, 1)]) (by decide +kernel) rfl ?_
        refine zwW_gc ChL5.1 (kd := 12) (bn := 9) (n := 13) (c := 19) (nx := 132) (by decide +kernel) ?_
        refine zwW_p [(1, 1, 0), (1, 3, 0), (1, 4, 0), (1, 5, 0)] (q := 138) (ls' := [(2, 1), (0, a), (2, r), (0, v4), (0, v4L5), (0, v5L5), (0, v6L5), w7L5, w8L5]) (st' := [(0, v5L5), (0, v4L5), (0, v4), (0, a), (2, 19)]) (by decide +kernel) rfl ?_
        refine zwW_cmv ChL5.1 (op := 60) (k' := 211) (n := 4) (kd := 3) (m := 10) (nx := 141) (r := 19) (tl := [(0, a), (0, v4), (0, v4L5), (0, v5L5)]) (st' := []) (by decide +kernel) rfl (by decide +kernel) rfl (x211 hL5 ChL5 a v4 v4L5 v5L5 (by omega) (by omega) (by omega) (by omega)) ?_
        rintro h8 ⟨Ch8, Qh8⟩
        have Xh8 : zXR msx145 (0) (0) h h8 := XhL5.tr (c2 := 0) (s2 := 0) Qh8 (by decide +kernel) (by decide) (by decide)
        have Gh8_0 : gL h8 r := gL5_0.x Qh8
        refine zwW_retv (nx := 142) (a := 0) (b := 0) (by decide +kernel) ?_
        exact ⟨Ch8, Xh8.le (by decide) (by decide)⟩
      · refine zwW_p [(1, 3, 0)] (q := 37) (ls' := [(2, 1), (0, a), (2, r), (0, v4), (0, v4L5), (0, v5L5), (0, v6L5), w7L5, w8L5]) (st' := [(0, v4)]) (by decide +kernel) rfl ?_
        refine zwif_le (q := 128) (nx := 40) (by decide +kernel) (fun c9 => ?_) (fun c9 => ?_)
        · refine zwW_p [(1, 0, 2)] (q := 129) (ls' := [(2, 1), (0, a), (2, r), (0, v4), (0, v4L5), (0, v5L5), (0, v6L5), w7L5, w8L5]) (st' := [(2, 1)]) (by decide +kernel) rfl ?_
          refine zwW_gc ChL5.1 (kd := 12) (bn := 9) (n := 13) (c := 19) (nx := 132) (by decide +kernel) ?_
          refine zwW_p [(1, 1, 0), (1, 3, 0), (1, 4, 0), (1, 5, 0)] (q := 138) (ls' := [(2, 1), (0, a), (2, r), (0, v4), (0, v4L5), (0, v5L5), (0, v6L5), w7L5, w8L5]) (st' := [(0, v5L5), (0, v4L5), (0, v4), (0, a), (2, 19)]) (by decide +kernel) rfl ?_
          refine zwW_cmv ChL5.1 (op := 60) (k' := 211) (n := 4) (kd := 3) (m := 10) (nx := 141) (r := 19) (tl := [(0, a), (0, v4), (0, v4L5), (0, v5L5)]) (st' := []) (by decide +kernel) rfl (by decide +kernel) rfl (x211 hL5 ChL5 a v4 v4L5 v5L5 (by omega) (by omega) (by omega) (by omega)) ?_
          rintro h10 ⟨Ch10, Qh10⟩
          have Xh10 : zXR msx145 (0) (0) h h10 := XhL5.tr (c2 := 0) (s2 := 0) Qh10 (by decide +kernel) (by decide) (by decide)
          have Gh10_0 : gL h10 r := gL5_0.x Qh10
          refine zwW_retv (nx := 142) (a := 0) (b := 0) (by decide +kernel) ?_
          exact ⟨Ch10, Xh10.le (by decide) (by decide)⟩
        · refine zwW_p [(1, 0, 2)] (q := 41) (ls' := [(2, 1), (0, a), (2, r), (0, v4), (0, v4L5), (0, v5L5), (0, v6L5), w7L5, w8L5]) (st' := [(2, 1)]) (by decide +kernel) rfl ?_
          refine zwW_gc ChL5.1 (kd := 12) (bn := 9) (n := 13) (c := 19) (nx := 44) (by decide +kernel) ?_
          refine zwW_gc ChL5.1 (kd := 3) (bn := 1) (n := 10) (c := 21) (nx := 47) (by decide +kernel) ?_
          refine zwW_p [(1, 6, 0)] (q := 49) (ls' := [(2, 1), (0, a), (2, r), (0, v4), (0, v4L5), (0, v5L5), (0, v6L5), w7L5, w8L5]) (st' := [(0, v6L5), (2, 21)]) (by decide +kernel) rfl ?_
          refine zwW_cm ChL5.1 (op := 60) (k' := 123) (n := 1) (kd := 0) (m := 3) (nx := 52) (r := 21) (tl := [(0, v6L5)]) (st' := []) (by decide +kernel) rfl (by decide +kernel) rfl (x123_21 ChL5 (i := v6L5) ⟨by omega, by omega⟩) ?_
          rintro v11 _ ⟨rfl, Gv11, ev11⟩
          have lv11 := Gv11.1
          refine zwW_cast (a := 4) (kd := 4) (n := 19) (nx := 55) (by decide +kernel) rfl (Or.inr Gv11.2.1) ?_
          refine zwW_p [(2, 7, 2), (1, 0, 2), (1, 7, 2), (1, 2, 2), (1, 3, 0)] (q := 62) (ls' := [(2, 1), (0, a), (2, r), (0, v4), (0, v4L5), (0, v5L5), (0, v6L5), (2, v11), w8L5]) (st' := [(0, v4), (2, r), (2, v11), (2, 1)]) (by decide +kernel) rfl ?_
          refine zwW_cm ChL5.1 (op := 60) (k' := 207) (n := 3) (kd := 12) (m := 13) (nx := 65) (r := 1) (tl := [(2, v11), (2, r), (0, v4)]) (st' := []) (by decide +kernel) rfl (by decide +kernel) rfl (x207 hL5 ChL5 v11 r v4 Gv11 gL5_0 (by omega)) ?_
          rintro v13 h14 ⟨Ch14, Qh14, f12⟩
          have Xh14 : zXR msx145 (0) (0) h h14 := XhL5.tr (c2 := 0) (s2 := 0) Qh14 (by decide +kernel) (by decide) (by decide)
          have Gh14_0 : gL h14 r := gL5_0.x Qh14
          have Gh14_1 : gH h14 v11 := Gv11.x Qh14
          refine zwif_ne (q := 122) (nx := 68) (by decide +kernel) (fun c15 => ?_) (fun c15 => ?_)
          · refine zwW_inc (i := 6) (c := 1) (x := v6L5) (nx := 125) (by decide +kernel) rfl ⟨by omega, by omega⟩ (ls' := [(2, 1), (0, a), (2, r), (0, v4), (0, v4L5), (0, v5L5), (0, (v6L5 + 1)), (2, v11), w8L5]) rfl ?_
            refine zwW_p [(24, 21, 0)] (q := 21) (ls' := [(2, 1), (0, a), (2, r), (0, v4), (0, v4L5), (0, v5L5), (0, (v6L5 + 1)), (2, v11), w8L5]) (st' := []) (by decide +kernel) rfl ?_
            exact IHL5 ((1000 - (v6L5 + 1))).toNat (by omega) v4L5 v5L5 (v6L5 + 1) (2, v11) w8L5 h14 rfl (by omega) (by omega) (by omega) Gh14_0 Ch14 (Xh14.le (by decide) (by decide))
          · refine zwW_p [(1, 0, 2), (1, 2, 2)] (q := 70) (ls' := [(2, 1), (0, a), (2, r), (0, v4), (0, v4L5), (0, v5L5), (0, v6L5), (2, v11), w8L5]) (st' := [(2, r), (2, 1)]) (by decide +kernel) rfl ?_
            refine zwW_get (kd := 6) (bn := 1) (t := 2) (n := 7) (nx := 73) (by decide +kernel) Gh14_0.2.1 rfl ?_
            obtain ⟨v16, ev16⟩ : ∃ z, z = fld h14 r 1 := ⟨_, rfl⟩
            rw [← ev16]
            have Gv16 : gH h14 v16 := by rw [ev16]; exact Gh14_0.2.2
            have lv16 := Gv16.1
            refine zwW_get (kd := 4) (bn := 1) (t := 2) (n := 19) (nx := 76) (by decide +kernel) Gv16.2.1 rfl ?_
            obtain ⟨v17, ev17⟩ : ∃ z, z = fld h14 v16 1 := ⟨_, rfl⟩
            rw [← ev17]
            have Gv17 : gV h14 v17 := by rw [ev17]; exact Gv16.2.2
            have lv17 := Gv17.1
            refine zwW_p [(1, 7, 2)] (q := 78) (ls' := [(2, 1), (0, a), (2, r), (0, v4), (0, v4L5), (0, v5L5), (0, v6L5), (2, v11), w8L5]) (st' := [(2, v11), (2, v17), (2, 1)]) (by decide +kernel) rfl ?_
            refine zwW_get (kd := 4) (bn := 1) (t := 2) (n := 19) (nx := 81) (by decide +kernel) Gh14_1.2.1 rfl ?_
            obtain ⟨v18, ev18⟩ : ∃ z, z = fld h14 v11 1 := ⟨_, rfl⟩
            rw [← ev18]
            have Gv18 : gV h14 v18 := by rw [ev18]; exact Gh14_1.2.2
            have lv18 := Gv18.1
            refine zwW_cm Ch14.1 (op := 60) (k' := 105) (n := 2) (kd := 12) (m := 13) (nx := 84) (r := 1) (tl := [(2, v17), (2, v18)]) (st' := []) (by decide +kernel) rfl (by decide +kernel) rfl (x105 h14 Ch14 v17 v18 (Or.inr Gv17) (Or.inr Gv18)) ?_
            rintro v19 _ ⟨rfl, f20, f21⟩
            refine zwW_p [(2, 8, 0), (1, 4, 0), (0, -1, 0)] (q := 89) (ls' := [(2, 1), (0, a), (2, r), (0, v4), (0, v4L5), (0, v5L5), (0, v6L5), (2, v11), (0, v19)]) (st' := [(0, -1), (0, v4L5)]) (by decide +kernel) rfl ?_
            refine zwic_eq (q := 99) (nx := 92) (by decide +kernel) (fun c22 => ?_) (fun c22 => ?_)
            · refine zwW_p [(1, 8, 0), (2, 4, 0), (0, 0, 0), (2, 5, 0), (1, 8, 0), (1, 4, 0)] (q := 110) (ls' := [(2, 1), (0, a), (2, r), (0, v4), (0, v19), (0, 0), (0, v6L5), (2, v11), (0, v19)]) (st' := [(0, v19), (0, v19)]) (by decide +kernel) rfl ?_
              refine zwic_ne (q := 122) (nx := 113) (by decide +kernel) (fun c23 => ?_) (fun c23 => ?_)
              · refine zwW_inc (i := 6) (c := 1) (x := v6L5) (nx := 125) (by decide +kernel) rfl ⟨by omega, by omega⟩ (ls' := [(2, 1), (0, a), (2, r), (0, v4), (0, v19), (0, 0), (0, (v6L5 + 1)), (2, v11), (0, v19)]) rfl ?_
                refine zwW_p [(24, 21, 0)] (q := 21) (ls' := [(2, 1), (0, a), (2, r), (0, v4), (0, v19), (0, 0), (0, (v6L5 + 1)), (2, v11), (0, v19)]) (st' := []) (by decide +kernel) rfl ?_
                exact IHL5 ((1000 - (v6L5 + 1))).toNat (by omega) v19 0 (v6L5 + 1) (2, v11) (0, v19) h14 rfl (by omega) (by omega) (by omega) Gh14_0 Ch14 (Xh14.le (by decide) (by decide))
              · refine zwW_p [(1, 5, 0), (0, 1, 0), (1, 6, 0)] (q := 118) (ls' := [(2, 1), (0, a), (2, r), (0, v4), (0, v19), (0, 0), (0, v6L5), (2, v11), (0, v19)]) (st' := [(0, v6L5), (0, 1), (0, 0)]) (by decide +kernel) rfl ?_
                refine zwW_any2 (a := 8) (nx := 119) (by decide +kernel) rfl ⟨by omega, by omega⟩ (Or.inr ⟨by decide, by decide⟩) ?_
                intro v24 lv24 uv24
                refine zwW_any2 (a := 6) (nx := 120) (by decide +kernel) rfl ⟨by omega, by omega⟩ (Or.inr ⟨by decide, by decide⟩) ?_
                intro v25 lv25 uv25
                refine zwW_p [(2, 5, 0)] (q := 122) (ls' := [(2, 1), (0, a), (2, r), (0, v4), (0, v19), (0, v25), (0, v6L5), (2, v11), (0, v19)]) (st' := []) (by decide +kernel) rfl ?_
                refine zwW_inc (i := 6) (c := 1) (x := v6L5) (nx := 125) (by decide +kernel) rfl ⟨by omega, by omega⟩ (ls' := [(2, 1), (0, a), (2, r), (0, v4), (0, v19), (0, v25), (0, (v6L5 + 1)), (2, v11), (0, v19)]) rfl ?_
                refine zwW_p [(24, 21, 0)] (q := 21) (ls' := [(2, 1), (0, a), (2, r), (0, v4), (0, v19), (0, v25), (0, (v6L5 + 1)), (2, v11), (0, v19)]) (st' := []) (by decide +kernel) rfl ?_
                exact IHL5 ((1000 - (v6L5 + 1))).toNat (by omega) v19 v25 (v6L5 + 1) (2, v11) (0, v19) h14 rfl (by omega) (by omega) (by omega) Gh14_0 Ch14 (Xh14.le (by decide) (by decide))
            · refine zwW_p [(1, 8, 0), (1, 4, 0)] (q := 96) (ls' := [(2, 1), (0, a), (2, r), (0, v4), (0, v4L5), (0, v5L5), (0, v6L5), (2, v11), (0, v19)]) (st' := [(0, v4L5), (0, v19)]) (by decide +kernel) rfl ?_
              refine zwic_ge (q := 106) (nx := 99) (by decide +kernel) (fun c26 => ?_) (fun c26 => ?_)
              · refine zwW_p [(1, 8, 0), (1, 4, 0)] (q := 110) (ls' := [(2, 1), (0, a), (2, r), (0, v4), (0, v4L5), (0, v5L5), (0, v6L5), (2, v11), (0, v19)]) (st' := [(0, v4L5), (0, v19)]) (by decide +kernel) rfl ?_
                refine zwic_ne (q := 122) (nx := 113) (by decide +kernel) (fun c27 => ?_) (fun c27 => ?_)
                · refine zwW_inc (i := 6) (c := 1) (x := v6L5) (nx := 125) (by decide +kernel) rfl ⟨by omega, by omega⟩ (ls' := [(2, 1), (0, a), (2, r), (0, v4), (0, v4L5), (0, v5L5), (0, (v6L5 + 1)), (2, v11), (0, v19)]) rfl ?_
                  refine zwW_p [(24, 21, 0)] (q := 21) (ls' := [(2, 1), (0, a), (2, r), (0, v4), (0, v4L5), (0, v5L5), (0, (v6L5 + 1)), (2, v11), (0, v19)]) (st' := []) (by decide +kernel) rfl ?_
                  exact IHL5 ((1000 - (v6L5 + 1))).toNat (by omega) v4L5 v5L5 (v6L5 + 1) (2, v11) (0, v19) h14 rfl (by omega) (by omega) (by omega) Gh14_0 Ch14 (Xh14.le (by decide) (by decide))
                · refine zwW_p [(1, 5, 0), (0, 1, 0), (1, 6, 0)] (q := 118) (ls' := [(2, 1), (0, a), (2, r), (0, v4), (0, v4L5), (0, v5L5), (0, v6L5), (2, v11), (0, v19)]) (st' := [(0, v6L5), (0, 1), (0, v5L5)]) (by decide +kernel) rfl ?_
                  refine zwW_any2 (a := 8) (nx := 119) (by decide +kernel) rfl ⟨by omega, by omega⟩ (Or.inr ⟨by decide, by decide⟩) ?_
                  intro v28 lv28 uv28
                  refine zwW_any2 (a := 6) (nx := 120) (by decide +kernel) rfl ⟨by omega, by omega⟩ (Or.inr ⟨by decide, by decide⟩) ?_
                  intro v29 lv29 uv29
                  refine zwW_p [(2, 5, 0)] (q := 122) (ls' := [(2, 1), (0, a), (2, r), (0, v4), (0, v4L5), (0, v29), (0, v6L5), (2, v11), (0, v19)]) (st' := []) (by decide +kernel) rfl ?_
                  refine zwW_inc (i := 6) (c := 1) (x := v6L5) (nx := 125) (by decide +kernel) rfl ⟨by omega, by omega⟩ (ls' := [(2, 1), (0, a), (2, r), (0, v4), (0, v4L5), (0, v29), (0, (v6L5 + 1)), (2, v11), (0, v19)]) rfl ?_
                  refine zwW_p [(24, 21, 0)] (q := 21) (ls' := [(2, 1), (0, a), (2, r), (0, v4), (0, v4L5), (0, v29), (0, (v6L5 + 1)), (2, v11), (0, v19)]) (st' := []) (by decide +kernel) rfl ?_
                  exact IHL5 ((1000 - (v6L5 + 1))).toNat (by omega) v4L5 v29 (v6L5 + 1) (2, v11) (0, v19) h14 rfl (by omega) (by omega) (by omega) Gh14_0 Ch14 (Xh14.le (by decide) (by decide))
              · refine zwW_p [(1, 8, 0), (2, 4, 0), (0, 0, 0), (2, 5, 0), (1, 8, 0), (1, 4, 0)] (q := 110) (ls' := [(2, 1), (0, a), (2, r), (0, v4), (0, v19), (0, 0), (0, v6L5), (2, v11), (0, v19)]) (st' := [(0, v19), (0, v19)]) (by decide +kernel) rfl ?_
                refine zwic_ne (q := 122) (nx := 113) (by decide +kernel) (fun c30 => ?_) (fun c30 => ?_)
                · refine zwW_inc (i := 6) (c := 1) (x := v6L5) (nx := 125) (by decide +kernel) rfl ⟨by omega, by omega⟩ (ls' := [(2, 1), (0, a), (2, r), (0, v4), (0, v19), (0, 0), (0, (v6L5 + 1)), (2, v11), (0, v19)]) rfl ?_
                  refine zwW_p [(24, 21, 0)] (q := 21) (ls' := [(2, 1), (0, a), (2, r), (0, v4), (0, v19), (0, 0), (0, (v6L5 + 1)), (2, v11), (0, v19)]) (st' := []) (by decide +kernel) rfl ?_
                  exact IHL5 ((1000 - (v6L5 + 1))).toNat (by omega) v19 0 (v6L5 + 1) (2, v11) (0, v19) h14 rfl (by omega) (by omega) (by omega) Gh14_0 Ch14 (Xh14.le (by decide) (by decide))
                · refine zwW_p [(1, 5, 0), (0, 1, 0), (1, 6, 0)] (q := 118) (ls' := [(2, 1), (0, a), (2, r), (0, v4), (0, v19), (0, 0), (0, v6L5), (2, v11), (0, v19)]) (st' := [(0, v6L5), (0, 1), (0, 0)]) (by decide +kernel) rfl ?_
                  refine zwW_any2 (a := 8) (nx := 119) (by decide +kernel) rfl ⟨by omega, by omega⟩ (Or.inr ⟨by decide, by decide⟩) ?_
                  intro v31 lv31 uv31
                  refine zwW_any2 (a := 6) (nx := 120) (by decide +kernel) rfl ⟨by omega, by omega⟩ (Or.inr ⟨by decide, by decide⟩) ?_
                  intro v32 lv32 uv32
                  refine zwW_p [(2, 5, 0)] (q := 122) (ls' := [(2, 1), (0, a), (2, r), (0, v4), (0, v19), (0, v32), (0, v6L5), (2, v11), (0, v19)]) (st' := []) (by decide +kernel) rfl ?_
                  refine zwW_inc (i := 6) (c := 1) (x := v6L5) (nx := 125) (by decide +kernel) rfl ⟨by omega, by omega⟩ (ls' := [(2, 1), (0, a), (2, r), (0, v4), (0, v19), (0, v32), (0, (v6L5 + 1)), (2, v11), (0, v19)]) rfl ?_
                  refine zwW_p [(24, 21, 0)] (q := 21) (ls' := [(2, 1), (0, a), (2, r), (0, v4), (0, v19), (0, v32), (0, (v6L5 + 1)), (2, v11), (0, v19)]) (st' := []) (by decide +kernel) rfl ?_
                  exact IHL5 ((1000 - (v6L5 + 1))).toNat (by omega) v19 v32 (v6L5 + 1) (2, v11) (0, v19) h14 rfl (by omega) (by omega) (by omega) Gh14_0 Ch14 (Xh14.le (by decide) (by decide))
  exact L5 _ (-1) 0 0 (9, 0) (9, 0) h rfl (by omega) (by omega) (by omega) G_r C (X.le (by decide) (by decide))
-- WheelLand.handsCanBe(II)Z
theorem x142 {sc : List Int} (h : Hp) (C : CI h) (a b : Int) (q_a : -2147483648 ≤ a ∧ a ≤ 2147483647) (q_b : -2147483648 ≤ b ∧ b ≤ 2147483647) : zwC sc 2 142 [(2, 1), (0, a), (0, b)] h (zwRt 0 (fun x g => h = g ∧ ((x = 1 ∧ (0 ≤ 1)) ∨ (x = 0 ∧ (0 ≤ 1))))) := by
  refine zwC_of (D := 1) 5 (by decide +kernel) rfl (ls := [(2, 1), (0, a), (0, b), (9, 0), (9, 0)]) rfl ?_
  refine zwW_p [(1, 0, 2)] (q := 1) (ls' := [(2, 1), (0, a), (0, b), (9, 0), (9, 0)]) (st' := [(2, 1)]) (by decide +kernel) rfl ?_
  refine zwW_gc C.1 (kd := 12) (bn := 9) (n := 13) (c := 19) (nx := 4) (by decide +kernel) ?_
  refine zwW_gc C.1 (kd := 3) (bn := 0) (n := 10) (c := 20) (nx := 7) (by decide +kernel) ?_
  refine zwW_cm C.1 (op := 60) (k' := 96) (n := 0) (kd := 0) (m := 3) (nx := 10) (r := 20) (tl := []) (st' := []) (by decide +kernel) rfl (by decide +kernel) rfl (x96_20 C) ?_
  rintro v1 _ ⟨rfl, ev1⟩
  have bv1 := zLb_20 C
  refine zwW_p [(2, 3, 0), (1, 2, 0), (0, 0, 0), (0, 2, 0)] (q := 14) (ls' := [(2, 1), (0, a), (0, b), (0, v1), (9, 0)]) (st' := [(0, 2), (0, 0), (0, b)]) (by decide +kernel) rfl ?_
  refine zwW_cs (k' := 98) (n := 3) (nx := 17) (as := [(0, b), (0, 0), (0, 2)]) (st' := []) (by decide +kernel) rfl (x98 h C b 0 2 (by omega) (by omega) (by omega)) rfl ?_
  rintro x _ ⟨rfl, ⟨rfl, c2⟩ | ⟨rfl, c2⟩⟩
  · refine zwif_eq (q := 33) (nx := 20) (by decide +kernel) (fun c3 => ?_) (fun c3 => ?_)
    · exfalso; omega
    · refine zwW_p [(1, 2, 0), (0, 10, 0), (0, 9, 0), (1, 3, 0)] (q := 26) (ls' := [(2, 1), (0, a), (0, b), (0, v1), (9, 0)]) (st' := [(0, v1), (0, 9), (0, 10), (0, b)]) (by decide +kernel) rfl ?_
      refine zwW_add (nx := 27) (by decide +kernel) ⟨by omega, by omega⟩ ?_
      refine zwW_cs (k' := 98) (n := 3) (nx := 30) (as := [(0, b), (0, 10), (0, (9 + v1))]) (st' := []) (by decide +kernel) rfl (x98 h C b 10 (9 + v1) (by omega) (by omega) (by omega)) rfl ?_
      rintro x _ ⟨rfl, ⟨rfl, c4⟩ | ⟨rfl, c4⟩⟩
      · refine zwif_ne (q := 37) (nx := 33) (by decide +kernel) (fun c5 => ?_) (fun c5 => ?_)
        · refine zwW_p [(0, 0, 0), (2, 4, 0), (1, 4, 0)] (q := 42) (ls' := [(2, 1), (0, a), (0, b), (0, v1), (0, 0)]) (st' := [(0, 0)]) (by decide +kernel) rfl ?_
          refine zwif_eq (q := 78) (nx := 45) (by decide +kernel) (fun c6 => ?_) (fun c6 => ?_)
          · refine zwW_p [(0, 0, 0)] (q := 79) (ls' := [(2, 1), (0, a), (0, b), (0, v1), (0, 0)]) (st' := [(0, 0)]) (by decide +kernel) rfl ?_
            refine zwW_ret (nx := 80) (a := 1) (b := 0) (by decide +kernel) rfl (Or.inr (Or.inl ⟨rfl, by omega⟩)) ?_
            exact ⟨rfl, Or.inr ⟨rfl, by omega⟩⟩
          · exfalso; omega
        · exfalso; omega
      · refine zwif_ne (q := 37) (nx := 33) (by decide +kernel) (fun c7 => ?_) (fun c7 => ?_)
        · exfalso; omega
        · refine zwW_p [(0, 1, 0), (24, 38, 0), (2, 4, 0), (1, 4, 0)] (q := 42) (ls' := [(2, 1), (0, a), (0, b), (0, v1), (0, 1)]) (st' := [(0, 1)]) (by decide +kernel) rfl ?_
          refine zwif_eq (q := 78) (nx := 45) (by decide +kernel) (fun c8 => ?_) (fun c8 => ?_)
          · exfalso; omega
          · refine zwW_p [(1, 3, 0)] (q := 46) (ls' := [(2, 1), (0, a), (0, b), (0, v1), (0, 1)]) (st' := [(0, v1)]) (by decide +kernel) rfl ?_
            refine zwif_le (q := 78) (nx := 49) (by decide +kernel) (fun c9 => ?_) (fun c9 => ?_)
            · refine zwW_p [(0, 0, 0)] (q := 79) (ls' := [(2, 1), (0, a), (0, b), (0, v1), (0, 1)]) (st' := [(0, 0)]) (by decide +kernel) rfl ?_
              refine zwW_ret (nx := 80) (a := 1) (b := 0) (by decide +kernel) rfl (Or.inr (Or.inl ⟨rfl, by omega⟩)) ?_
              exact ⟨rfl, Or.inr ⟨rfl, by omega⟩⟩
            · refine zwW_p [(1, 1, 0), (1, 0, 2)] (q := 51) (ls' := [(2, 1), (0, a), (0, b), (0, v1), (0, 1)]) (st' := [(2, 1), (0, a)]) (by decide +kernel) rfl ?_
              refine zwW_gc C.1 (kd := 12) (bn := 3) (n := 13) (c := 3) (nx := 54) (by decide +kernel) ?_
              refine zwW_cm C.1 (op := 60) (k' := 96) (n := 0) (kd := 0) (m := 3) (nx := 57) (r := 3) (tl := []) (st' := [(0, a)]) (by decide +kernel) rfl (by decide +kernel) rfl (x96_3 C) ?_
              rintro v10 _ ⟨rfl, ev10⟩
              have bv10 := zLb_3 C
              refine zwW_any2 (a := 10) (nx := 58) (by decide +kernel) rfl ⟨by omega, by omega⟩ (Or.inr ⟨by decide, by decide⟩) ?_
              intro v11 lv11 uv11
              refine zwif_ne (q := 78) (nx := 61) (by decide +kernel) (fun c12 => ?_) (fun c12 => ?_)
              · refine zwW_p [(0, 0, 0)] (q := 79) (ls' := [(2, 1), (0, a), (0, b), (0, v1), (0, 1)]) (st' := [(0, 0)]) (by decide +kernel) rfl ?_
                refine zwW_ret (nx := 80) (a := 1) (b := 0) (by decide +kernel) rfl (Or.inr (Or.inl ⟨rfl, by omega⟩)) ?_
                exact ⟨rfl, Or.inr ⟨rfl, by omega⟩⟩
              · refine zwW_p [(1, 1, 0)] (q := 62) (ls' := [(2, 1), (0, a), (0, b), (0, v1), (0, 1)]) (st' := [(0, a)]) (by decide +kernel) rfl ?_
                refine zwW_cs (k' := 210) (n := 1) (nx := 65) (as := [(0, a)]) (st' := []) (by decide +kernel) rfl (m210 h a (by omega)) rfl ?_
                rintro v13 _ ⟨rfl, f14⟩
                refine zwW_p [(0, 1, 0), (0, 6, 0)] (q := 68) (ls' := [(2, 1), (0, a), (0, b), (0, v1), (0, 1)]) (st' := [(0, 6), (0, 1), (0, v13)]) (by decide +kernel) rfl ?_
                refine zwW_cs (k' := 98) (n := 3) (nx := 71) (as := [(0, v13), (0, 1), (0, 6)]) (st' := []) (by decide +kernel) rfl (x98 h C v13 1 6 (by omega) (by omega) (by omega)) rfl ?_
                rintro x _ ⟨rfl, ⟨rfl, c15⟩ | ⟨rfl, c15⟩⟩
                · refine zwif_ne (q := 78) (nx := 74) (by decide +kernel) (fun c16 => ?_) (fun c16 => ?_)
                  · refine zwW_p [(0, 0, 0)] (q := 79) (ls' := [(2, 1), (0, a), (0, b), (0, v1), (0, 1)]) (st' := [(0, 0)]) (by decide +kernel) rfl ?_
                    refine zwW_ret (nx := 80) (a := 1) (b := 0) (by decide +kernel) rfl (Or.inr (Or.inl ⟨rfl, by omega⟩)) ?_
                    exact ⟨rfl, Or.inr ⟨rfl, by omega⟩⟩
                  · exfalso; omega
                · refine zwif_ne (q := 78) (nx := 74) (by decide +kernel) (fun c17 => ?_) (fun c17 => ?_)
                  · exfalso; omega
                  · refine zwW_p [(0, 1, 0), (24, 79, 0)] (q := 79) (ls' := [(2, 1), (0, a), (0, b), (0, v1), (0, 1)]) (st' := [(0, 1)]) (by decide +kernel) rfl ?_
                    refine zwW_ret (nx := 80) (a := 1) (b := 0) (by decide +kernel) rfl (Or.inr (Or.inl ⟨rfl, by omega⟩)) ?_
                    exact ⟨rfl, Or.inl ⟨rfl, by omega⟩⟩
  · refine zwif_eq (q := 33) (nx := 20) (by decide +kernel) (fun c18 => ?_) (fun c18 => ?_)
    · refine zwW_p [(0, 1, 0), (24, 38, 0), (2, 4, 0), (1, 4, 0)] (q := 42) (ls' := [(2, 1), (0, a), (0, b), (0, v1), (0, 1)]) (st' := [(0, 1)]) (by decide +kernel) rfl ?_
      refine zwif_eq (q := 78) (nx := 45) (by decide +kernel) (fun c19 => ?_) (fun c19 => ?_)
      · exfalso; omega
      · refine zwW_p [(1, 3, 0)] (q := 46) (ls' := [(2, 1), (0, a), (0, b), (0, v1), (0, 1)]) (st' := [(0, v1)]) (by decide +kernel) rfl ?_
        refine zwif_le (q := 78) (nx := 49) (by decide +kernel) (fun c20 => ?_) (fun c20 => ?_)
        · refine zwW_p [(0, 0, 0)] (q := 79) (ls' := [(2, 1), (0, a), (0, b), (0, v1), (0, 1)]) (st' := [(0, 0)]) (by decide +kernel) rfl ?_
          refine zwW_ret (nx := 80) (a := 1) (b := 0) (by decide +kernel) rfl (Or.inr (Or.inl ⟨rfl, by omega⟩)) ?_
          exact ⟨rfl, Or.inr ⟨rfl, by omega⟩⟩
        · refine zwW_p [(1, 1, 0), (1, 0, 2)] (q := 51) (ls' := [(2, 1), (0, a), (0, b), (0, v1), (0, 1)]) (st' := [(2, 1), (0, a)]) (by decide +kernel) rfl ?_
          refine zwW_gc C.1 (kd := 12) (bn := 3) (n := 13) (c := 3) (nx := 54) (by decide +kernel) ?_
          refine zwW_cm C.1 (op := 60) (k' := 96) (n := 0) (kd := 0) (m := 3) (nx := 57) (r := 3) (tl := []) (st' := [(0, a)]) (by decide +kernel) rfl (by decide +kernel) rfl (x96_3 C) ?_
          rintro v21 _ ⟨rfl, ev21⟩
          have bv21 := zLb_3 C
          refine zwW_any2 (a := 10) (nx := 58) (by decide +kernel) rfl ⟨by omega, by omega⟩ (Or.inr ⟨by decide, by decide⟩) ?_
          intro v22 lv22 uv22
          refine zwif_ne (q := 78) (nx := 61) (by decide +kernel) (fun c23 => ?_) (fun c23 => ?_)
          · refine zwW_p [(0, 0, 0)] (q := 79) (ls' := [(2, 1), (0, a), (0, b), (0, v1), (0, 1)]) (st' := [(0, 0)]) (by decide +kernel) rfl ?_
            refine zwW_ret (nx := 80) (a := 1) (b := 0) (by decide +kernel) rfl (Or.inr (Or.inl ⟨rfl, by omega⟩)) ?_
            exact ⟨rfl, Or.inr ⟨rfl, by omega⟩⟩
          · refine zwW_p [(1, 1, 0)] (q := 62) (ls' := [(2, 1), (0, a), (0, b), (0, v1), (0, 1)]) (st' := [(0, a)]) (by decide +kernel) rfl ?_
            refine zwW_cs (k' := 210) (n := 1) (nx := 65) (as := [(0, a)]) (st' := []) (by decide +kernel) rfl (m210 h a (by omega)) rfl ?_
            rintro v24 _ ⟨rfl, f25⟩
            refine zwW_p [(0, 1, 0), (0, 6, 0)] (q := 68) (ls' := [(2, 1), (0, a), (0, b), (0, v1), (0, 1)]) (st' := [(0, 6), (0, 1), (0, v24)]) (by decide +kernel) rfl ?_
            refine zwW_cs (k' := 98) (n := 3) (nx := 71) (as := [(0, v24), (0, 1), (0, 6)]) (st' := []) (by decide +kernel) rfl (x98 h C v24 1 6 (by omega) (by omega) (by omega)) rfl ?_
            rintro x _ ⟨rfl, ⟨rfl, c26⟩ | ⟨rfl, c26⟩⟩
            · refine zwif_ne (q := 78) (nx := 74) (by decide +kernel) (fun c27 => ?_) (fun c27 => ?_)
              · refine zwW_p [(0, 0, 0)] (q := 79) (ls' := [(2, 1), (0, a), (0, b), (0, v1), (0, 1)]) (st' := [(0, 0)]) (by decide +kernel) rfl ?_
                refine zwW_ret (nx := 80) (a := 1) (b := 0) (by decide +kernel) rfl (Or.inr (Or.inl ⟨rfl, by omega⟩)) ?_
                exact ⟨rfl, Or.inr ⟨rfl, by omega⟩⟩
              · exfalso; omega
            · refine zwif_ne (q := 78) (nx := 74) (by decide +kernel) (fun c28 => ?_) (fun c28 => ?_)
              · exfalso; omega
              · refine zwW_p [(0, 1, 0), (24, 79, 0)] (q := 79) (ls' := [(2, 1), (0, a), (0, b), (0, v1), (0, 1)]) (st' := [(0, 1)]) (by decide +kernel) rfl ?_
                refine zwW_ret (nx := 80) (a := 1) (b := 0) (by decide +kernel) rfl (Or.inr (Or.inl ⟨rfl, by omega⟩)) ?_
                exact ⟨rfl, Or.inl ⟨rfl, by omega⟩⟩
    · exfalso; omega
