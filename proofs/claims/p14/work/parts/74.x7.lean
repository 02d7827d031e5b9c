/-! contracts of the class -/
def msx41 : Zms := [(5, 5, 0, 3), (17, 17, 0, 13), (18, 18, 0, 400), (34, 34, 1, 2), (1004, 1004, 6, 7), (1004, 1004, 14, 15), (1006, 1006, 6, 7)]
-- WheelLand.weave(III)I
theorem x41 {sc : List Int} (h : Hp) (C : CI h) (a b c : Int) (q_a : -2147483648 ≤ a ∧ a ≤ 2147483647) (q_b : -2147483648 ≤ b ∧ b ≤ 2147483647) (q_c : -2147483648 ≤ c ∧ c ≤ 2147483647) (hl : h.length ≤ 999930000) : zwC sc 7 41 [(2, 1), (0, a), (0, b), (0, c)] h (zwRt 0 (fun x g => CI g ∧ zXR msx41 (2) (1006) h g ∧ (-2147483648 ≤ x ∧ x ≤ 2147483647))) := by
  refine zwC_of (D := 6) 8 (by decide +kernel) rfl (ls := [(2, 1), (0, a), (0, b), (0, c), (9, 0), (9, 0), (9, 0), (9, 0)]) rfl ?_
  have X : zXR msx41 0 0 h h := zXR.rf _ _
  refine zwW_p [(1, 0, 2), (1, 1, 0)] (q := 2) (ls' := [(2, 1), (0, a), (0, b), (0, c), (9, 0), (9, 0), (9, 0), (9, 0)]) (st' := [(0, a), (2, 1)]) (by decide +kernel) rfl ?_
  refine zwW_cm C.1 (op := 60) (k' := 109) (n := 1) (kd := 12) (m := 13) (nx := 5) (r := 1) (tl := [(0, a)]) (st' := []) (by decide +kernel) rfl (by decide +kernel) rfl (x109 h C a (by omega)) ?_
  rintro v2 _ ⟨rfl, ⟨rfl, c1⟩ | ⟨Gv2, c1⟩⟩
  · refine zwW_p [(2, 4, 2), (1, 0, 2), (1, 2, 0)] (q := 9) (ls' := [(2, 1), (0, a), (0, b), (0, c), (2, 0), (9, 0), (9, 0), (9, 0)]) (st' := [(0, b), (2, 1)]) (by decide +kernel) rfl ?_
    refine zwW_cm C.1 (op := 60) (k' := 115) (n := 1) (kd := 12) (m := 13) (nx := 12) (r := 1) (tl := [(0, b)]) (st' := []) (by decide +kernel) rfl (by decide +kernel) rfl (x115 h C b (by omega)) ?_
    rintro v4 _ ⟨rfl, ⟨rfl, c3⟩ | ⟨Gv4, c3⟩⟩
    · refine zwW_p [(2, 5, 2), (1, 4, 2)] (q := 16) (ls' := [(2, 1), (0, a), (0, b), (0, c), (2, 0), (2, 0), (9, 0), (9, 0)]) (st' := [(2, 0)]) (by decide +kernel) rfl ?_
      refine zwnu_eq (q := 66) (nx := 19) (by decide +kernel) (by decide) (fun c5 => ?_) (fun c5 => ?_)
      · refine zwW_p [(0, -1, 0)] (q := 67) (ls' := [(2, 1), (0, a), (0, b), (0, c), (2, 0), (2, 0), (9, 0), (9, 0)]) (st' := [(0, -1)]) (by decide +kernel) rfl ?_
        refine zwW_ret (nx := 68) (a := 0) (b := 0) (by decide +kernel) rfl (Or.inl rfl) ?_
        exact ⟨C, X.le (by decide) (by decide), by omega⟩
      · exfalso; omega
    · have lv4 := Gv4.1
      have ev4 := c3.2.2
      refine zwW_p [(2, 5, 2), (1, 4, 2)] (q := 16) (ls' := [(2, 1), (0, a), (0, b), (0, c), (2, 0), (2, v4), (9, 0), (9, 0)]) (st' := [(2, 0)]) (by decide +kernel) rfl ?_
      refine zwnu_eq (q := 66) (nx := 19) (by decide +kernel) (by decide) (fun c6 => ?_) (fun c6 => ?_)
      · refine zwW_p [(0, -1, 0)] (q := 67) (ls' := [(2, 1), (0, a), (0, b), (0, c), (2, 0), (2, v4), (9, 0), (9, 0)]) (st' := [(0, -1)]) (by decide +kernel) rfl ?_
        refine zwW_ret (nx := 68) (a := 0) (b := 0) (by decide +kernel) rfl (Or.inl rfl) ?_
        exact ⟨C, X.le (by decide) (by decide), by omega⟩
      · exfalso; omega
  · have lv2 := Gv2.1
    have ev2 := c1.2.2
    refine zwW_p [(2, 4, 2), (1, 0, 2), (1, 2, 0)] (q := 9) (ls' := [(2, 1), (0, a), (0, b), (0, c), (2, v2), (9, 0), (9, 0), (9, 0)]) (st' := [(0, b), (2, 1)]) (by decide +kernel) rfl ?_
    refine zwW_cm C.1 (op := 60) (k' := 115) (n := 1) (kd := 12) (m := 13) (nx := 12) (r := 1) (tl := [(0, b)]) (st' := []) (by decide +kernel) rfl (by decide +kernel) rfl (x115 h C b (by omega)) ?_
    rintro v8 _ ⟨rfl, ⟨rfl, c7⟩ | ⟨Gv8, c7⟩⟩
    · refine zwW_p [(2, 5, 2), (1, 4, 2)] (q := 16) (ls' := [(2, 1), (0, a), (0, b), (0, c), (2, v2), (2, 0), (9, 0), (9, 0)]) (st' := [(2, v2)]) (by decide +kernel) rfl ?_
      refine zwnu_eq (q := 66) (nx := 19) (by decide +kernel) (by omega) (fun c9 => ?_) (fun c9 => ?_)
      · exfalso; omega
      · refine zwW_p [(1, 5, 2)] (q := 21) (ls' := [(2, 1), (0, a), (0, b), (0, c), (2, v2), (2, 0), (9, 0), (9, 0)]) (st' := [(2, 0)]) (by decide +kernel) rfl ?_
        refine zwnu_eq (q := 66) (nx := 24) (by decide +kernel) (by decide) (fun c10 => ?_) (fun c10 => ?_)
        · refine zwW_p [(0, -1, 0)] (q := 67) (ls' := [(2, 1), (0, a), (0, b), (0, c), (2, v2), (2, 0), (9, 0), (9, 0)]) (st' := [(0, -1)]) (by decide +kernel) rfl ?_
          refine zwW_ret (nx := 68) (a := 0) (b := 0) (by decide +kernel) rfl (Or.inl rfl) ?_
          exact ⟨C, X.le (by decide) (by decide), by omega⟩
        · exfalso; omega
    · have lv8 := Gv8.1
      have ev8 := c7.2.2
      refine zwW_p [(2, 5, 2), (1, 4, 2)] (q := 16) (ls' := [(2, 1), (0, a), (0, b), (0, c), (2, v2), (2, v8), (9, 0), (9, 0)]) (st' := [(2, v2)]) (by decide +kernel) rfl ?_
      refine zwnu_eq (q := 66) (nx := 19) (by decide +kernel) (by omega) (fun c11 => ?_) (fun c11 => ?_)
      · exfalso; omega
      · refine zwW_p [(1, 5, 2)] (q := 21) (ls' := [(2, 1), (0, a), (0, b), (0, c), (2, v2), (2, v8), (9, 0), (9, 0)]) (st' := [(2, v8)]) (by decide +kernel) rfl ?_
        refine zwnu_eq (q := 66) (nx := 24) (by decide +kernel) (by omega) (fun c12 => ?_) (fun c12 => ?_)
        · exfalso; omega
        · refine zwW_p [(1, 3, 0)] (q := 25) (ls' := [(2, 1), (0, a), (0, b), (0, c), (2, v2), (2, v8), (9, 0), (9, 0)]) (st' := [(0, c)]) (by decide +kernel) rfl ?_
          refine zwW_cs (k' := 130) (n := 1) (nx := 28) (as := [(0, c)]) (st' := []) (by decide +kernel) rfl (x130 h C c (by omega)) rfl ?_
          rintro x _ ⟨rfl, ⟨rfl, c13⟩ | ⟨rfl, c13⟩⟩
          · refine zwif_eq (q := 66) (nx := 31) (by decide +kernel) (fun c14 => ?_) (fun c14 => ?_)
            · exfalso; omega
            · refine zwW_p [(1, 0, 2)] (q := 32) (ls' := [(2, 1), (0, a), (0, b), (0, c), (2, v2), (2, v8), (9, 0), (9, 0)]) (st' := [(2, 1)]) (by decide +kernel) rfl ?_
              refine zwW_gc C.1 (kd := 12) (bn := 5) (n := 13) (c := 5) (nx := 35) (by decide +kernel) ?_
              refine zwW_cm C.1 (op := 60) (k' := 96) (n := 0) (kd := 0) (m := 3) (nx := 38) (r := 5) (tl := []) (st' := []) (by decide +kernel) rfl (by decide +kernel) rfl (x96_5 C) ?_
              rintro v15 _ ⟨rfl, ev15⟩
              have bv15 := zLb_5 C
              refine zwW_p [(0, 200, 0)] (q := 41) (ls' := [(2, 1), (0, a), (0, b), (0, c), (2, v2), (2, v8), (9, 0), (9, 0)]) (st' := [(0, 200), (0, v15)]) (by decide +kernel) rfl ?_
              refine zwic_ge (q := 66) (nx := 44) (by decide +kernel) (fun c16 => ?_) (fun c16 => ?_)
              · refine zwW_p [(0, -1, 0)] (q := 67) (ls' := [(2, 1), (0, a), (0, b), (0, c), (2, v2), (2, v8), (9, 0), (9, 0)]) (st' := [(0, -1)]) (by decide +kernel) rfl ?_
                refine zwW_ret (nx := 68) (a := 0) (b := 0) (by decide +kernel) rfl (Or.inl rfl) ?_
                exact ⟨C, X.le (by decide) (by decide), by omega⟩
              · refine zwW_p [(1, 0, 2)] (q := 45) (ls' := [(2, 1), (0, a), (0, b), (0, c), (2, v2), (2, v8), (9, 0), (9, 0)]) (st' := [(2, 1)]) (by decide +kernel) rfl ?_
                refine zwW_gs C.1 (kd := 12) (bn := 0) (n := 13) (t := 0) (lo := 0) (hi := 156) (nx := 48) (by decide +kernel) ?_
                intro v17 ev17 lv17 uv17
                refine zwW_p [(0, 156, 0)] (q := 51) (ls' := [(2, 1), (0, a), (0, b), (0, c), (2, v2), (2, v8), (9, 0), (9, 0)]) (st' := [(0, 156), (0, v17)]) (by decide +kernel) rfl ?_
                refine zwic_ge (q := 66) (nx := 54) (by decide +kernel) (fun c18 => ?_) (fun c18 => ?_)
                · refine zwW_p [(0, -1, 0)] (q := 67) (ls' := [(2, 1), (0, a), (0, b), (0, c), (2, v2), (2, v8), (9, 0), (9, 0)]) (st' := [(0, -1)]) (by decide +kernel) rfl ?_
                  refine zwW_ret (nx := 68) (a := 0) (b := 0) (by decide +kernel) rfl (Or.inl rfl) ?_
                  exact ⟨C, X.le (by decide) (by decide), by omega⟩
                · refine zwW_p [(1, 0, 2), (1, 4, 2), (1, 5, 2), (1, 3, 0)] (q := 60) (ls' := [(2, 1), (0, a), (0, b), (0, c), (2, v2), (2, v8), (9, 0), (9, 0)]) (st' := [(0, c), (2, v8), (2, v2), (2, 1)]) (by decide +kernel) rfl ?_
                  refine zwW_cm C.1 (op := 60) (k' := 131) (n := 3) (kd := 12) (m := 13) (nx := 63) (r := 1) (tl := [(2, v2), (2, v8), (0, c)]) (st' := []) (by decide +kernel) rfl (by decide +kernel) rfl (x131 h C v2 v8 c Gv2 Gv8 (by omega)) ?_
                  rintro v20 h21 ⟨Ch21, Qh21, f19⟩
                  have Xh21 : zXR msx41 (0) (0) h h21 := X.tr (c2 := 0) (s2 := 0) Qh21 (by decide +kernel) (by decide) (by decide)
                  have Gh21_0 : gH h21 v2 := Gv2.x Qh21
                  have Gh21_1 : gL h21 v8 := Gv8.x Qh21
                  have th21_5_2 : fld h21 5 2 = fld h 5 2 := Qh21.f (a1 := 5) (a2 := 5) (j1 := 2) (j2 := 3) (by decide +kernel) ⟨by decide, by decide⟩ ⟨by decide, by decide⟩ ⟨by decide, by decide⟩
                  refine zwif_eq (q := 68) (nx := 66) (by decide +kernel) (fun c22 => ?_) (fun c22 => ?_)
                  · refine zwW_p [(1, 0, 2), (0, 1, 0), (1, 4, 2), (1, 5, 2), (1, 3, 0)] (q := 75) (ls' := [(2, 1), (0, a), (0, b), (0, c), (2, v2), (2, v8), (9, 0), (9, 0)]) (st' := [(0, c), (2, v8), (2, v2), (0, 1), (2, 1)]) (by decide +kernel) rfl ?_
                    refine zwW_cm Ch21.1 (op := 60) (k' := 134) (n := 4) (kd := 12) (m := 13) (nx := 78) (r := 1) (tl := [(0, 1), (2, v2), (2, v8), (0, c)]) (st' := []) (by decide +kernel) rfl (by decide +kernel) rfl (x134 h21 Ch21 1 v2 v8 c (by omega) Gh21_0 Gh21_1 (by omega)) ?_
                    rintro v24 h25 ⟨Ch25, Qh25, f23⟩
                    have Xh25 : zXR msx41 (0) (0) h h25 := Xh21.tr (c2 := 0) (s2 := 0) Qh25 (by decide +kernel) (by decide) (by decide)
                    have Gh25_0 : gH h25 v2 := Gh21_0.x Qh25
                    have Gh25_1 : gL h25 v8 := Gh21_1.x Qh25
                    have th25_5_2 : fld h25 5 2 = fld h21 5 2 := Qh25.f (a1 := 5) (a2 := 5) (j1 := 2) (j2 := 3) (by decide +kernel) ⟨by decide, by decide⟩ ⟨by decide, by decide⟩ ⟨by decide, by decide⟩
                    refine zwW_p [(0, 0, 0)] (q := 79) (ls' := [(2, 1), (0, a), (0, b), (0, c), (2, v2), (2, v8), (9, 0), (9, 0)]) (st' := [(0, 0), (0, v24)]) (by decide +kernel) rfl ?_
                    refine zwW_max (nx := 82) (by decide +kernel) rfl ?_
                    intro v26 ev26
                    refine zwW_p [(2, 6, 0), (1, 0, 2), (0, 4, 0), (1, 4, 2), (1, 5, 2), (1, 3, 0)] (q := 91) (ls' := [(2, 1), (0, a), (0, b), (0, c), (2, v2), (2, v8), (0, v26), (9, 0)]) (st' := [(0, c), (2, v8), (2, v2), (0, 4), (2, 1)]) (by decide +kernel) rfl ?_
                    refine zwW_cm Ch25.1 (op := 60) (k' := 134) (n := 4) (kd := 12) (m := 13) (nx := 94) (r := 1) (tl := [(0, 4), (2, v2), (2, v8), (0, c)]) (st' := []) (by decide +kernel) rfl (by decide +kernel) rfl (x134 h25 Ch25 4 v2 v8 c (by omega) Gh25_0 Gh25_1 (by omega)) ?_
                    rintro v28 h29 ⟨Ch29, Qh29, f27⟩
                    have Xh29 : zXR msx41 (0) (0) h h29 := Xh25.tr (c2 := 0) (s2 := 0) Qh29 (by decide +kernel) (by decide) (by decide)
                    have Gh29_0 : gH h29 v2 := Gh25_0.x Qh29
                    have Gh29_1 : gL h29 v8 := Gh25_1.x Qh29
                    have th29_5_2 : fld h29 5 2 = fld h25 5 2 := Qh29.f (a1 := 5) (a2 := 5) (j1 := 2) (j2 := 3) (by decide +kernel) ⟨by decide, by decide⟩ ⟨by decide, by decide⟩ ⟨by decide, by decide⟩
                    refine zwif_eq (q := 101) (nx := 97) (by decide +kernel) (fun c30 => ?_) (fun c30 => ?_)
                    · refine zwW_p [(0, 0, 0), (2, 7, 0), (1, 5, 2), (12, 0, 0)] (q := 107) (ls' := [(2, 1), (0, a), (0, b), (0, c), (2, v2), (2, v8), (0, v26), (0, 0)]) (st' := [(2, v8), (2, v8)]) (by decide +kernel) rfl ?_
                      refine zwX_gi Ch29 (kd := 6) (bn := 6) (n := 7) (nx := 110) (by decide +kernel) Gh29_1.2.1 Gh29_1.1 rfl ?_
                      intro v31 ev31 lv31 uv31
                      refine zwW_p [(1, 3, 0)] (q := 111) (ls' := [(2, 1), (0, a), (0, b), (0, c), (2, v2), (2, v8), (0, v26), (0, 0)]) (st' := [(0, c), (0, v31), (2, v8)]) (by decide +kernel) rfl ?_
                      refine zwW_sbw (nx := 112) (by decide +kernel) ?_
                      intro v32 ev32 lv32 uv32
                      have Ev32 : v32 = w32 ((fld h29 v8 6) - c) := by rw [ev32, ev31]
                      refine zwX_pi Ch29 (kd := 6) (bn := 6) (n := 7) (nx := 115) (by decide +kernel) Gh29_1.2.1 Gh29_1.1 ⟨by omega, by omega⟩ ?_
                      rintro h33 eh33 Ch33 Qh33
                      have Xh33 : zXR msx41 (0) (0) h h33 := Xh29.tr (c2 := 0) (s2 := 0) Qh33 (by decide +kernel) (by decide) (by decide)
                      have Gh33_0 : gH h33 v2 := Gh29_0.x Qh33
                      have Gh33_1 : gL h33 v8 := Gh29_1.x Qh33
                      have th33_5_2 : fld h33 5 2 = fld h29 5 2 := Qh33.f (a1 := 5) (a2 := 5) (j1 := 2) (j2 := 3) (by decide +kernel) ⟨by decide, by decide⟩ ⟨by decide, by decide⟩ ⟨by decide, by decide⟩
                      refine zwW_p [(1, 5, 2)] (q := 117) (ls' := [(2, 1), (0, a), (0, b), (0, c), (2, v2), (2, v8), (0, v26), (0, 0)]) (st' := [(2, v8)]) (by decide +kernel) rfl ?_
                      refine zwW_get (kd := 6) (bn := 1) (t := 2) (n := 7) (nx := 120) (by decide +kernel) Gh33_1.2.1 rfl ?_
                      obtain ⟨v34, ev34⟩ : ∃ z, z = fld h33 v8 1 := ⟨_, rfl⟩
                      rw [← ev34]
                      have Gv34 : gH h33 v34 := by rw [ev34]; exact Gh33_1.2.2
                      have lv34 := Gv34.1
                      refine zwW_p [(12, 0, 0)] (q := 121) (ls' := [(2, 1), (0, a), (0, b), (0, c), (2, v2), (2, v8), (0, v26), (0, 0)]) (st' := [(2, v34), (2, v34)]) (by decide +kernel) rfl ?_
                      refine zwX_gi Ch33 (kd := 4) (bn := 6) (n := 19) (nx := 124) (by decide +kernel) Gv34.2.1 Gv34.1 rfl ?_
                      intro v35 ev35 lv35 uv35
                      refine zwW_p [(1, 6, 0)] (q := 126) (ls' := [(2, 1), (0, a), (0, b), (0, c), (2, v2), (2, v8), (0, v26), (0, 0)]) (st' := [(0, v26), (0, v35), (2, v34)]) (by decide +kernel) rfl ?_
                      refine zwW_sbw (nx := 127) (by decide +kernel) ?_
                      intro v36 ev36 lv36 uv36
                      have Ev36 : v36 = w32 ((fld h33 v34 6) - v26) := by rw [ev36, ev35]
                      refine zwX_pi Ch33 (kd := 4) (bn := 6) (n := 19) (nx := 130) (by decide +kernel) Gv34.2.1 Gv34.1 ⟨by omega, by omega⟩ ?_
                      rintro h37 eh37 Ch37 Qh37
                      have Xh37 : zXR msx41 (0) (0) h h37 := Xh33.tr (c2 := 0) (s2 := 0) Qh37 (by decide +kernel) (by decide) (by decide)
                      have Gh37_0 : gH h37 v2 := Gh33_0.x Qh37
                      have Gh37_1 : gL h37 v8 := Gh33_1.x Qh37
                      have th37_5_2 : fld h37 5 2 = fld h33 5 2 := Qh37.f (a1 := 5) (a2 := 5) (j1 := 2) (j2 := 3) (by decide +kernel) ⟨by decide, by decide⟩ ⟨by decide, by decide⟩ ⟨by decide, by decide⟩
                      refine zwW_p [(1, 4, 2), (12, 0, 0)] (q := 133) (ls' := [(2, 1), (0, a), (0, b), (0, c), (2, v2), (2, v8), (0, v26), (0, 0)]) (st' := [(2, v2), (2, v2)]) (by decide +kernel) rfl ?_
                      refine zwX_gi Ch37 (kd := 4) (bn := 6) (n := 19) (nx := 136) (by decide +kernel) Gh37_0.2.1 Gh37_0.1 rfl ?_
                      intro v38 ev38 lv38 uv38
                      refine zwW_p [(1, 6, 0)] (q := 138) (ls' := [(2, 1), (0, a), (0, b), (0, c), (2, v2), (2, v8), (0, v26), (0, 0)]) (st' := [(0, v26), (0, v38), (2, v2)]) (by decide +kernel) rfl ?_
                      refine zwW_adw (nx := 139) (by decide +kernel) ?_
                      intro v39 ev39 lv39 uv39
                      have Ev39 : v39 = w32 ((fld h37 v2 6) + v26) := by rw [ev39, ev38]
                      refine zwX_pi Ch37 (kd := 4) (bn := 6) (n := 19) (nx := 142) (by decide +kernel) Gh37_0.2.1 Gh37_0.1 ⟨by omega, by omega⟩ ?_
                      rintro h40 eh40 Ch40 Qh40
                      have Xh40 : zXR msx41 (0) (0) h h40 := Xh37.tr (c2 := 0) (s2 := 0) Qh40 (by decide +kernel) (by decide) (by decide)
                      have Gh40_0 : gH h40 v2 := Gh37_0.x Qh40
                      have Gh40_1 : gL h40 v8 := Gh37_1.x Qh40
                      have th40_5_2 : fld h40 5 2 = fld h37 5 2 := Qh40.f (a1 := 5) (a2 := 5) (j1 := 2) (j2 := 3) (by decide +kernel) ⟨by decide, by decide⟩ ⟨by decide, by decide⟩ ⟨by decide, by decide⟩
                      refine zwW_p [(1, 4, 2), (12, 0, 0)] (q := 145) (ls' := [(2, 1), (0, a), (0, b), (0, c), (2, v2), (2, v8), (0, v26), (0, 0)]) (st' := [(2, v2), (2, v2)]) (by decide +kernel) rfl ?_
                      refine zwX_gi Ch40 (kd := 4) (bn := 14) (n := 19) (nx := 148) (by decide +kernel) Gh40_0.2.1 Gh40_0.1 rfl ?_
                      intro v41 ev41 lv41 uv41
                      refine zwW_p [(1, 3, 0)] (q := 149) (ls' := [(2, 1), (0, a), (0, b), (0, c), (2, v2), (2, v8), (0, v26), (0, 0)]) (st' := [(0, c), (0, v41), (2, v2)]) (by decide +kernel) rfl ?_
                      refine zwW_adw (nx := 150) (by decide +kernel) ?_
                      intro v42 ev42 lv42 uv42
                      have Ev42 : v42 = w32 ((fld h40 v2 14) + c) := by rw [ev42, ev41]
                      refine zwX_pi Ch40 (kd := 4) (bn := 14) (n := 19) (nx := 153) (by decide +kernel) Gh40_0.2.1 Gh40_0.1 ⟨by omega, by omega⟩ ?_
                      rintro h43 eh43 Ch43 Qh43
                      have Xh43 : zXR msx41 (0) (0) h h43 := Xh40.tr (c2 := 0) (s2 := 0) Qh43 (by decide +kernel) (by decide) (by decide)
                      have Gh43_0 : gH h43 v2 := Gh40_0.x Qh43
                      have Gh43_1 : gL h43 v8 := Gh40_1.x Qh43
                      have th43_5_2 : fld h43 5 2 = fld h40 5 2 := Qh43.f (a1 := 5) (a2 := 5) (j1 := 2) (j2 := 3) (by decide +kernel) ⟨by decide, by decide⟩ ⟨by decide, by decide⟩ ⟨by decide, by decide⟩
                      refine zwW_p [(1, 0, 2)] (q := 154) (ls' := [(2, 1), (0, a), (0, b), (0, c), (2, v2), (2, v8), (0, v26), (0, 0)]) (st' := [(2, 1)]) (by decide +kernel) rfl ?_
                      refine zwW_gc Ch43.1 (kd := 12) (bn := 11) (n := 13) (c := 34) (nx := 157) (by decide +kernel) ?_
                      refine zwW_p [(12, 0, 0)] (q := 158) (ls' := [(2, 1), (0, a), (0, b), (0, c), (2, v2), (2, v8), (0, v26), (0, 0)]) (st' := [(2, 34), (2, 34)]) (by decide +kernel) rfl ?_
                      refine zwW_gs Ch43.1 (kd := 5) (bn := 1) (n := 4) (t := 0) (lo := -2147483648) (hi := 2147483647) (nx := 161) (by decide +kernel) ?_
                      intro v44 ev44 lv44 uv44
                      refine zwW_p [(1, 3, 0)] (q := 162) (ls' := [(2, 1), (0, a), (0, b), (0, c), (2, v2), (2, v8), (0, v26), (0, 0)]) (st' := [(0, c), (0, v44), (2, 34)]) (by decide +kernel) rfl ?_
                      refine zwW_adw (nx := 163) (by decide +kernel) ?_
                      intro v45 ev45 lv45 uv45
                      refine zwW_ps Ch43.1 (kd := 5) (bn := 1) (n := 4) (lo := -2147483648) (hi := 2147483647) (nx := 166) (by decide +kernel) ⟨by omega, by omega⟩ ?_
                      intro h46 eh46 Ih46
                      have Ch46 : CI h46 := Ch43.wc eh46 Ih46 (by decide) (by decide)
                      have Qh46 : zXR [(34, 34, 1, 2)] 0 0 h43 h46 := zXR.wc eh46 rfl ⟨by decide, by decide, Or.inl (by decide)⟩ ⟨by decide, by decide⟩
                      have Xh46 : zXR msx41 (0) (0) h h46 := Xh43.tr (c2 := 0) (s2 := 0) Qh46 (by decide +kernel) (by decide) (by decide)
                      have Gh46_0 : gH h46 v2 := Gh43_0.x Qh46
                      have Gh46_1 : gL h46 v8 := Gh43_1.x Qh46
                      have th46_5_2 : fld h46 5 2 = fld h43 5 2 := Qh46.f (a1 := 5) (a2 := 5) (j1 := 2) (j2 := 3) (by decide +kernel) ⟨by decide, by decide⟩ ⟨by decide, by decide⟩ ⟨by decide, by decide⟩
                      refine zwW_p [(1, 0, 2)] (q := 167) (ls' := [(2, 1), (0, a), (0, b), (0, c), (2, v2), (2, v8), (0, v26), (0, 0)]) (st' := [(2, 1)]) (by decide +kernel) rfl ?_
                      refine zwW_gc Ch46.1 (kd := 12) (bn := 5) (n := 13) (c := 5) (nx := 170) (by decide +kernel) ?_
                      refine zwW_new (kd := 1) (n := 6) (nx := 173) (by decide +kernel) rfl rfl ?_
                      rintro h47 r48 eh47 er48
                      have Oh47 : zOld h46 h47 := by rw [eh47]; exact zOld.app _
                      have Yh47 : zDy h47 := by rw [eh47]; exact Ch46.2.1.app (fun x hx => by rw [List.eq_of_mem_replicate hx]; decide)
                      have Ch47 : CI h47 := Ch46.old Oh47 Yh47
                      have Xh47 := Oh47.X Ch46
                      have th47_5_2 : fld h47 5 2 = fld h46 5 2 := Xh47.f (a1 := 5) (a2 := 5) (j1 := 2) (j2 := 3) (by decide +kernel) ⟨by decide, by decide⟩ ⟨by decide, by decide⟩ ⟨by decide, by decide⟩
                      have Gh47_0 : gH h47 v2 := Gh46_0.x Xh47
                      have Gh47_1 : gL h47 v8 := Gh46_1.x Xh47
                      refine zwW_p [(12, 0, 0), (1, 5, 2), (1, 4, 2), (1, 0, 2)] (q := 179) (ls' := [(2, 1), (0, a), (0, b), (0, c), (2, v2), (2, v8), (0, v26), (0, 0)]) (st' := [(2, 1), (2, v2), (2, v8), (2, r48), (2, r48), (2, 5)]) (by decide +kernel) rfl ?_
                      refine zwW_gs Ch47.1 (kd := 12) (bn := 0) (n := 13) (t := 0) (lo := 0) (hi := 156) (nx := 182) (by decide +kernel) ?_
                      intro v49 ev49 lv49 uv49
                      refine zwW_p [(1, 3, 0), (0, 2, 0)] (q := 184) (ls' := [(2, 1), (0, a), (0, b), (0, c), (2, v2), (2, v8), (0, v26), (0, 0)]) (st' := [(0, 2), (0, c), (0, v49), (2, v2), (2, v8), (2, r48), (2, r48), (2, 5)]) (by decide +kernel) rfl ?_
                      refine zwW_tdw (nx := 185) (by decide +kernel) (by omega) ?_
                      intro v50 ev50 lv50 uv50
                      refine zwW_p [(1, 7, 0)] (q := 187) (ls' := [(2, 1), (0, a), (0, b), (0, c), (2, v2), (2, v8), (0, v26), (0, 0)]) (st' := [(0, 0), (0, v50), (0, v49), (2, v2), (2, v8), (2, r48), (2, r48), (2, 5)]) (by decide +kernel) rfl ?_
                      subst er48 eh47
                      refine zwW_cvv (op := 62) (k' := 135) (n := 5) (kd := 1) (m := 6) (nx := 190) (r := ((h46.length + 1 : Nat) : Int)) (tl := [(2, v8), (2, v2), (0, v49), (0, v50), (0, 0)]) (st' := [(2, ((h46.length + 1 : Nat) : Int)), (2, 5)]) (by decide +kernel) rfl (by decide +kernel) (sh_new _ _) (x135 h46 Ch46 v8 v2 v49 v50 0 (by omega) (by omega) Gh46_1 Gh46_0 (by omega)) rfl ?_
                      rintro h51 ⟨Ch51, Qh51, Nh51, Fh51_0⟩
                      obtain ⟨nr48, err48⟩ : ∃ z, z = ((h46.length + 1 : Nat) : Int) := ⟨_, rfl⟩
                      rw [← err48] at Nh51 ⊢
                      try rw [← err48] at Fh51_0
                      have Xh51 : zXR msx41 (1) (6) h h51 := Xh46.tr (c2 := 1) (s2 := 6) Qh51 (by decide +kernel) (by decide) (by decide)
                      have Gh51_0 : gH h51 v2 := Gh46_0.x Qh51
                      have Gh51_1 : gL h51 v8 := Gh46_1.x Qh51
                      have th51_5_2 : fld h51 5 2 = fld h46 5 2 := Qh51.f (a1 := 5) (a2 := 5) (j1 := 2) (j2 := 3) (by decide +kernel) ⟨by decide, by decide⟩ ⟨by decide, by decide⟩ ⟨by decide, by decide⟩
                      have lnr48 := Nh51.1
                      refine zwW_cm Ch51.1 (op := 60) (k' := 100) (n := 1) (kd := 0) (m := 3) (nx := 193) (r := 5) (tl := [(2, nr48)]) (st' := []) (by decide +kernel) rfl (by decide +kernel) rfl (x100_5 Ch51 Nh51 (by omega) (by have := Xh51.hl C Ch51 (by decide) hl; omega)) ?_
                      rintro x h53 ⟨rfl, Ah53⟩
                      have Ch53 := Ah53.1
                      have Qh53 : zXR [(5, 5, 0, 3)] (1) (1000) h51 h53 := Ah53.2.1
                      have zh53 : fld h53 5 2 = fld h51 5 2 + 1 := Ah53.2.2.1
                      have Xh53 : zXR msx41 (2) (1006) h h53 := Xh51.tr (c2 := 2) (s2 := 1006) Qh53 (by decide +kernel) (by decide) (by decide)
                      have Gh53_0 : gH h53 v2 := Gh51_0.x Qh53
                      have Gh53_1 : gL h53 v8 := Gh51_1.x Qh53
                      refine zwW_p [(15, 0, 0), (1, 0, 2)] (q := 195) (ls' := [(2, 1), (0, a), (0, b), (0, c), (2, v2), (2, v8), (0, v26), (0, 0)]) (st' := [(2, 1)]) (by decide +kernel) rfl ?_
                      refine zwW_gc Ch53.1 (kd := 12) (bn := 5) (n := 13) (c := 5) (nx := 198) (by decide +kernel) ?_
                      refine zwW_cm Ch53.1 (op := 60) (k' := 96) (n := 0) (kd := 0) (m := 3) (nx := 201) (r := 5) (tl := []) (st' := []) (by decide +kernel) rfl (by decide +kernel) rfl (x96_5 Ch53) ?_
                      rintro v54 _ ⟨rfl, ev54⟩
                      have bv54 := zLb_5 Ch53
                      refine zwW_p [(0, 1, 0)] (q := 202) (ls' := [(2, 1), (0, a), (0, b), (0, c), (2, v2), (2, v8), (0, v26), (0, 0)]) (st' := [(0, 1), (0, v54)]) (by decide +kernel) rfl ?_
                      refine zwW_sub (nx := 203) (by decide +kernel) ⟨by omega, by omega⟩ ?_
                      refine zwW_ret (nx := 204) (a := 0) (b := 0) (by decide +kernel) rfl (Or.inl rfl) ?_
                      exact ⟨Ch53, Xh53.le (by decide) (by decide), by omega⟩
                    · refine zwW_p [(0, 1, 0), (24, 102, 0), (2, 7, 0), (1, 5, 2), (12, 0, 0)] (q := 107) (ls' := [(2, 1), (0, a), (0, b), (0, c), (2, v2), (2, v8), (0, v26), (0, 1)]) (st' := [(2, v8), (2, v8)]) (by decide +kernel) rfl ?_
                      refine zwX_gi Ch29 (kd := 6) (bn := 6) (n := 7) (nx := 110) (by decide +kernel) Gh29_1.2.1 Gh29_1.1 rfl ?_
                      intro v55 ev55 lv55 uv55
                      refine zwW_p [(1, 3, 0)] (q := 111) (ls' := [(2, 1), (0, a), (0, b), (0, c), (2, v2), (2, v8), (0, v26), (0, 1)]) (st' := [(0, c), (0, v55), (2, v8)]) (by decide +kernel) rfl ?_
                      refine zwW_sbw (nx := 112) (by decide +kernel) ?_
                      intro v56 ev56 lv56 uv56
                      have Ev56 : v56 = w32 ((fld h29 v8 6) - c) := by rw [ev56, ev55]
                      refine zwX_pi Ch29 (kd := 6) (bn := 6) (n := 7) (nx := 115) (by decide +kernel) Gh29_1.2.1 Gh29_1.1 ⟨by omega, by omega⟩ ?_
                      rintro h57 eh57 Ch57 Qh57
                      have Xh57 : zXR msx41 (0) (0) h h57 := Xh29.tr (c2 := 0) (s2 := 0) Qh57 (by decide +kernel) (by decide) (by decide)
                      have Gh57_0 : gH h57 v2 := Gh29_0.x Qh57
                      have Gh57_1 : gL h57 v8 := Gh29_1.x Qh57
                      have th57_5_2 : fld h57 5 2 = fld h29 5 2 := Qh57.f (a1 := 5) (a2 := 5) (j1 := 2) (j2 := 3) (by decide +kernel) ⟨by decide, by decide⟩ ⟨by decide, by decide⟩ ⟨by decide, by decide⟩
                      refine zwW_p [(1, 5, 2)] (q := 117) (ls' := [(2, 1), (0, a), (0, b), (0, c), (2, v2), (2, v8), (0, v26), (0, 1)]) (st' := [(2, v8)]) (by decide +kernel) rfl ?_
                      refine zwW_get (kd := 6) (bn := 1) (t := 2) (n := 7) (nx := 120) (by decide +kernel) Gh57_1.2.1 rfl ?_
                      obtain ⟨v58, ev58⟩ : ∃ z, z = fld h57 v8 1 := ⟨_, rfl⟩
                      rw [← ev58]
                      have Gv58 : gH h57 v58 := by rw [ev58]; exact Gh57_1.2.2
                      have lv58 := Gv58.1
                      refine zwW_p [(12, 0, 0)] (q := 121) (ls' := [(2, 1), (0, a), (0, b), (0, c), (2, v2), (2, v8), (0, v26), (0, 1)]) (st' := [(2, v58), (2, v58)]) (by decide +kernel) rfl ?_
                      refine zwX_gi Ch57 (kd := 4) (bn := 6) (n := 19) (nx := 124) (by decide +kernel) Gv58.2.1 Gv58.1 rfl ?_
                      intro v59 ev59 lv59 uv59
                      refine zwW_p [(1, 6, 0)] (q := 126) (ls' := [(2, 1), (0, a), (0, b), (0, c), (2, v2), (2, v8), (0, v26), (0, 1)]) (st' := [(0, v26), (0, v59), (2, v58)]) (by decide +kernel) rfl ?_
                      refine zwW_sbw (nx := 127) (by decide +kernel) ?_
                      intro v60 ev60 lv60 uv60
                      have Ev60 : v60 = w32 ((fld h57 v58 6) - v26) := by rw [ev60, ev59]
                      refine zwX_pi Ch57 (kd := 4) (bn := 6) (n := 19) (nx := 130) (by decide +kernel) Gv58.2.1 Gv58.1 ⟨by omega, by omega⟩ ?_
                      rintro h61 eh61 Ch61 Qh61
                      have Xh61 : zXR msx41 (0) (0) h h61 := Xh57.tr (c2 := 0) (s2 := 0) Qh61 (by decide +kernel) (by decide) (by decide)
                      have Gh61_0 : gH h61 v2 := Gh57_0.x Qh61
                      have Gh61_1 : gL h61 v8 := Gh57_1.x Qh61
                      have th61_5_2 : fld h61 5 2 = fld h57 5 2 := Qh61.f (a1 := 5) (a2 := 5) (j1 := 2) (j2 := 3) (by decide +kernel) ⟨by decide, by decide⟩ ⟨by decide, by decide⟩ ⟨by decide, by decide⟩
                      refine zwW_p [(1, 4, 2), (12, 0, 0)] (q := 133) (ls' := [(2, 1), (0, a), (0, b), (0, c), (2, v2), (2, v8), (0, v26), (0, 1)]) (st' := [(2, v2), (2, v2)]) (by decide +kernel) rfl ?_
                      refine zwX_gi Ch61 (kd := 4) (bn := 6) (n := 19) (nx := 136) (by decide +kernel) Gh61_0.2.1 Gh61_0.1 rfl ?_
                      intro v62 ev62 lv62 uv62
                      refine zwW_p [(1, 6, 0)] (q := 138) (ls' := [(2, 1), (0, a), (0, b), (0, c), (2, v2), (2, v8), (0, v26), (0, 1)]) (st' := [(0, v26), (0, v62), (2, v2)]) (by decide +kernel) rfl ?_
                      refine zwW_adw (nx := 139) (by decide +kernel) ?_
                      intro v63 ev63 lv63 uv63
                      have Ev63 : v63 = w32 ((fld h61 v2 6) + v26) := by rw [ev63, ev62]
                      refine zwX_pi Ch61 (kd := 4) (bn := 6) (n := 19) (nx := 142) (by decide +kernel) Gh61_0.2.1 Gh61_0.1 ⟨by omega, by omega⟩ ?_
                      rintro h64 eh64 Ch64 Qh64
                      have Xh64 : zXR msx41 (0) (0) h h64 := Xh61.tr (c2 := 0) (s2 := 0) Qh64 (by decide +kernel) (by decide) (by decide)
                      have Gh64_0 : gH h64 v2 := Gh61_0.x Qh64
                      have Gh64_1 : gL h64 v8 := Gh61_1.x Qh64
                      have th64_5_2 : fld h64 5 2 = fld h61 5 2 := Qh64.f (a1 := 5) (a2 := 5) (j1 := 2) (j2 := 3) (by decide +kernel) ⟨by decide, by decide⟩ ⟨by decide, by decide⟩ ⟨by decide, by decide⟩
                      refine zwW_p [(1, 4, 2), (12, 0, 0)] (q := 145) (ls' := [(2, 1), (0, a), (0, b), (0, c), (2, v2), (2, v8), (0, v26), (0, 1)]) (st' := [(2, v2), (2, v2)]) (by decide +kernel) rfl ?_
                      refine zwX_gi Ch64 (kd := 4) (bn := 14) (n := 19) (nx := 148) (by decide +kernel) Gh64_0.2.1 Gh64_0.1 rfl ?_
                      intro v65 ev65 lv65 uv65
                      refine zwW_p [(1, 3, 0)] (q := 149) (ls' := [(2, 1), (0, a), (0, b), (0, c), (2, v2), (2, v8), (0, v26), (0, 1)]) (st' := [(0, c), (0, v65), (2, v2)]) (by decide +kernel) rfl ?_
                      refine zwW_adw (nx := 150) (by decide +kernel) ?_
                      intro v66 ev66 lv66 uv66
                      have Ev66 : v66 = w32 ((fld h64 v2 14) + c) := by rw [ev66, ev65]
                      refine zwX_pi Ch64 (kd := 4) (bn := 14) (n := 19) (nx := 153) (by decide +kernel) Gh64_0.2.1 Gh64_0.1 ⟨by omega, by omega⟩ ?_
                      rintro h67 eh67 Ch67 Qh67
                      have Xh67 : zXR msx41 (0) (0) h h67 := Xh64.tr (c2 := 0) (s2 := 0) Qh67 (by decide +kernel) (by decide) (by decide)
                      have Gh67_0 : gH h67 v2 := Gh64_0.x Qh67
                      have Gh67_1 : gL h67 v8 := Gh64_1.x Qh67
                      have th67_5_2 : fld h67 5 2 = fld h64 5 2 := Qh67.f (a1 := 5) (a2 := 5) (j1 := 2) (j2 := 3) (by decide +kernel) ⟨by decide, by decide⟩ ⟨by decide, by decide⟩ ⟨by decide, by decide⟩
                      refine zwW_p [(1, 0, 2)] (q := 154) (ls' := [(2, 1), (0, a), (0, b), (0, c), (2, v2), (2, v8), (0, v26), (0, 1)]) (st' := [(2, 1)]) (by decide +kernel) rfl ?_
                      refine zwW_gc Ch67.1 (kd := 12) (bn := 11) (n := 13) (c := 34) (nx := 157) (by decide +kernel) ?_
                      refine zwW_p [(12, 0, 0)] (q := 158) (ls' := [(2, 1), (0, a), (0, b), (0, c), (2, v2), (2, v8), (0, v26), (0, 1)]) (st' := [(2, 34), (2, 34)]) (by decide +kernel) rfl ?_
                      refine zwW_gs Ch67.1 (kd := 5) (bn := 1) (n := 4) (t := 0) (lo := -2147483648) (hi := 2147483647) (nx := 161) (by decide +kernel) ?_
                      intro v68 ev68 lv68 uv68
                      refine zwW_p [(1, 3, 0)] (q := 162) (ls' := [(2, 1), (0, a), (0, b), (0, c), (2, v2), (2, v8), (0, v26), (0, 1)]) (st' := [(0, c), (0, v68), (2, 34)]) (by decide +kernel) rfl ?_
                      refine zwW_adw (nx := 163) (by decide +kernel) ?_
                      intro v69 ev69 lv69 uv69
                      refine zwW_ps Ch67.1 (kd := 5) (bn := 1) (n := 4) (lo := -2147483648) (hi := 2147483647) (nx := 166) (by decide +kernel) ⟨by omega, by omega⟩ ?_
                      intro h70 eh70 Ih70
                      have Ch70 : CI h70 := Ch67.wc eh70 Ih70 (by decide) (by decide)
                      have Qh70 : zXR [(34, 34, 1, 2)] 0 0 h67 h70 := zXR.wc eh70 rfl ⟨by decide, by decide, Or.inl (by decide)⟩ ⟨by decide, by decide⟩
                      have Xh70 : zXR msx41 (0) (0) h h70 := Xh67.tr (c2 := 0) (s2 := 0) Qh70 (by decide +kernel) (by decide) (by decide)
                      have Gh70_0 : gH h70 v2 := Gh67_0.x Qh70
                      have Gh70_1 : gL h70 v8 := Gh67_1.x Qh70
                      have th70_5_2 : fld h70 5 2 = fld h67 5 2 := Qh70.f (a1 := 5) (a2 := 5) (j1 := 2) (j2 := 3) (by decide +kernel) ⟨by decide, by decide⟩ ⟨by decide, by decide⟩ ⟨by decide, by decide⟩
                      refine zwW_p [(1, 0, 2)] (q := 167) (ls' := [(2, 1), (0, a), (0, b), (0, c), (2, v2), (2, v8), (0, v26), (0, 1)]) (st' := [(2, 1)]) (by decide +kernel) rfl ?_
                      refine zwW_gc Ch70.1 (kd := 12) (bn := 5) (n := 13) (c := 5) (nx := 170) (by decide +kernel) ?_
                      refine zwW_new (kd := 1) (n := 6) (nx := 173) (by decide +kernel) rfl rfl ?_
                      rintro h71 r72 eh71 er72
                      have Oh71 : zOld h70 h71 := by rw [eh71]; exact zOld.app _
                      have Yh71 : zDy h71 := by rw [eh71]; exact Ch70.2.1.app (fun x hx => by rw [List.eq_of_mem_replicate hx]; decide)
                      have Ch71 : CI h71 := Ch70.old Oh71 Yh71
                      have Xh71 := Oh71.X Ch70
                      have th71_5_2 : fld h71 5 2 = fld h70 5 2 := Xh71.f (a1 := 5) (a2 := 5) (j1 := 2) (j2 := 3) (by decide +kernel) ⟨by decide, by decide⟩ ⟨by decide, by decide⟩ ⟨by decide, by decide⟩
                      have Gh71_0 : gH h71 v2 := Gh70_0.x Xh71
                      have Gh71_1 : gL h71 v8 := Gh70_1.x Xh71
                      refine zwW_p [(12, 0, 0), (1, 5, 2), (1, 4, 2), (1, 0, 2)] (q := 179) (ls' := [(2, 1), (0, a), (0, b), (0, c), (2, v2), (2, v8), (0, v26), (0, 1)]) (st' := [(2, 1), (2, v2), (2, v8), (2, r72), (2, r72), (2, 5)]) (by decide +kernel) rfl ?_
                      refine zwW_gs Ch71.1 (kd := 12) (bn := 0) (n := 13) (t := 0) (lo := 0) (hi := 156) (nx := 182) (by decide +kernel) ?_
                      intro v73 ev73 lv73 uv73
                      refine zwW_p [(1, 3, 0), (0, 2, 0)] (q := 184) (ls' := [(2, 1), (0, a), (0, b), (0, c), (2, v2), (2, v8), (0, v26), (0, 1)]) (st' := [(0, 2), (0, c), (0, v73), (2, v2), (2, v8), (2, r72), (2, r72), (2, 5)]) (by decide +kernel) rfl ?_
                      refine zwW_tdw (nx := 185) (by decide +kernel) (by omega) ?_
                      intro v74 ev74 lv74 uv74
                      refine zwW_p [(1, 7, 0)] (q := 187) (ls' := [(2, 1), (0, a), (0, b), (0, c), (2, v2), (2, v8), (0, v26), (0, 1)]) (st' := [(0, 1), (0, v74), (0, v73), (2, v2), (2, v8), (2, r72), (2, r72), (2, 5)]) (by decide +kernel) rfl ?_
                      subst er72 eh71
                      refine zwW_cvv (op := 62) (k' := 135) (n := 5) (kd := 1) (m := 6) (nx := 190) (r := ((h70.length + 1 : Nat) : Int)) (tl := [(2, v8), (2, v2), (0, v73), (0, v74), (0, 1)]) (st' := [(2, ((h70.length + 1 : Nat) : Int)), (2, 5)]) (by decide +kernel) rfl (by decide +kernel) (sh_new _ _) (x135 h70 Ch70 v8 v2 v73 v74 1 (by omega) (by omega) Gh70_1 Gh70_0 (by omega)) rfl ?_
                      rintro h75 ⟨Ch75, Qh75, Nh75, Fh75_0⟩
                      obtain ⟨nr72, err72⟩ : ∃ z, z = ((h70.length + 1 : Nat) : Int) := ⟨_, rfl⟩
                      rw [← err72] at Nh75 ⊢
                      try rw [← err72] at Fh75_0
                      have Xh75 : zXR msx41 (1) (6) h h75 := Xh70.tr (c2 := 1) (s2 := 6) Qh75 (by decide +kernel) (by decide) (by decide)
                      have Gh75_0 : gH h75 v2 := Gh70_0.x Qh75
                      have Gh75_1 : gL h75 v8 := Gh70_1.x Qh75
                      have th75_5_2 : fld h75 5 2 = fld h70 5 2 := Qh75.f (a1 := 5) (a2 := 5) (j1 := 2) (j2 := 3) (by decide +kernel) ⟨by decide, by decide⟩ ⟨by decide, by decide⟩ ⟨by decide, by decide⟩
                      have lnr72 := Nh75.1
                      refine zwW_cm Ch75.1 (op := 60) (k' := 100) (n := 1) (kd := 0) (m := 3) (nx := 193) (r := 5) (tl := [(2, nr72)]) (st' := []) (by decide +kernel) rfl (by decide +kernel) rfl (x100_5 Ch75 Nh75 (by omega) (by have := Xh75.hl C Ch75 (by decide) hl; omega)) ?_
                      rintro x h77 ⟨rfl, Ah77⟩
                      have Ch77 := Ah77.1
                      have Qh77 : zXR [(5, 5, 0, 3)] (1) (1000) h75 h77 := Ah77.2.1
                      have zh77 : fld h77 5 2 = fld h75 5 2 + 1 := Ah77.2.2.1
                      have Xh77 : zXR msx41 (2) (1006) h h77 := Xh75.tr (c2 := 2) (s2 := 1006) Qh77 (by decide +kernel) (by decide) (by decide)
                      have Gh77_0 : gH h77 v2 := Gh75_0.x Qh77
                      have Gh77_1 : gL h77 v8 := Gh75_1.x Qh77
                      refine zwW_p [(15, 0, 0), (1, 0, 2)] (q := 195) (ls' := [(2, 1), (0, a), (0, b), (0, c), (2, v2), (2, v8), (0, v26), (0, 1)]) (st' := [(2, 1)]) (by decide +kernel) rfl ?_
                      refine zwW_gc Ch77.1 (kd := 12) (bn := 5) (n := 13) (c := 5) (nx := 198) (by decide +kernel) ?_
                      refine zwW_cm Ch77.1 (op := 60) (k' := 96) (n := 0) (kd := 0) (m := 3) (nx := 201) (r := 5) (tl := []) (st' := []) (by decide +kernel) rfl (by decide +kernel) rfl (x96_5 Ch77) ?_
                      rintro v78 _ ⟨rfl, ev78⟩
                      have bv78 := zLb_5 Ch77
                      refine zwW_p [(0, 1, 0)] (q := 202) (ls' := [(2, 1), (0, a), (0, b), (0, c), (2, v2), (2, v8), (0, v26), (0, 1)]) (st' := [(0, 1), (0, v78)]) (by decide +kernel) rfl ?_
                      refine zwW_sub (nx := 203) (by decide +kernel) ⟨by omega, by omega⟩ ?_
                      refine zwW_ret (nx := 204) (a := 0) (b := 0) (by decide +kernel) rfl (Or.inl rfl) ?_
                      exact ⟨Ch77, Xh77.le (by decide) (by decide), by omega⟩
                  · refine zwW_p [(0, -1, 0)] (q := 67) (ls' := [(2, 1), (0, a), (0, b), (0, c), (2, v2), (2, v8), (9, 0), (9, 0)]) (st' := [(0, -1)]) (by decide +kernel) rfl ?_
                    refine zwW_ret (nx := 68) (a := 0) (b := 0) (by decide +kernel) rfl (Or.inl rfl) ?_
                    exact ⟨Ch21, Xh21.le (by decide) (by decide), by omega⟩
          · refine zwif_eq (q := 66) (nx := 31) (by decide +kernel) (fun c79 => ?_) (fun c79 => ?_)
            · refine zwW_p [(0, -1, 0)] (q := 67) (ls' := [(2, 1), (0, a), (0, b), (0, c), (2, v2), (2, v8), (9, 0), (9, 0)]) (st' := [(0, -1)]) (by decide +kernel) rfl ?_
              refine zwW_ret (nx := 68) (a := 0) (b := 0) (by decide +kernel) rfl (Or.inl rfl) ?_
              exact ⟨C, X.le (by decide) (by decide), by omega⟩
            · exfalso; omega
-- WheelLand.cloth(II)I
theorem x43 {sc : List Int} (h : Hp) (C : CI h) (a b : Int) (q_a : -2147483648 ≤ a ∧ a ≤ 2147483647) (q_b : -2147483648 ≤ b ∧ b ≤ 2147483647) : zwC sc 6 43 [(2, 1), (0, a), (0, b)] h (zwRt 0 (fun x g => h = g ∧ (-2147483648 ≤ x ∧ x ≤ 2147483647))) := by
  refine zwC_of (D := 5) 4 (by decide +kernel) rfl (ls := [(2, 1), (0, a), (0, b), (9, 0)]) rfl ?_
  refine zwW_p [(1, 0, 2), (1, 1, 0)] (q := 2) (ls' := [(2, 1), (0, a), (0, b), (9, 0)]) (st' := [(0, a), (2, 1)]) (by decide +kernel) rfl ?_
  refine zwW_cm C.1 (op := 60) (k' := 138) (n := 1) (kd := 12) (m := 13) (nx := 5) (r := 1) (tl := [(0, a)]) (st' := []) (by decide +kernel) rfl (by decide +kernel) rfl (x138 h C a (by omega)) ?_
  rintro v2 _ ⟨rfl, ⟨rfl, c1⟩ | ⟨Gv2, c1⟩⟩
  · refine zwW_p [(2, 3, 2), (1, 3, 2)] (q := 7) (ls' := [(2, 1), (0, a), (0, b), (2, 0)]) (st' := [(2, 0)]) (by decide +kernel) rfl ?_
    refine zwnu_ne (q := 12) (nx := 10) (by decide +kernel) (by decide) (fun c3 => ?_) (fun c3 => ?_)
    · exfalso; omega
    · refine zwW_p [(0, -1, 0)] (q := 11) (ls' := [(2, 1), (0, a), (0, b), (2, 0)]) (st' := [(0, -1)]) (by decide +kernel) rfl ?_
      refine zwW_ret (nx := 12) (a := 0) (b := 0) (by decide +kernel) rfl (Or.inl rfl) ?_
      exact ⟨rfl, by omega⟩
  · have lv2 := Gv2.1
    have ev2 := c1.2.2
    refine zwW_p [(2, 3, 2), (1, 3, 2)] (q := 7) (ls' := [(2, 1), (0, a), (0, b), (2, v2)]) (st' := [(2, v2)]) (by decide +kernel) rfl ?_
    refine zwnu_ne (q := 12) (nx := 10) (by decide +kernel) (by omega) (fun c4 => ?_) (fun c4 => ?_)
    · refine zwW_p [(1, 2, 0)] (q := 13) (ls' := [(2, 1), (0, a), (0, b), (2, v2)]) (st' := [(0, b)]) (by decide +kernel) rfl ?_
      refine zwW_sw (d := 123) (os := [0, 60, 1, 68, 2, 76, 3, 81, 4, 86, 5, 99, 6, 110, 7, 118]) (by decide +kernel) ?_
      refine ⟨fun c5 => ?_, fun c5 => ?_⟩
      · show zwW _ _ _ 60 _ _ _ _
        refine zwW_p [(1, 3, 2)] (q := 61) (ls' := [(2, 1), (0, a), (0, b), (2, v2)]) (st' := [(2, v2)]) (by decide +kernel) rfl ?_
        refine zwW_get (kd := 1) (bn := 0) (t := 2) (n := 6) (nx := 64) (by decide +kernel) Gv2.2.1 rfl ?_
        obtain ⟨v6, ev6⟩ : ∃ z, z = fld h v2 0 := ⟨_, rfl⟩
        rw [← ev6]
        have Gv6 : gL h v6 := by rw [ev6]; exact Gv2.2.2.1
        have lv6 := Gv6.1
        refine zwX_gi C (kd := 6) (bn := 0) (n := 7) (nx := 67) (by decide +kernel) Gv6.2.1 Gv6.1 rfl ?_
        intro v7 ev7 lv7 uv7
        refine zwW_ret (nx := 68) (a := 0) (b := 0) (by decide +kernel) rfl (Or.inl rfl) ?_
        exact ⟨rfl, by omega⟩
      refine ⟨fun c8 => ?_, fun c8 => ?_⟩
      · show zwW _ _ _ 68 _ _ _ _
        refine zwW_p [(1, 3, 2)] (q := 69) (ls' := [(2, 1), (0, a), (0, b), (2, v2)]) (st' := [(2, v2)]) (by decide +kernel) rfl ?_
        refine zwW_get (kd := 1) (bn := 1) (t := 2) (n := 6) (nx := 72) (by decide +kernel) Gv2.2.1 rfl ?_
        obtain ⟨v9, ev9⟩ : ∃ z, z = fld h v2 1 := ⟨_, rfl⟩
        rw [← ev9]
        have Gv9 : gH h v9 := by rw [ev9]; exact Gv2.2.2.2
        have lv9 := Gv9.1
        refine zwX_gi C (kd := 4) (bn := 0) (n := 19) (nx := 75) (by decide +kernel) Gv9.2.1 Gv9.1 rfl ?_
        intro v10 ev10 lv10 uv10
        refine zwW_ret (nx := 76) (a := 0) (b := 0) (by decide +kernel) rfl (Or.inl rfl) ?_
        exact ⟨rfl, by omega⟩
      refine ⟨fun c11 => ?_, fun c11 => ?_⟩
      · show zwW _ _ _ 76 _ _ _ _
        refine zwW_p [(1, 3, 2)] (q := 77) (ls' := [(2, 1), (0, a), (0, b), (2, v2)]) (st' := [(2, v2)]) (by decide +kernel) rfl ?_
        refine zwX_gi C (kd := 1) (bn := 2) (n := 6) (nx := 80) (by decide +kernel) Gv2.2.1 Gv2.1 rfl ?_
        intro v12 ev12 lv12 uv12
        refine zwW_ret (nx := 81) (a := 0) (b := 0) (by decide +kernel) rfl (Or.inl rfl) ?_
        exact ⟨rfl, by omega⟩
      refine ⟨fun c13 => ?_, fun c13 => ?_⟩
      · show zwW _ _ _ 81 _ _ _ _
        refine zwW_p [(1, 3, 2)] (q := 82) (ls' := [(2, 1), (0, a), (0, b), (2, v2)]) (st' := [(2, v2)]) (by decide +kernel) rfl ?_
        refine zwX_gi C (kd := 1) (bn := 3) (n := 6) (nx := 85) (by decide +kernel) Gv2.2.1 Gv2.1 rfl ?_
        intro v14 ev14 lv14 uv14
        refine zwW_ret (nx := 86) (a := 0) (b := 0) (by decide +kernel) rfl (Or.inl rfl) ?_
        exact ⟨rfl, by omega⟩
      refine ⟨fun c15 => ?_, fun c15 => ?_⟩
      · show zwW _ _ _ 86 _ _ _ _
        refine zwW_p [(1, 3, 2)] (q := 87) (ls' := [(2, 1), (0, a), (0, b), (2, v2)]) (st' := [(2, v2)]) (by decide +kernel) rfl ?_
        refine zwW_get (kd := 1) (bn := 4) (t := 0) (n := 6) (nx := 90) (by decide +kernel) Gv2.2.1 rfl ?_
        obtain ⟨v16, ev16⟩ : ∃ z, z = fld h v2 4 := ⟨_, rfl⟩
        rw [← ev16]
        refine zwif_eq (q := 97) (nx := 93) (by decide +kernel) (fun c17 => ?_) (fun c17 => ?_)
        · refine zwW_p [(0, 0, 0)] (q := 98) (ls' := [(2, 1), (0, a), (0, b), (2, v2)]) (st' := [(0, 0)]) (by decide +kernel) rfl ?_
          refine zwW_ret (nx := 99) (a := 0) (b := 0) (by decide +kernel) rfl (Or.inl rfl) ?_
          exact ⟨rfl, by omega⟩
        · refine zwW_p [(0, 1, 0), (24, 98, 0)] (q := 98) (ls' := [(2, 1), (0, a), (0, b), (2, v2)]) (st' := [(0, 1)]) (by decide +kernel) rfl ?_
          refine zwW_ret (nx := 99) (a := 0) (b := 0) (by decide +kernel) rfl (Or.inl rfl) ?_
          exact ⟨rfl, by omega⟩
      refine ⟨fun c18 => ?_, fun c18 => ?_⟩
      · show zwW _ _ _ 99 _ _ _ _
        refine zwW_p [(1, 3, 2)] (q := 100) (ls' := [(2, 1), (0, a), (0, b), (2, v2)]) (st' := [(2, v2)]) (by decide +kernel) rfl ?_
        refine zwW_get (kd := 1) (bn := 0) (t := 2) (n := 6) (nx := 103) (by decide +kernel) Gv2.2.1 rfl ?_
        obtain ⟨v19, ev19⟩ : ∃ z, z = fld h v2 0 := ⟨_, rfl⟩
        rw [← ev19]
        have Gv19 : gL h v19 := by rw [ev19]; exact Gv2.2.2.1
        have lv19 := Gv19.1
        refine zwW_get (kd := 6) (bn := 1) (t := 2) (n := 7) (nx := 106) (by decide +kernel) Gv19.2.1 rfl ?_
        obtain ⟨v20, ev20⟩ : ∃ z, z = fld h v19 1 := ⟨_, rfl⟩
        rw [← ev20]
        have Gv20 : gH h v20 := by rw [ev20]; exact Gv19.2.2
        have lv20 := Gv20.1
        refine zwX_gi C (kd := 4) (bn := 0) (n := 19) (nx := 109) (by decide +kernel) Gv20.2.1 Gv20.1 rfl ?_
        intro v21 ev21 lv21 uv21
        refine zwW_ret (nx := 110) (a := 0) (b := 0) (by decide +kernel) rfl (Or.inl rfl) ?_
        exact ⟨rfl, by omega⟩
      refine ⟨fun c22 => ?_, fun c22 => ?_⟩
      · show zwW _ _ _ 110 _ _ _ _
        refine zwW_p [(1, 3, 2)] (q := 111) (ls' := [(2, 1), (0, a), (0, b), (2, v2)]) (st' := [(2, v2)]) (by decide +kernel) rfl ?_
        refine zwW_get (kd := 1) (bn := 0) (t := 2) (n := 6) (nx := 114) (by decide +kernel) Gv2.2.1 rfl ?_
        obtain ⟨v23, ev23⟩ : ∃ z, z = fld h v2 0 := ⟨_, rfl⟩
        rw [← ev23]
        have Gv23 : gL h v23 := by rw [ev23]; exact Gv2.2.2.1
        have lv23 := Gv23.1
        refine zwX_gi C (kd := 6) (bn := 2) (n := 7) (nx := 117) (by decide +kernel) Gv23.2.1 Gv23.1 rfl ?_
        intro v24 ev24 lv24 uv24
        refine zwW_ret (nx := 118) (a := 0) (b := 0) (by decide +kernel) rfl (Or.inl rfl) ?_
        exact ⟨rfl, by omega⟩
      refine ⟨fun c25 => ?_, fun c25 => ?_⟩
      · show zwW _ _ _ 118 _ _ _ _
        refine zwW_p [(1, 3, 2)] (q := 119) (ls' := [(2, 1), (0, a), (0, b), (2, v2)]) (st' := [(2, v2)]) (by decide +kernel) rfl ?_
        refine zwX_gi C (kd := 1) (bn := 5) (n := 6) (nx := 122) (by decide +kernel) Gv2.2.1 Gv2.1 rfl ?_
        intro v26 ev26 lv26 uv26
        refine zwW_ret (nx := 123) (a := 0) (b := 0) (by decide +kernel) rfl (Or.inl rfl) ?_
        exact ⟨rfl, by omega⟩
      show zwW _ _ _ 123 _ _ _ _
      refine zwW_p [(0, -1, 0)] (q := 124) (ls' := [(2, 1), (0, a), (0, b), (2, v2)]) (st' := [(0, -1)]) (by decide +kernel) rfl ?_
      refine zwW_ret (nx := 125) (a := 0) (b := 0) (by decide +kernel) rfl (Or.inl rfl) ?_
      exact ⟨rfl, by omega⟩
    · exfalso; omega
def msx45 : Zms := [(20, 20, 0, 3)]
-- WheelLand.ask(I)I
theorem x45 {sc : List Int} (h : Hp) (C : CI h) (a : Int) (q_a : -2147483648 ≤ a ∧ a ≤ 2147483647) (hl : h.length ≤ 999930000) : zwC sc 7 45 [(2, 1), (0, a)] h (zwRt 0 (fun x g => CI g ∧ zXR msx45 (1) (1000) h g ∧ (-2147483648 ≤ x ∧ x ≤ 2147483647) ∧ (((x = fld h 20 2 + 1) ∧ (0 ≤ a ∧ a < fld h 4 2 ∧ fld h 20 2 < 6 ∧ ∀ i : Nat, (i : Int) < fld h 20 2 → zv h 20 i ≠ zv h 4 a.toNat) ∧ (fld g 20 2 = fld h 20 2 + 1) ∧ ((∀ i : Nat, (i : Int) < fld h 20 2 → fld g (fld g 20 1) i = fld h (fld h 20 1) i) ∧ fld g (fld g 20 1) (fld h 20 2).toNat = fld h (fld h 4 1) a.toNat)) ∨ ((x = -1) ∧ (g = h) ∧ (a < 0 ∨ fld h 4 2 ≤ a ∨ 6 ≤ fld h 20 2 ∨ ∃ i : Nat, (i : Int) < fld h 20 2 ∧ zv h 20 i = zv h 4 a.toNat))))) := by
  refine zwC_of (D := 6) 3 (by decide +kernel) rfl (ls := [(2, 1), (0, a), (9, 0)]) rfl ?_
  have X : zXR msx45 0 0 h h := zXR.rf _ _
  refine zwW_p [(1, 0, 2), (1, 1, 0)] (q := 2) (ls' := [(2, 1), (0, a), (9, 0)]) (st' := [(0, a), (2, 1)]) (by decide +kernel) rfl ?_
  refine zwW_cm C.1 (op := 60) (k' := 115) (n := 1) (kd := 12) (m := 13) (nx := 5) (r := 1) (tl := [(0, a)]) (st' := []) (by decide +kernel) rfl (by decide +kernel) rfl (x115 h C a (by omega)) ?_
  rintro v2 _ ⟨rfl, ⟨rfl, c1⟩ | ⟨Gv2, c1⟩⟩
  · refine zwW_p [(2, 2, 2), (1, 2, 2)] (q := 7) (ls' := [(2, 1), (0, a), (2, 0)]) (st' := [(2, 0)]) (by decide +kernel) rfl ?_
    refine zwnu_eq (q := 36) (nx := 10) (by decide +kernel) (by decide) (fun c3 => ?_) (fun c3 => ?_)
    · refine zwW_p [(0, -1, 0)] (q := 37) (ls' := [(2, 1), (0, a), (2, 0)]) (st' := [(0, -1)]) (by decide +kernel) rfl ?_
      refine zwW_ret (nx := 38) (a := 0) (b := 0) (by decide +kernel) rfl (Or.inl rfl) ?_
      exact ⟨C, X.le (by decide) (by decide), by omega, by exact Or.inr ⟨by omega, by rfl, by first | omega | exact Or.inr (Or.inr (Or.inr (by have q := trivial; rwa [show 0 = zv h 4 a.toNat from e0] at q)))⟩⟩
    · exfalso; omega
  · have lv2 := Gv2.1
    have ev2 := c1.2.2
    refine zwW_p [(2, 2, 2), (1, 2, 2)] (q := 7) (ls' := [(2, 1), (0, a), (2, v2)]) (st' := [(2, v2)]) (by decide +kernel) rfl ?_
    refine zwnu_eq (q := 36) (nx := 10) (by decide +kernel) (by omega) (fun c4 => ?_) (fun c4 => ?_)
    · exfalso; omega
    · refine zwW_p [(1, 0, 2)] (q := 11) (ls' := [(2, 1), (0, a), (2, v2)]) (st' := [(2, 1)]) (by decide +kernel) rfl ?_
      refine zwW_gc C.1 (kd := 12) (bn := 9) (n := 13) (c := 19) (nx := 14) (by decide +kernel) ?_
      refine zwW_gc C.1 (kd := 3) (bn := 0) (n := 10) (c := 20) (nx := 17) (by decide +kernel) ?_
      refine zwW_cm C.1 (op := 60) (k' := 96) (n := 0) (kd := 0) (m := 3) (nx := 20) (r := 20) (tl := []) (st' := []) (by decide +kernel) rfl (by decide +kernel) rfl (x96_20 C) ?_
      rintro v5 _ ⟨rfl, ev5⟩
      have bv5 := zLb_20 C
      refine zwW_p [(0, 6, 0)] (q := 22) (ls' := [(2, 1), (0, a), (2, v2)]) (st' := [(0, 6), (0, v5)]) (by decide +kernel) rfl ?_
      refine zwic_ge (q := 36) (nx := 25) (by decide +kernel) (fun c6 => ?_) (fun c6 => ?_)
      · refine zwW_p [(0, -1, 0)] (q := 37) (ls' := [(2, 1), (0, a), (2, v2)]) (st' := [(0, -1)]) (by decide +kernel) rfl ?_
        refine zwW_ret (nx := 38) (a := 0) (b := 0) (by decide +kernel) rfl (Or.inl rfl) ?_
        exact ⟨C, X.le (by decide) (by decide), by omega, by exact Or.inr ⟨by omega, by rfl, by first | omega | exact Or.inr (Or.inr (Or.inr (by have q := trivial; rwa [show v2 = zv h 4 a.toNat from ev2] at q)))⟩⟩
      · refine zwW_p [(1, 0, 2)] (q := 26) (ls' := [(2, 1), (0, a), (2, v2)]) (st' := [(2, 1)]) (by decide +kernel) rfl ?_
        refine zwW_gc C.1 (kd := 12) (bn := 9) (n := 13) (c := 19) (nx := 29) (by decide +kernel) ?_
        refine zwW_p [(1, 2, 2)] (q := 30) (ls' := [(2, 1), (0, a), (2, v2)]) (st' := [(2, v2), (2, 19)]) (by decide +kernel) rfl ?_
        refine zwW_cm C.1 (op := 60) (k' := 140) (n := 1) (kd := 3) (m := 10) (nx := 33) (r := 19) (tl := [(2, v2)]) (st' := []) (by decide +kernel) rfl (by decide +kernel) rfl (x140 h C v2 Gv2) ?_
        rintro x _ ⟨rfl, ⟨rfl, c7⟩ | ⟨rfl, c7⟩⟩
        · refine zwif_eq (q := 38) (nx := 36) (by decide +kernel) (fun c8 => ?_) (fun c8 => ?_)
          · exfalso; omega
          · refine zwW_p [(0, -1, 0)] (q := 37) (ls' := [(2, 1), (0, a), (2, v2)]) (st' := [(0, -1)]) (by decide +kernel) rfl ?_
            refine zwW_ret (nx := 38) (a := 0) (b := 0) (by decide +kernel) rfl (Or.inl rfl) ?_
            exact ⟨C, X.le (by decide) (by decide), by omega, by exact Or.inr ⟨by omega, by rfl, by first | omega | exact Or.inr (Or.inr (Or.inr (by have q := c7; rwa [show v2 = zv h 4 a.toNat from ev2] at q)))⟩⟩
        · refine zwif_eq (q := 38) (nx := 36) (by decide +kernel) (fun c9 => ?_) (fun c9 => ?_)
          · refine zwW_p [(1, 0, 2)] (q := 39) (ls' := [(2, 1), (0, a), (2, v2)]) (st' := [(2, 1)]) (by decide +kernel) rfl ?_
            refine zwW_gc C.1 (kd := 12) (bn := 9) (n := 13) (c := 19) (nx := 42) (by decide +kernel) ?_
            refine zwW_gc C.1 (kd := 3) (bn := 0) (n := 10) (c := 20) (nx := 45) (by decide +kernel) ?_
            refine zwW_p [(1, 2, 2)] (q := 46) (ls' := [(2, 1), (0, a), (2, v2)]) (st' := [(2, v2), (2, 20)]) (by decide +kernel) rfl ?_
            refine zwW_cm C.1 (op := 60) (k' := 100) (n := 1) (kd := 0) (m := 3) (nx := 49) (r := 20) (tl := [(2, v2)]) (st' := []) (by decide +kernel) rfl (by decide +kernel) rfl (x100_20 C Gv2 (by omega) (by omega)) ?_
            rintro x h11 ⟨rfl, Ah11⟩
            have Ch11 := Ah11.1
            have Qh11 : zXR [(20, 20, 0, 3)] (1) (1000) h h11 := Ah11.2.1
            have zh11 : fld h11 20 2 = fld h 20 2 + 1 := Ah11.2.2.1
            have Xh11 : zXR msx45 (1) (1000) h h11 := X.tr (c2 := 1) (s2 := 1000) Qh11 (by decide +kernel) (by decide) (by decide)
            have Gh11_0 : gL h11 v2 := Gv2.x Qh11
            refine zwW_p [(15, 0, 0), (1, 0, 2)] (q := 51) (ls' := [(2, 1), (0, a), (2, v2)]) (st' := [(2, 1)]) (by decide +kernel) rfl ?_
            refine zwW_gc Ch11.1 (kd := 12) (bn := 9) (n := 13) (c := 19) (nx := 54) (by decide +kernel) ?_
            refine zwW_gc Ch11.1 (kd := 3) (bn := 0) (n := 10) (c := 20) (nx := 57) (by decide +kernel) ?_
            refine zwW_cm Ch11.1 (op := 60) (k' := 96) (n := 0) (kd := 0) (m := 3) (nx := 60) (r := 20) (tl := []) (st' := []) (by decide +kernel) rfl (by decide +kernel) rfl (x96_20 Ch11) ?_
            rintro v12 _ ⟨rfl, ev12⟩
            have bv12 := zLb_20 Ch11
            refine zwW_ret (nx := 61) (a := 0) (b := 0) (by decide +kernel) rfl (Or.inl rfl) ?_
            exact ⟨Ch11, Xh11.le (by decide) (by decide), by omega, by exact Or.inl ⟨by omega, by exact ⟨by omega, by omega, by omega, fun i hi => by have q := c7 i hi; rwa [show v2 = zv h 4 a.toNat from ev2] at q⟩, by omega, by exact ⟨Ah11.2.2.2.1, Eq.trans Ah11.2.2.2.2.1 ev2⟩⟩⟩
          · exfalso; omega
def msx47 : Zms := [(20, 20, 0, 3)]
-- WheelLand.clear()I
theorem x47 {sc : List Int} (h : Hp) (C : CI h) : zwC sc 2 47 [(2, 1)] h (zwRt 0 (fun x g => CI g ∧ zXR msx47 (6) (6000) h g ∧ (-2147483648 ≤ x ∧ x ≤ 2147483647) ∧ (x = fld h 20 2 ∧ fld g 20 2 = 0))) := by
  refine zwC_of (D := 1) 2 (by decide +kernel) rfl (ls := [(2, 1), (9, 0)]) rfl ?_
  have X : zXR msx47 0 0 h h := zXR.rf _ _
  refine zwW_p [(1, 0, 2)] (q := 1) (ls' := [(2, 1), (9, 0)]) (st' := [(2, 1)]) (by decide +kernel) rfl ?_
  refine zwW_gc C.1 (kd := 12) (bn := 9) (n := 13) (c := 19) (nx := 4) (by decide +kernel) ?_
  refine zwW_gc C.1 (kd := 3) (bn := 0) (n := 10) (c := 20) (nx := 7) (by decide +kernel) ?_
  refine zwW_cm C.1 (op := 60) (k' := 96) (n := 0) (kd := 0) (m := 3) (nx := 10) (r := 20) (tl := []) (st' := []) (by decide +kernel) rfl (by decide +kernel) rfl (x96_20 C) ?_
  rintro v1 _ ⟨rfl, ev1⟩
  have bv1 := zLb_20 C
  refine zwW_p [(2, 1, 0), (1, 0, 2)] (q := 12) (ls' := [(2, 1), (0, v1)]) (st' := [(2, 1)]) (by decide +kernel) rfl ?_
  refine zwW_gc C.1 (kd := 12) (bn := 9) (n := 13) (c := 19) (nx := 15) (by decide +kernel) ?_
  refine zwW_gc C.1 (kd := 3) (bn := 0) (n := 10) (c := 20) (nx := 18) (by decide +kernel) ?_
  refine zwW_cmv C.1 (op := 60) (k' := 141) (n := 0) (kd := 0) (m := 3) (nx := 21) (r := 20) (tl := []) (st' := []) (by decide +kernel) rfl (by decide +kernel) rfl (x141_20 C) ?_
  rintro h3 ⟨Ch3, Qh3, zh3, oh3⟩
  have zh3 : fld h3 20 2 = 0 := zh3
  have Xh3 : zXR msx47 (6) (6000) h h3 := X.tr (c2 := 6) (s2 := 6000) Qh3 (by decide +kernel) (by decide) (by decide)
  refine zwW_p [(1, 1, 0)] (q := 22) (ls' := [(2, 1), (0, v1)]) (st' := [(0, v1)]) (by decide +kernel) rfl ?_
  refine zwW_ret (nx := 23) (a := 0) (b := 0) (by decide +kernel) rfl (Or.inl rfl) ?_
  exact ⟨Ch3, Xh3.le (by decide) (by decide), by omega, by omega⟩
def msx49 : Zms := [(17, 17, 0, 13), (18, 18, 0, 400), (19, 19, 2, 3), (19, 19, 3, 4), (19, 19, 4, 5), (21, 21, 0, 3), (22, 22, 0, 6), (23, 23, 0, 6), (24, 24, 0, 6), (25, 25, 0, 6), (26, 26, 0, 6)]
-- WheelLand.hands(II)I
theorem x49 {sc : List Int} (h : Hp) (C : CI h) (a b : Int) (q_a : -2147483648 ≤ a ∧ a ≤ 2147483647) (q_b : -2147483648 ≤ b ∧ b ≤ 2147483647) (hl : h.length ≤ 999280000) : zwC sc 72 49 [(2, 1), (0, a), (0, b)] h (zwRt 0 (fun x g => CI g ∧ zXR msx49 (6) (6000) h g ∧ (-2147483648 ≤ x ∧ x ≤ 2147483647))) := by
  refine zwC_of (D := 71) 4 (by decide +kernel) rfl (ls := [(2, 1), (0, a), (0, b), (9, 0)]) rfl ?_
  have X : zXR msx49 0 0 h h := zXR.rf _ _
  refine zwW_p [(1, 0, 2), (1, 1, 0), (1, 2, 0)] (q := 3) (ls' := [(2, 1), (0, a), (0, b), (9, 0)]) (st' := [(0, b), (0, a), (2, 1)]) (by decide +kernel) rfl ?_
  refine zwW_cm C.1 (op := 60) (k' := 142) (n := 2) (kd := 12) (m := 13) (nx := 6) (r := 1) (tl := [(0, a), (0, b)]) (st' := []) (by decide +kernel) rfl (by decide +kernel) rfl (x142 h C a b (by omega) (by omega)) ?_
  rintro x _ ⟨rfl, ⟨rfl, c1⟩ | ⟨rfl, c1⟩⟩
  · refine zwif_ne (q := 11) (nx := 9) (by decide +kernel) (fun c2 => ?_) (fun c2 => ?_)
    · refine zwW_p [(1, 0, 2)] (q := 12) (ls' := [(2, 1), (0, a), (0, b), (9, 0)]) (st' := [(2, 1)]) (by decide +kernel) rfl ?_
      refine zwW_gc C.1 (kd := 12) (bn := 9) (n := 13) (c := 19) (nx := 15) (by decide +kernel) ?_
      refine zwW_cmv C.1 (op := 60) (k' := 143) (n := 0) (kd := 3) (m := 10) (nx := 18) (r := 19) (tl := []) (st' := []) (by decide +kernel) rfl (by decide +kernel) rfl (x143 h C) ?_
      rintro h3 ⟨Ch3, Qh3⟩
      have Xh3 : zXR msx49 (6) (6000) h h3 := X.tr (c2 := 6) (s2 := 6000) Qh3 (by decide +kernel) (by decide) (by decide)
      have th3_3_2 : fld h3 3 2 = fld h 3 2 := Qh3.f (a1 := 3) (a2 := 3) (j1 := 2) (j2 := 3) (by decide +kernel) ⟨by decide, by decide⟩ ⟨by decide, by decide⟩ ⟨by decide, by decide⟩
      have th3_20_2 : fld h3 20 2 = fld h 20 2 := Qh3.f (a1 := 20) (a2 := 20) (j1 := 2) (j2 := 3) (by decide +kernel) ⟨by decide, by decide⟩ ⟨by decide, by decide⟩ ⟨by decide, by decide⟩
      refine zwW_p [(0, 0, 0), (2, 3, 0)] (q := 20) (ls' := [(2, 1), (0, a), (0, b), (0, 0)]) (st' := []) (by decide +kernel) rfl ?_
      have L4 : ∀ (n : Nat) (v3L4 : Int) (hL4 : Hp), n = ((1000 - v3L4)).toNat → (0 ≤ v3L4 ∧ v3L4 ≤ 1000) → CI hL4 → zXR msx49 (6) (6000) h hL4 → zwW sc (71) 49 20 [(2, 1), (0, a), (0, b), (0, v3L4)] [] hL4 (zwRt 0 (fun x g => CI g ∧ zXR msx49 (6) (6000) h g ∧ (-2147483648 ≤ x ∧ x ≤ 2147483647))) := by
        intro n
        induction n using Nat.strongRecOn with
        | ind n IHL4 =>
          intro v3L4 hL4 hnL4 iL4_0 ChL4 XhL4
          refine zwW_p [(1, 3, 0), (1, 0, 2)] (q := 22) (ls' := [(2, 1), (0, a), (0, b), (0, v3L4)]) (st' := [(2, 1), (0, v3L4)]) (by decide +kernel) rfl ?_
          refine zwW_gc ChL4.1 (kd := 12) (bn := 3) (n := 13) (c := 3) (nx := 25) (by decide +kernel) ?_
          refine zwW_cm ChL4.1 (op := 60) (k' := 96) (n := 0) (kd := 0) (m := 3) (nx := 28) (r := 3) (tl := []) (st' := [(0, v3L4)]) (by decide +kernel) rfl (by decide +kernel) rfl (x96_3 ChL4) ?_
          rintro v5 _ ⟨rfl, ev5⟩
          have bv5 := zLb_3 ChL4
          refine zwic_ge (q := 63) (nx := 31) (by decide +kernel) (fun c6 => ?_) (fun c6 => ?_)
          · refine zwW_p [(0, 0, 0), (2, 3, 0)] (q := 65) (ls' := [(2, 1), (0, a), (0, b), (0, 0)]) (st' := []) (by decide +kernel) rfl ?_
            have L7 : ∀ (n : Nat) (v3L7 : Int) (hL7 : Hp), n = ((1000 - v3L7)).toNat → (0 ≤ v3L7 ∧ v3L7 ≤ 1000) → CI hL7 → zXR msx49 (6) (6000) h hL7 → zwW sc (71) 49 65 [(2, 1), (0, a), (0, b), (0, v3L7)] [] hL7 (zwRt 0 (fun x g => CI g ∧ zXR msx49 (6) (6000) h g ∧ (-2147483648 ≤ x ∧ x ≤ 2147483647))) := by
              intro n
              induction n using Nat.strongRecOn with
              | ind n IHL7 =>
                intro v3L7 hL7 hnL7 iL7_0 ChL7 XhL7
                refine zwW_p [(1, 3, 0), (1, 0, 2)] (q := 67) (ls' := [(2, 1), (0, a), (0, b), (0, v3L7)]) (st' := [(2, 1), (0, v3L7)]) (by decide +kernel) rfl ?_
                refine zwW_gc ChL7.1 (kd := 12) (bn := 9) (n := 13) (c := 19) (nx := 70) (by decide +kernel) ?_
                refine zwW_gc ChL7.1 (kd := 3) (bn := 0) (n := 10) (c := 20) (nx := 73) (by decide +kernel) ?_
                refine zwW_cm ChL7.1 (op := 60) (k' := 96) (n := 0) (kd := 0) (m := 3) (nx := 76) (r := 20) (tl := []) (st' := [(0, v3L7)]) (by decide +kernel) rfl (by decide +kernel) rfl (x96_20 ChL7) ?_
                rintro v8 _ ⟨rfl, ev8⟩
                have bv8 := zLb_20 ChL7
                refine zwic_ge (q := 104) (nx := 79) (by decide +kernel) (fun c9 => ?_) (fun c9 => ?_)
                · refine zwW_p [(1, 0, 2)] (q := 105) (ls' := [(2, 1), (0, a), (0, b), (0, v3L7)]) (st' := [(2, 1)]) (by decide +kernel) rfl ?_
                  refine zwW_gc ChL7.1 (kd := 12) (bn := 9) (n := 13) (c := 19) (nx := 108) (by decide +kernel) ?_
                  refine zwW_cmv ChL7.1 (op := 60) (k' := 146) (n := 0) (kd := 3) (m := 10) (nx := 111) (r := 19) (tl := []) (st' := []) (by decide +kernel) rfl (by decide +kernel) rfl (x146 hL7 ChL7) ?_
                  rintro h10 ⟨Ch10, Qh10⟩
                  have Xh10 : zXR msx49 (6) (6000) h h10 := XhL7.tr (c2 := 6) (s2 := 6000) Qh10 (by decide +kernel) (by decide) (by decide)
                  have th10_3_2 : fld h10 3 2 = fld hL7 3 2 := Qh10.f (a1 := 3) (a2 := 3) (j1 := 2) (j2 := 3) (by decide +kernel) ⟨by decide, by decide⟩ ⟨by decide, by decide⟩ ⟨by decide, by decide⟩
                  have th10_20_2 : fld h10 20 2 = fld hL7 20 2 := Qh10.f (a1 := 20) (a2 := 20) (j1 := 2) (j2 := 3) (by decide +kernel) ⟨by decide, by decide⟩ ⟨by decide, by decide⟩ ⟨by decide, by decide⟩
                  refine zwW_p [(1, 2, 0)] (q := 112) (ls' := [(2, 1), (0, a), (0, b), (0, v3L7)]) (st' := [(0, b)]) (by decide +kernel) rfl ?_
                  refine zwW_sw (d := 164) (os := [0, 140, 1, 148, 2, 156]) (by decide +kernel) ?_
                  refine ⟨fun c11 => ?_, fun c11 => ?_⟩
                  · show zwW _ _ _ 140 _ _ _ _
                    refine zwW_p [(1, 0, 2)] (q := 141) (ls' := [(2, 1), (0, a), (0, b), (0, v3L7)]) (st' := [(2, 1)]) (by decide +kernel) rfl ?_
                    refine zwW_gc Ch10.1 (kd := 12) (bn := 9) (n := 13) (c := 19) (nx := 144) (by decide +kernel) ?_
                    refine zwW_gs Ch10.1 (kd := 3) (bn := 2) (n := 10) (t := 0) (lo := -2147483648) (hi := 2147483647) (nx := 147) (by decide +kernel) ?_
                    intro v12 ev12 lv12 uv12
                    refine zwW_ret (nx := 148) (a := 0) (b := 0) (by decide +kernel) rfl (Or.inl rfl) ?_
                    exact ⟨Ch10, Xh10.le (by decide) (by decide), by omega⟩
                  refine ⟨fun c13 => ?_, fun c13 => ?_⟩
                  · show zwW _ _ _ 148 _ _ _ _
                    refine zwW_p [(1, 0, 2)] (q := 149) (ls' := [(2, 1), (0, a), (0, b), (0, v3L7)]) (st' := [(2, 1)]) (by decide +kernel) rfl ?_
                    refine zwW_gc Ch10.1 (kd := 12) (bn := 9) (n := 13) (c := 19) (nx := 152) (by decide +kernel) ?_
                    refine zwW_gs Ch10.1 (kd := 3) (bn := 3) (n := 10) (t := 0) (lo := -2147483648) (hi := 2147483647) (nx := 155) (by decide +kernel) ?_
                    intro v14 ev14 lv14 uv14
                    refine zwW_ret (nx := 156) (a := 0) (b := 0) (by decide +kernel) rfl (Or.inl rfl) ?_
                    exact ⟨Ch10, Xh10.le (by decide) (by decide), by omega⟩
                  refine ⟨fun c15 => ?_, fun c15 => ?_⟩
                  · show zwW _ _ _ 156 _ _ _ _
                    refine zwW_p [(1, 0, 2)] (q := 157) (ls' := [(2, 1), (0, a), (0, b), (0, v3L7)]) (st' := [(2, 1)]) (by decide +kernel) rfl ?_
                    refine zwW_gc Ch10.1 (kd := 12) (bn := 9) (n := 13) (c := 19) (nx := 160) (by decide +kernel) ?_
                    refine zwW_gs Ch10.1 (kd := 3) (bn := 4) (n := 10) (t := 0) (lo := -2147483648) (hi := 2147483647) (nx := 163) (by decide +kernel) ?_
                    intro v16 ev16 lv16 uv16
                    refine zwW_ret (nx := 164) (a := 0) (b := 0) (by decide +kernel) rfl (Or.inl rfl) ?_
                    exact ⟨Ch10, Xh10.le (by decide) (by decide), by omega⟩
                  show zwW _ _ _ 164 _ _ _ _
                  refine zwW_p [(1, 0, 2)] (q := 165) (ls' := [(2, 1), (0, a), (0, b), (0, v3L7)]) (st' := [(2, 1)]) (by decide +kernel) rfl ?_
                  refine zwW_gc Ch10.1 (kd := 12) (bn := 9) (n := 13) (c := 19) (nx := 168) (by decide +kernel) ?_
                  refine zwW_p [(1, 2, 0), (0, 10, 0)] (q := 171) (ls' := [(2, 1), (0, a), (0, b), (0, v3L7)]) (st' := [(0, 10), (0, b), (2, 19)]) (by decide +kernel) rfl ?_
                  refine zwW_sbw (nx := 172) (by decide +kernel) ?_
                  intro v17 ev17 lv17 uv17
                  refine zwW_cm Ch10.1 (op := 60) (k' := 147) (n := 1) (kd := 3) (m := 10) (nx := 175) (r := 19) (tl := [(0, v17)]) (st' := []) (by decide +kernel) rfl (by decide +kernel) rfl (x147 h10 Ch10 v17 (by omega)) ?_
                  rintro v18 _ ⟨rfl, f19⟩
                  refine zwW_ret (nx := 176) (a := 0) (b := 0) (by decide +kernel) rfl (Or.inl rfl) ?_
                  exact ⟨Ch10, Xh10.le (by decide) (by decide), by omega⟩
                · refine zwW_p [(1, 0, 2), (1, 3, 0), (1, 0, 2)] (q := 82) (ls' := [(2, 1), (0, a), (0, b), (0, v3L7)]) (st' := [(2, 1), (0, v3L7), (2, 1)]) (by decide +kernel) rfl ?_
                  refine zwW_gc ChL7.1 (kd := 12) (bn := 9) (n := 13) (c := 19) (nx := 85) (by decide +kernel) ?_
                  refine zwW_gc ChL7.1 (kd := 3) (bn := 0) (n := 10) (c := 20) (nx := 88) (by decide +kernel) ?_
                  refine zwW_p [(1, 3, 0)] (q := 89) (ls' := [(2, 1), (0, a), (0, b), (0, v3L7)]) (st' := [(0, v3L7), (2, 20), (0, v3L7), (2, 1)]) (by decide +kernel) rfl ?_
                  refine zwW_cm ChL7.1 (op := 60) (k' := 123) (n := 1) (kd := 0) (m := 3) (nx := 92) (r := 20) (tl := [(0, v3L7)]) (st' := [(0, v3L7), (2, 1)]) (by decide +kernel) rfl (by decide +kernel) rfl (x123_20 ChL7 (i := v3L7) ⟨by omega, by omega⟩) ?_
                  rintro v20 _ ⟨rfl, Gv20, ev20⟩
                  have lv20 := Gv20.1
                  refine zwW_cast (a := 6) (kd := 6) (n := 7) (nx := 95) (by decide +kernel) rfl (Or.inr Gv20.2.1) ?_
                  refine zwW_cmv ChL7.1 (op := 60) (k' := 145) (n := 2) (kd := 12) (m := 13) (nx := 98) (r := 1) (tl := [(0, v3L7), (2, v20)]) (st' := []) (by decide +kernel) rfl (by decide +kernel) rfl (x145 hL7 ChL7 v3L7 v20 (by omega) Gv20) ?_
                  rintro h21 ⟨Ch21, Qh21⟩
                  have Xh21 : zXR msx49 (6) (6000) h h21 := XhL7.tr (c2 := 6) (s2 := 6000) Qh21 (by decide +kernel) (by decide) (by decide)
                  have th21_3_2 : fld h21 3 2 = fld hL7 3 2 := Qh21.f (a1 := 3) (a2 := 3) (j1 := 2) (j2 := 3) (by decide +kernel) ⟨by decide, by decide⟩ ⟨by decide, by decide⟩ ⟨by decide, by decide⟩
                  have th21_20_2 : fld h21 20 2 = fld hL7 20 2 := Qh21.f (a1 := 20) (a2 := 20) (j1 := 2) (j2 := 3) (by decide +kernel) ⟨by decide, by decide⟩ ⟨by decide, by decide⟩ ⟨by decide, by decide⟩
                  refine zwW_inc (i := 3) (c := 1) (x := v3L7) (nx := 101) (by decide +kernel) rfl ⟨by omega, by omega⟩ (ls' := [(2, 1), (0, a), (0, b), (0, (v3L7 + 1))]) rfl ?_
                  refine zwW_p [(24, 65, 0)] (q := 65) (ls' := [(2, 1), (0, a), (0, b), (0, (v3L7 + 1))]) (st' := []) (by decide +kernel) rfl ?_
                  exact IHL7 ((1000 - (v3L7 + 1))).toNat (by omega) (v3L7 + 1) h21 rfl (by omega) Ch21 (Xh21.le (by decide) (by decide))
            exact L7 _ 0 hL4 rfl (by omega) ChL4 (XhL4.le (by decide) (by decide))
          · refine zwW_p [(1, 1, 0), (1, 3, 0)] (q := 33) (ls' := [(2, 1), (0, a), (0, b), (0, v3L4)]) (st' := [(0, v3L4), (0, a)]) (by decide +kernel) rfl ?_
            refine zwW_any2 (a := 9) (nx := 34) (by decide +kernel) rfl ⟨by omega, by omega⟩ (Or.inr ⟨by decide, by decide⟩) ?_
            intro v22 lv22 uv22
            refine zwW_p [(0, 1, 0)] (q := 35) (ls' := [(2, 1), (0, a), (0, b), (0, v3L4)]) (st' := [(0, 1), (0, v22)]) (by decide +kernel) rfl ?_
            refine zwW_any2 (a := 5) (nx := 36) (by decide +kernel) rfl ⟨by omega, by omega⟩ (Or.inr ⟨by decide, by decide⟩) ?_
            intro v23 lv23 uv23
            refine zwif_eq (q := 57) (nx := 39) (by decide +kernel) (fun c24 => ?_) (fun c24 => ?_)
            · refine zwW_inc (i := 3) (c := 1) (x := v3L4) (nx := 60) (by decide +kernel) rfl ⟨by omega, by omega⟩ (ls' := [(2, 1), (0, a), (0, b), (0, (v3L4 + 1))]) rfl ?_
              refine zwW_p [(24, 20, 0)] (q := 20) (ls' := [(2, 1), (0, a), (0, b), (0, (v3L4 + 1))]) (st' := []) (by decide +kernel) rfl ?_
              exact IHL4 ((1000 - (v3L4 + 1))).toNat (by omega) (v3L4 + 1) hL4 rfl (by omega) ChL4 (XhL4.le (by decide) (by decide))
            · refine zwW_p [(1, 0, 2)] (q := 40) (ls' := [(2, 1), (0, a), (0, b), (0, v3L4)]) (st' := [(2, 1)]) (by decide +kernel) rfl ?_
              refine zwW_gc ChL4.1 (kd := 12) (bn := 9) (n := 13) (c := 19) (nx := 43) (by decide +kernel) ?_
              refine zwW_p [(1, 0, 2)] (q := 44) (ls' := [(2, 1), (0, a), (0, b), (0, v3L4)]) (st' := [(2, 1), (2, 19)]) (by decide +kernel) rfl ?_
              refine zwW_gc ChL4.1 (kd := 12) (bn := 3) (n := 13) (c := 3) (nx := 47) (by decide +kernel) ?_
              refine zwW_p [(1, 3, 0)] (q := 48) (ls' := [(2, 1), (0, a), (0, b), (0, v3L4)]) (st' := [(0, v3L4), (2, 3), (2, 19)]) (by decide +kernel) rfl ?_
              refine zwW_cm ChL4.1 (op := 60) (k' := 123) (n := 1) (kd := 0) (m := 3) (nx := 51) (r := 3) (tl := [(0, v3L4)]) (st' := [(2, 19)]) (by decide +kernel) rfl (by decide +kernel) rfl (x123_3 ChL4 (i := v3L4) ⟨by omega, by omega⟩) ?_
              rintro v25 _ ⟨rfl, Gv25, ev25⟩
              have lv25 := Gv25.1
              refine zwW_cast (a := 4) (kd := 4) (n := 19) (nx := 54) (by decide +kernel) rfl (Or.inr Gv25.2.1) ?_
              refine zwW_cmv ChL4.1 (op := 60) (k' := 144) (n := 1) (kd := 3) (m := 10) (nx := 57) (r := 19) (tl := [(2, v25)]) (st' := []) (by decide +kernel) rfl (by decide +kernel) rfl (x144 hL4 ChL4 v25 Gv25 (by have := XhL4.hl C ChL4 (by decide) hl; omega)) ?_
              rintro h26 ⟨Ch26, Qh26⟩
              have Xh26 : zXR msx49 (6) (6000) h h26 := XhL4.tr (c2 := 6) (s2 := 6000) Qh26 (by decide +kernel) (by decide) (by decide)
              have th26_3_2 : fld h26 3 2 = fld hL4 3 2 := Qh26.f (a1 := 3) (a2 := 3) (j1 := 2) (j2 := 3) (by decide +kernel) ⟨by decide, by decide⟩ ⟨by decide, by decide⟩ ⟨by decide, by decide⟩
              have th26_20_2 : fld h26 20 2 = fld hL4 20 2 := Qh26.f (a1 := 20) (a2 := 20) (j1 := 2) (j2 := 3) (by decide +kernel) ⟨by decide, by decide⟩ ⟨by decide, by decide⟩ ⟨by decide, by decide⟩
              refine zwW_inc (i := 3) (c := 1) (x := v3L4) (nx := 60) (by decide +kernel) rfl ⟨by omega, by omega⟩ (ls' := [(2, 1), (0, a), (0, b), (0, (v3L4 + 1))]) rfl ?_
              refine zwW_p [(24, 20, 0)] (q := 20) (ls' := [(2, 1), (0, a), (0, b), (0, (v3L4 + 1))]) (st' := []) (by decide +kernel) rfl ?_
              exact IHL4 ((1000 - (v3L4 + 1))).toNat (by omega) (v3L4 + 1) h26 rfl (by omega) Ch26 (Xh26.le (by decide) (by decide))
      exact L4 _ 0 h3 rfl (by omega) Ch3 (Xh3.le (by decide) (by decide))
    · exfalso; omega
  · refine zwif_ne (q := 11) (nx := 9) (by decide +kernel) (fun c27 => ?_) (fun c27 => ?_)
    · exfalso; omega
    · refine zwW_p [(0, -1, 0)] (q := 10) (ls' := [(2, 1), (0, a), (0, b), (9, 0)]) (st' := [(0, -1)]) (by decide +kernel) rfl ?_
      refine zwW_ret (nx := 11) (a := 0) (b := 0) (by decide +kernel) rfl (Or.inl rfl) ?_
      exact ⟨C, X.le (by decide) (by decide), by omega⟩
def msx51 : Zms := [(1001, 1001, 5, 6), (1011, 1011, 5, 6), (1011, 1011, 6, 7), (1011, 1011, 12, 13)]
-- WheelLand.bring(II)I
theorem x51 {sc : List Int} (h : Hp) (C : CI h) (a b : Int) (q_a : -2147483648 ≤ a ∧ a ≤ 2147483647) (q_b : -2147483648 ≤ b ∧ b ≤ 2147483647) : zwC sc 6 51 [(2, 1), (0, a), (0, b)] h (zwRt 0 (fun x g => CI g ∧ zXR msx51 (0) (0) h g ∧ (-2147483648 ≤ x ∧ x ≤ 2147483647))) := by
  refine zwC_of (D := 5) 5 (by decide +kernel) rfl (ls := [(2, 1), (0, a), (0, b), (9, 0), (9, 0)]) rfl ?_
  have X : zXR msx51 0 0 h h := zXR.rf _ _
  refine zwW_p [(1, 0, 2), (1, 1, 0)] (q := 2) (ls' := [(2, 1), (0, a), (0, b), (9, 0), (9, 0)]) (st' := [(0, a), (2, 1)]) (by decide +kernel) rfl ?_
  refine zwW_cm C.1 (op := 60) (k' := 138) (n := 1) (kd := 12) (m := 13) (nx := 5) (r := 1) (tl := [(0, a)]) (st' := []) (by decide +kernel) rfl (by decide +kernel) rfl (x138 h C a (by omega)) ?_
  rintro v2 _ ⟨rfl, ⟨rfl, c1⟩ | ⟨Gv2, c1⟩⟩
  · refine zwW_p [(2, 3, 2), (1, 0, 2), (1, 2, 0)] (q := 8) (ls' := [(2, 1), (0, a), (0, b), (2, 0), (9, 0)]) (st' := [(0, b), (2, 1)]) (by decide +kernel) rfl ?_
    refine zwW_cm C.1 (op := 60) (k' := 102) (n := 1) (kd := 12) (m := 13) (nx := 11) (r := 1) (tl := [(0, b)]) (st' := []) (by decide +kernel) rfl (by decide +kernel) rfl (x102 h C b (by omega)) ?_
    rintro v4 _ ⟨rfl, ⟨rfl, c3⟩ | ⟨Gv4, c3⟩⟩
    · refine zwW_p [(2, 4, 2), (1, 3, 2)] (q := 14) (ls' := [(2, 1), (0, a), (0, b), (2, 0), (2, 0)]) (st' := [(2, 0)]) (by decide +kernel) rfl ?_
      refine zwnu_eq (q := 63) (nx := 17) (by decide +kernel) (by decide) (fun c5 => ?_) (fun c5 => ?_)
      · refine zwW_p [(0, -1, 0)] (q := 64) (ls' := [(2, 1), (0, a), (0, b), (2, 0), (2, 0)]) (st' := [(0, -1)]) (by decide +kernel) rfl ?_
        refine zwW_ret (nx := 65) (a := 0) (b := 0) (by decide +kernel) rfl (Or.inl rfl) ?_
        exact ⟨C, X.le (by decide) (by decide), by omega⟩
      · exfalso; omega
    · have lv4 := Gv4.1
      have ev4 := c3.2.2
      refine zwW_p [(2, 4, 2), (1, 3, 2)] (q := 14) (ls' := [(2, 1), (0, a), (0, b), (2, 0), (2, v4)]) (st' := [(2, 0)]) (by decide +kernel) rfl ?_
      refine zwnu_eq (q := 63) (nx := 17) (by decide +kernel) (by decide) (fun c6 => ?_) (fun c6 => ?_)
      · refine zwW_p [(0, -1, 0)] (q := 64) (ls' := [(2, 1), (0, a), (0, b), (2, 0), (2, v4)]) (st' := [(0, -1)]) (by decide +kernel) rfl ?_
        refine zwW_ret (nx := 65) (a := 0) (b := 0) (by decide +kernel) rfl (Or.inl rfl) ?_
        exact ⟨C, X.le (by decide) (by decide), by omega⟩
      · exfalso; omega
  · have lv2 := Gv2.1
    have ev2 := c1.2.2
    refine zwW_p [(2, 3, 2), (1, 0, 2), (1, 2, 0)] (q := 8) (ls' := [(2, 1), (0, a), (0, b), (2, v2), (9, 0)]) (st' := [(0, b), (2, 1)]) (by decide +kernel) rfl ?_
    refine zwW_cm C.1 (op := 60) (k' := 102) (n := 1) (kd := 12) (m := 13) (nx := 11) (r := 1) (tl := [(0, b)]) (st' := []) (by decide +kernel) rfl (by decide +kernel) rfl (x102 h C b (by omega)) ?_
    rintro v8 _ ⟨rfl, ⟨rfl, c7⟩ | ⟨Gv8, c7⟩⟩
    · refine zwW_p [(2, 4, 2), (1, 3, 2)] (q := 14) (ls' := [(2, 1), (0, a), (0, b), (2, v2), (2, 0)]) (st' := [(2, v2)]) (by decide +kernel) rfl ?_
      refine zwnu_eq (q := 63) (nx := 17) (by decide +kernel) (by omega) (fun c9 => ?_) (fun c9 => ?_)
      · exfalso; omega
      · refine zwW_p [(1, 4, 2)] (q := 19) (ls' := [(2, 1), (0, a), (0, b), (2, v2), (2, 0)]) (st' := [(2, 0)]) (by decide +kernel) rfl ?_
        refine zwnu_eq (q := 63) (nx := 22) (by decide +kernel) (by decide) (fun c10 => ?_) (fun c10 => ?_)
        · refine zwW_p [(0, -1, 0)] (q := 64) (ls' := [(2, 1), (0, a), (0, b), (2, v2), (2, 0)]) (st' := [(0, -1)]) (by decide +kernel) rfl ?_
          refine zwW_ret (nx := 65) (a := 0) (b := 0) (by decide +kernel) rfl (Or.inl rfl) ?_
          exact ⟨C, X.le (by decide) (by decide), by omega⟩
        · exfalso; omega
    · have lv8 := Gv8.1
      have ev8 := c7.2.2
      refine zwW_p [(2, 4, 2), (1, 3, 2)] (q := 14) (ls' := [(2, 1), (0, a), (0, b), (2, v2), (2, v8)]) (st' := [(2, v2)]) (by decide +kernel) rfl ?_
      refine zwnu_eq (q := 63) (nx := 17) (by decide +kernel) (by omega) (fun c11 => ?_) (fun c11 => ?_)
      · exfalso; omega
      · refine zwW_p [(1, 4, 2)] (q := 19) (ls' := [(2, 1), (0, a), (0, b), (2, v2), (2, v8)]) (st' := [(2, v8)]) (by decide +kernel) rfl ?_
        refine zwnu_eq (q := 63) (nx := 22) (by decide +kernel) (by omega) (fun c12 => ?_) (fun c12 => ?_)
        · exfalso; omega
        · refine zwW_p [(1, 3, 2)] (q := 23) (ls' := [(2, 1), (0, a), (0, b), (2, v2), (2, v8)]) (st' := [(2, v2)]) (by decide +kernel) rfl ?_
          refine zwX_gi C (kd := 1) (bn := 5) (n := 6) (nx := 26) (by decide +kernel) Gv2.2.1 Gv2.1 rfl ?_
          intro v13 ev13 lv13 uv13
          refine zwW_p [(0, -1, 0)] (q := 27) (ls' := [(2, 1), (0, a), (0, b), (2, v2), (2, v8)]) (st' := [(0, -1), (0, v13)]) (by decide +kernel) rfl ?_
          refine zwic_ne (q := 63) (nx := 30) (by decide +kernel) (fun c14 => ?_) (fun c14 => ?_)
          · refine zwW_p [(0, -1, 0)] (q := 64) (ls' := [(2, 1), (0, a), (0, b), (2, v2), (2, v8)]) (st' := [(0, -1)]) (by decide +kernel) rfl ?_
            refine zwW_ret (nx := 65) (a := 0) (b := 0) (by decide +kernel) rfl (Or.inl rfl) ?_
            exact ⟨C, X.le (by decide) (by decide), by omega⟩
          · refine zwW_p [(1, 0, 2), (1, 3, 2)] (q := 32) (ls' := [(2, 1), (0, a), (0, b), (2, v2), (2, v8)]) (st' := [(2, v2), (2, 1)]) (by decide +kernel) rfl ?_
            refine zwW_get (kd := 1) (bn := 1) (t := 2) (n := 6) (nx := 35) (by decide +kernel) Gv2.2.1 rfl ?_
            obtain ⟨v15, ev15⟩ : ∃ z, z = fld h v2 1 := ⟨_, rfl⟩
            rw [← ev15]
            have Gv15 : gH h v15 := by rw [ev15]; exact Gv2.2.2.2
            have lv15 := Gv15.1
            refine zwW_get (kd := 4) (bn := 1) (t := 2) (n := 19) (nx := 38) (by decide +kernel) Gv15.2.1 rfl ?_
            obtain ⟨v16, ev16⟩ : ∃ z, z = fld h v15 1 := ⟨_, rfl⟩
            rw [← ev16]
            have Gv16 : gV h v16 := by rw [ev16]; exact Gv15.2.2
            have lv16 := Gv16.1
            refine zwW_p [(1, 4, 2)] (q := 40) (ls' := [(2, 1), (0, a), (0, b), (2, v2), (2, v8)]) (st' := [(2, v8), (2, v16), (2, 1)]) (by decide +kernel) rfl ?_
            refine zwW_cm C.1 (op := 60) (k' := 105) (n := 2) (kd := 12) (m := 13) (nx := 43) (r := 1) (tl := [(2, v16), (2, v8)]) (st' := []) (by decide +kernel) rfl (by decide +kernel) rfl (x105 h C v16 v8 (Or.inr Gv16) (Or.inr Gv8)) ?_
            rintro v17 _ ⟨rfl, f18, f19⟩
            refine zwW_p [(0, -1, 0)] (q := 44) (ls' := [(2, 1), (0, a), (0, b), (2, v2), (2, v8)]) (st' := [(0, -1), (0, v17)]) (by decide +kernel) rfl ?_
            refine zwic_eq (q := 63) (nx := 47) (by decide +kernel) (fun c20 => ?_) (fun c20 => ?_)
            · refine zwW_p [(0, -1, 0)] (q := 64) (ls' := [(2, 1), (0, a), (0, b), (2, v2), (2, v8)]) (st' := [(0, -1)]) (by decide +kernel) rfl ?_
              refine zwW_ret (nx := 65) (a := 0) (b := 0) (by decide +kernel) rfl (Or.inl rfl) ?_
              exact ⟨C, X.le (by decide) (by decide), by omega⟩
            · refine zwW_p [(1, 4, 2), (1, 3, 2)] (q := 50) (ls' := [(2, 1), (0, a), (0, b), (2, v2), (2, v8)]) (st' := [(2, v2), (2, v8)]) (by decide +kernel) rfl ?_
              refine zwX_gi C (kd := 1) (bn := 3) (n := 6) (nx := 53) (by decide +kernel) Gv2.2.1 Gv2.1 rfl ?_
              intro v21 ev21 lv21 uv21
              refine zwW_p [(1, 3, 2)] (q := 54) (ls' := [(2, 1), (0, a), (0, b), (2, v2), (2, v8)]) (st' := [(2, v2), (0, v21), (2, v8)]) (by decide +kernel) rfl ?_
              refine zwW_get (kd := 1) (bn := 4) (t := 0) (n := 6) (nx := 57) (by decide +kernel) Gv2.2.1 rfl ?_
              obtain ⟨v22, ev22⟩ : ∃ z, z = fld h v2 4 := ⟨_, rfl⟩
              rw [← ev22]
              refine zwW_cv (op := 60) (k' := 149) (n := 2) (kd := 11) (m := 17) (nx := 60) (r := v8) (tl := [(0, v21), (0, v22)]) (st' := []) (by decide +kernel) rfl (by decide +kernel) Gv8.2.1 (x149 h C v8 v21 v22 Gv8 (by omega)) rfl ?_
              rintro x _ ⟨rfl, ⟨rfl, c23⟩ | ⟨rfl, c23⟩⟩
              · refine zwif_ne (q := 65) (nx := 63) (by decide +kernel) (fun c24 => ?_) (fun c24 => ?_)
                · refine zwW_p [(1, 3, 2), (1, 2, 0)] (q := 67) (ls' := [(2, 1), (0, a), (0, b), (2, v2), (2, v8)]) (st' := [(0, b), (2, v2)]) (by decide +kernel) rfl ?_
                  refine zwX_pi C (kd := 1) (bn := 5) (n := 6) (nx := 70) (by decide +kernel) Gv2.2.1 Gv2.1 ⟨by omega, by omega⟩ ?_
                  rintro h25 eh25 Ch25 Qh25
                  have Xh25 : zXR msx51 (0) (0) h h25 := X.tr (c2 := 0) (s2 := 0) Qh25 (by decide +kernel) (by decide) (by decide)
                  have Gh25_0 : gC h25 v2 := Gv2.x Qh25
                  have Gh25_1 : gV h25 v8 := Gv8.x Qh25
                  refine zwW_p [(1, 4, 2), (1, 3, 2)] (q := 73) (ls' := [(2, 1), (0, a), (0, b), (2, v2), (2, v8)]) (st' := [(2, v2), (2, v8)]) (by decide +kernel) rfl ?_
                  refine zwX_gi Ch25 (kd := 1) (bn := 3) (n := 6) (nx := 76) (by decide +kernel) Gh25_0.2.1 Gh25_0.1 rfl ?_
                  intro v26 ev26 lv26 uv26
                  refine zwW_p [(1, 3, 2)] (q := 77) (ls' := [(2, 1), (0, a), (0, b), (2, v2), (2, v8)]) (st' := [(2, v2), (0, v26), (2, v8)]) (by decide +kernel) rfl ?_
                  refine zwW_get (kd := 1) (bn := 4) (t := 0) (n := 6) (nx := 80) (by decide +kernel) Gh25_0.2.1 rfl ?_
                  obtain ⟨v27, ev27⟩ : ∃ z, z = fld h25 v2 4 := ⟨_, rfl⟩
                  rw [← ev27]
                  refine zwW_cvv (op := 60) (k' := 150) (n := 2) (kd := 11) (m := 17) (nx := 83) (r := v8) (tl := [(0, v26), (0, v27)]) (st' := []) (by decide +kernel) rfl (by decide +kernel) Gh25_1.2.1 (x150 h25 Ch25 v8 v26 v27 Gh25_1 (by omega)) rfl ?_
                  rintro h28 ⟨Ch28, Qh28⟩
                  have Xh28 : zXR msx51 (0) (0) h h28 := Xh25.tr (c2 := 0) (s2 := 0) Qh28 (by decide +kernel) (by decide) (by decide)
                  have Gh28_0 : gC h28 v2 := Gh25_0.x Qh28
                  have Gh28_1 : gV h28 v8 := Gh25_1.x Qh28
                  refine zwW_p [(1, 4, 2)] (q := 85) (ls' := [(2, 1), (0, a), (0, b), (2, v2), (2, v8)]) (st' := [(2, v8)]) (by decide +kernel) rfl ?_
                  refine zwX_gi Ch28 (kd := 11) (bn := 5) (n := 17) (nx := 88) (by decide +kernel) Gh28_1.2.1 Gh28_1.1 rfl ?_
                  intro v29 ev29 lv29 uv29
                  refine zwW_p [(1, 4, 2)] (q := 90) (ls' := [(2, 1), (0, a), (0, b), (2, v2), (2, v8)]) (st' := [(2, v8), (0, v29)]) (by decide +kernel) rfl ?_
                  refine zwX_gi Ch28 (kd := 11) (bn := 6) (n := 17) (nx := 93) (by decide +kernel) Gh28_1.2.1 Gh28_1.1 rfl ?_
                  intro v30 ev30 lv30 uv30
                  refine zwW_adw (nx := 94) (by decide +kernel) ?_
                  intro v31 ev31 lv31 uv31
                  have Ev31 : v31 = w32 ((fld h28 v8 5) + (fld h28 v8 6)) := by rw [ev31, ev29, ev30]
                  refine zwW_ret (nx := 95) (a := 0) (b := 0) (by decide +kernel) rfl (Or.inl rfl) ?_
                  exact ⟨Ch28, Xh28.le (by decide) (by decide), by omega⟩
                · exfalso; omega
              · refine zwif_ne (q := 65) (nx := 63) (by decide +kernel) (fun c32 => ?_) (fun c32 => ?_)
                · exfalso; omega
                · refine zwW_p [(0, -1, 0)] (q := 64) (ls' := [(2, 1), (0, a), (0, b), (2, v2), (2, v8)]) (st' := [(0, -1)]) (by decide +kernel) rfl ?_
                  refine zwW_ret (nx := 65) (a := 0) (b := 0) (by decide +kernel) rfl (Or.inl rfl) ?_
                  exact ⟨C, X.le (by decide) (by decide), by omega⟩
def msx53 : Zms := [(1011, 1011, 7, 8)]
-- WheelLand.mill(II)I
theorem x53 {sc : List Int} (h : Hp) (C : CI h) (a b : Int) (q_a : -2147483648 ≤ a ∧ a ≤ 2147483647) (q_b : -2147483648 ≤ b ∧ b ≤ 2147483647) : zwC sc 6 53 [(2, 1), (0, a), (0, b)] h (zwRt 0 (fun x g => CI g ∧ zXR msx53 (0) (0) h g ∧ (-2147483648 ≤ x ∧ x ≤ 2147483647))) := by
  refine zwC_of (D := 5) 4 (by decide +kernel) rfl (ls := [(2, 1), (0, a), (0, b), (9, 0)]) rfl ?_
  have X : zXR msx53 0 0 h h := zXR.rf _ _
  refine zwW_p [(1, 0, 2), (1, 1, 0)] (q := 2) (ls' := [(2, 1), (0, a), (0, b), (9, 0)]) (st' := [(0, a), (2, 1)]) (by decide +kernel) rfl ?_
  refine zwW_cm C.1 (op := 60) (k' := 102) (n := 1) (kd := 12) (m := 13) (nx := 5) (r := 1) (tl := [(0, a)]) (st' := []) (by decide +kernel) rfl (by decide +kernel) rfl (x102 h C a (by omega)) ?_
  rintro v2 _ ⟨rfl, ⟨rfl, c1⟩ | ⟨Gv2, c1⟩⟩
  · refine zwW_p [(2, 3, 2), (1, 3, 2)] (q := 7) (ls' := [(2, 1), (0, a), (0, b), (2, 0)]) (st' := [(2, 0)]) (by decide +kernel) rfl ?_
    refine zwnu_eq (q := 33) (nx := 10) (by decide +kernel) (by decide) (fun c3 => ?_) (fun c3 => ?_)
    · refine zwW_p [(0, -1, 0)] (q := 34) (ls' := [(2, 1), (0, a), (0, b), (2, 0)]) (st' := [(0, -1)]) (by decide +kernel) rfl ?_
      refine zwW_ret (nx := 35) (a := 0) (b := 0) (by decide +kernel) rfl (Or.inl rfl) ?_
      exact ⟨C, X.le (by decide) (by decide), by omega⟩
    · exfalso; omega
  · have lv2 := Gv2.1
    have ev2 := c1.2.2
    refine zwW_p [(2, 3, 2), (1, 3, 2)] (q := 7) (ls' := [(2, 1), (0, a), (0, b), (2, v2)]) (st' := [(2, v2)]) (by decide +kernel) rfl ?_
    refine zwnu_eq (q := 33) (nx := 10) (by decide +kernel) (by omega) (fun c4 => ?_) (fun c4 => ?_)
    · exfalso; omega
    · refine zwW_p [(1, 2, 0), (0, 1, 0), (0, 999, 0)] (q := 15) (ls' := [(2, 1), (0, a), (0, b), (2, v2)]) (st' := [(0, 999), (0, 1), (0, b)]) (by decide +kernel) rfl ?_
      refine zwW_cs (k' := 98) (n := 3) (nx := 18) (as := [(0, b), (0, 1), (0, 999)]) (st' := []) (by decide +kernel) rfl (x98 h C b 1 999 (by omega) (by omega) (by omega)) rfl ?_
      rintro x _ ⟨rfl, ⟨rfl, c5⟩ | ⟨rfl, c5⟩⟩
      · refine zwif_ne (q := 33) (nx := 21) (by decide +kernel) (fun c6 => ?_) (fun c6 => ?_)
        · refine zwW_p [(0, -1, 0)] (q := 34) (ls' := [(2, 1), (0, a), (0, b), (2, v2)]) (st' := [(0, -1)]) (by decide +kernel) rfl ?_
          refine zwW_ret (nx := 35) (a := 0) (b := 0) (by decide +kernel) rfl (Or.inl rfl) ?_
          exact ⟨C, X.le (by decide) (by decide), by omega⟩
        · exfalso; omega
      · refine zwif_ne (q := 33) (nx := 21) (by decide +kernel) (fun c7 => ?_) (fun c7 => ?_)
        · exfalso; omega
        · refine zwW_p [(1, 3, 2)] (q := 22) (ls' := [(2, 1), (0, a), (0, b), (2, v2)]) (st' := [(2, v2)]) (by decide +kernel) rfl ?_
          refine zwX_gi C (kd := 11) (bn := 7) (n := 17) (nx := 25) (by decide +kernel) Gv2.2.1 Gv2.1 rfl ?_
          intro v8 ev8 lv8 uv8
          refine zwW_p [(1, 2, 0)] (q := 26) (ls' := [(2, 1), (0, a), (0, b), (2, v2)]) (st' := [(0, b), (0, v8)]) (by decide +kernel) rfl ?_
          refine zwW_adw (nx := 27) (by decide +kernel) ?_
          intro v9 ev9 lv9 uv9
          have Ev9 : v9 = w32 ((fld h v2 7) + b) := by rw [ev9, ev8]
          refine zwW_p [(0, 9999, 0)] (q := 30) (ls' := [(2, 1), (0, a), (0, b), (2, v2)]) (st' := [(0, 9999), (0, v9)]) (by decide +kernel) rfl ?_
          refine zwic_le (q := 35) (nx := 33) (by decide +kernel) (fun c10 => ?_) (fun c10 => ?_)
          · refine zwW_p [(1, 3, 2), (12, 0, 0)] (q := 37) (ls' := [(2, 1), (0, a), (0, b), (2, v2)]) (st' := [(2, v2), (2, v2)]) (by decide +kernel) rfl ?_
            refine zwX_gi C (kd := 11) (bn := 7) (n := 17) (nx := 40) (by decide +kernel) Gv2.2.1 Gv2.1 rfl ?_
            intro v11 ev11 lv11 uv11
            refine zwW_p [(1, 2, 0)] (q := 41) (ls' := [(2, 1), (0, a), (0, b), (2, v2)]) (st' := [(0, b), (0, v11), (2, v2)]) (by decide +kernel) rfl ?_
            refine zwW_adw (nx := 42) (by decide +kernel) ?_
            intro v12 ev12 lv12 uv12
            have Ev12 : v12 = w32 ((fld h v2 7) + b) := by rw [ev12, ev11]
            refine zwX_pi C (kd := 11) (bn := 7) (n := 17) (nx := 45) (by decide +kernel) Gv2.2.1 Gv2.1 ⟨by omega, by omega⟩ ?_
            rintro h13 eh13 Ch13 Qh13
            have Xh13 : zXR msx53 (0) (0) h h13 := X.tr (c2 := 0) (s2 := 0) Qh13 (by decide +kernel) (by decide) (by decide)
            have Gh13_0 : gV h13 v2 := Gv2.x Qh13
            refine zwW_p [(1, 3, 2)] (q := 46) (ls' := [(2, 1), (0, a), (0, b), (2, v2)]) (st' := [(2, v2)]) (by decide +kernel) rfl ?_
            refine zwX_gi Ch13 (kd := 11) (bn := 7) (n := 17) (nx := 49) (by decide +kernel) Gh13_0.2.1 Gh13_0.1 rfl ?_
            intro v14 ev14 lv14 uv14
            have wv14 : v14 = v12 := by rw [ev14, eh13]; exact fld_wr_eq Gv2.2.1 (by decide)
            refine zwW_ret (nx := 50) (a := 0) (b := 0) (by decide +kernel) rfl (Or.inl rfl) ?_
            exact ⟨Ch13, Xh13.le (by decide) (by decide), by omega⟩
          · refine zwW_p [(0, -1, 0)] (q := 34) (ls' := [(2, 1), (0, a), (0, b), (2, v2)]) (st' := [(0, -1)]) (by decide +kernel) rfl ?_
            refine zwW_ret (nx := 35) (a := 0) (b := 0) (by decide +kernel) rfl (Or.inl rfl) ?_
            exact ⟨C, X.le (by decide) (by decide), by omega⟩
def msx55 : Zms := [(1011, 1011, 8, 9), (1011, 1011, 9, 10)]
-- WheelLand.price(II)Z
theorem x55 {sc : List Int} (h : Hp) (C : CI h) (a b : Int) (q_a : -2147483648 ≤ a ∧ a ≤ 2147483647) (q_b : -2147483648 ≤ b ∧ b ≤ 2147483647) : zwC sc 6 55 [(2, 1), (0, a), (0, b)] h (zwRt 0 (fun x g => CI g ∧ zXR msx55 (0) (0) h g ∧ (0 ≤ x ∧ x ≤ 1) ∧ ((x = 1 ∧ 0 ≤ a ∧ a < fld h 2 2 ∧ 0 ≤ b ∧ 1 ≤ b / 100 ∧ b / 100 ≤ 99 ∧ 1 ≤ b % 100) ∨ (x = 0 ∧ (a < 0 ∨ fld h 2 2 ≤ a ∨ b < 0 ∨ b / 100 < 1 ∨ 99 < b / 100 ∨ b % 100 < 1))))) := by
  refine zwC_of (D := 5) 4 (by decide +kernel) rfl (ls := [(2, 1), (0, a), (0, b), (9, 0)]) rfl ?_
  have X : zXR msx55 0 0 h h := zXR.rf _ _
  have T1 := zt100 (b := b) ⟨by omega, by omega⟩
  refine zwW_p [(1, 0, 2), (1, 1, 0)] (q := 2) (ls' := [(2, 1), (0, a), (0, b), (9, 0)]) (st' := [(0, a), (2, 1)]) (by decide +kernel) rfl ?_
  refine zwW_cm C.1 (op := 60) (k' := 102) (n := 1) (kd := 12) (m := 13) (nx := 5) (r := 1) (tl := [(0, a)]) (st' := []) (by decide +kernel) rfl (by decide +kernel) rfl (x102 h C a (by omega)) ?_
  rintro v2 _ ⟨rfl, ⟨rfl, c1⟩ | ⟨Gv2, c1⟩⟩
  · refine zwW_p [(2, 3, 2), (1, 3, 2)] (q := 7) (ls' := [(2, 1), (0, a), (0, b), (2, 0)]) (st' := [(2, 0)]) (by decide +kernel) rfl ?_
    refine zwnu_eq (q := 36) (nx := 10) (by decide +kernel) (by decide) (fun c3 => ?_) (fun c3 => ?_)
    · refine zwW_p [(0, 0, 0)] (q := 37) (ls' := [(2, 1), (0, a), (0, b), (2, 0)]) (st' := [(0, 0)]) (by decide +kernel) rfl ?_
      refine zwW_ret (nx := 38) (a := 1) (b := 0) (by decide +kernel) rfl (Or.inr (Or.inl ⟨rfl, by omega⟩)) ?_
      exact ⟨C, X.le (by decide) (by decide), by omega, by omega⟩
    · exfalso; omega
  · have lv2 := Gv2.1
    have ev2 := c1.2.2
    refine zwW_p [(2, 3, 2), (1, 3, 2)] (q := 7) (ls' := [(2, 1), (0, a), (0, b), (2, v2)]) (st' := [(2, v2)]) (by decide +kernel) rfl ?_
    refine zwnu_eq (q := 36) (nx := 10) (by decide +kernel) (by omega) (fun c4 => ?_) (fun c4 => ?_)
    · exfalso; omega
    · refine zwW_p [(1, 2, 0), (0, 100, 0)] (q := 13) (ls' := [(2, 1), (0, a), (0, b), (2, v2)]) (st' := [(0, 100), (0, b)]) (by decide +kernel) rfl ?_
      refine zwW_tdw (nx := 14) (by decide +kernel) (by omega) ?_
      intro v5 ev5 lv5 uv5
      refine zwW_p [(0, 1, 0), (0, 99, 0)] (q := 17) (ls' := [(2, 1), (0, a), (0, b), (2, v2)]) (st' := [(0, 99), (0, 1), (0, v5)]) (by decide +kernel) rfl ?_
      refine zwW_cs (k' := 98) (n := 3) (nx := 20) (as := [(0, v5), (0, 1), (0, 99)]) (st' := []) (by decide +kernel) rfl (x98 h C v5 1 99 (by omega) (by omega) (by omega)) rfl ?_
      rintro x _ ⟨rfl, ⟨rfl, c6⟩ | ⟨rfl, c6⟩⟩
      · refine zwif_ne (q := 36) (nx := 23) (by decide +kernel) (fun c7 => ?_) (fun c7 => ?_)
        · refine zwW_p [(0, 0, 0)] (q := 37) (ls' := [(2, 1), (0, a), (0, b), (2, v2)]) (st' := [(0, 0)]) (by decide +kernel) rfl ?_
          refine zwW_ret (nx := 38) (a := 1) (b := 0) (by decide +kernel) rfl (Or.inr (Or.inl ⟨rfl, by omega⟩)) ?_
          exact ⟨C, X.le (by decide) (by decide), by omega, by omega⟩
        · exfalso; omega
      · refine zwif_ne (q := 36) (nx := 23) (by decide +kernel) (fun c8 => ?_) (fun c8 => ?_)
        · exfalso; omega
        · refine zwW_p [(1, 2, 0), (0, 100, 0)] (q := 26) (ls' := [(2, 1), (0, a), (0, b), (2, v2)]) (st' := [(0, 100), (0, b)]) (by decide +kernel) rfl ?_
          refine zwW_tmw (nx := 27) (by decide +kernel) ⟨by omega, by omega⟩ (by omega) ?_
          intro v9 ev9 lv9 uv9
          refine zwW_p [(0, 1, 0), (0, 99, 0)] (q := 30) (ls' := [(2, 1), (0, a), (0, b), (2, v2)]) (st' := [(0, 99), (0, 1), (0, v9)]) (by decide +kernel) rfl ?_
          refine zwW_cs (k' := 98) (n := 3) (nx := 33) (as := [(0, v9), (0, 1), (0, 99)]) (st' := []) (by decide +kernel) rfl (x98 h C v9 1 99 (by omega) (by omega) (by omega)) rfl ?_
          rintro x _ ⟨rfl, ⟨rfl, c10⟩ | ⟨rfl, c10⟩⟩
          · refine zwif_eq (q := 38) (nx := 36) (by decide +kernel) (fun c11 => ?_) (fun c11 => ?_)
            · exfalso; omega
            · refine zwW_p [(0, 0, 0)] (q := 37) (ls' := [(2, 1), (0, a), (0, b), (2, v2)]) (st' := [(0, 0)]) (by decide +kernel) rfl ?_
              refine zwW_ret (nx := 38) (a := 1) (b := 0) (by decide +kernel) rfl (Or.inr (Or.inl ⟨rfl, by omega⟩)) ?_
              exact ⟨C, X.le (by decide) (by decide), by omega, by omega⟩
          · refine zwif_eq (q := 38) (nx := 36) (by decide +kernel) (fun c12 => ?_) (fun c12 => ?_)
            · refine zwW_p [(1, 3, 2), (1, 2, 0), (0, 100, 0)] (q := 42) (ls' := [(2, 1), (0, a), (0, b), (2, v2)]) (st' := [(0, 100), (0, b), (2, v2)]) (by decide +kernel) rfl ?_
              refine zwW_tdw (nx := 43) (by decide +kernel) (by omega) ?_
              intro v13 ev13 lv13 uv13
              refine zwX_pi C (kd := 11) (bn := 8) (n := 17) (nx := 46) (by decide +kernel) Gv2.2.1 Gv2.1 ⟨by omega, by omega⟩ ?_
              rintro h14 eh14 Ch14 Qh14
              have Xh14 : zXR msx55 (0) (0) h h14 := X.tr (c2 := 0) (s2 := 0) Qh14 (by decide +kernel) (by decide) (by decide)
              have Gh14_0 : gV h14 v2 := Gv2.x Qh14
              refine zwW_p [(1, 3, 2), (1, 2, 0), (0, 100, 0)] (q := 50) (ls' := [(2, 1), (0, a), (0, b), (2, v2)]) (st' := [(0, 100), (0, b), (2, v2)]) (by decide +kernel) rfl ?_
              refine zwW_tmw (nx := 51) (by decide +kernel) ⟨by omega, by omega⟩ (by omega) ?_
              intro v15 ev15 lv15 uv15
              refine zwX_pi Ch14 (kd := 11) (bn := 9) (n := 17) (nx := 54) (by decide +kernel) Gh14_0.2.1 Gh14_0.1 ⟨by omega, by omega⟩ ?_
              rintro h16 eh16 Ch16 Qh16
              have Xh16 : zXR msx55 (0) (0) h h16 := Xh14.tr (c2 := 0) (s2 := 0) Qh16 (by decide +kernel) (by decide) (by decide)
              have Gh16_0 : gV h16 v2 := Gh14_0.x Qh16
              refine zwW_p [(0, 1, 0)] (q := 55) (ls' := [(2, 1), (0, a), (0, b), (2, v2)]) (st' := [(0, 1)]) (by decide +kernel) rfl ?_
              refine zwW_ret (nx := 56) (a := 1) (b := 0) (by decide +kernel) rfl (Or.inr (Or.inl ⟨rfl, by omega⟩)) ?_
              exact ⟨Ch16, Xh16.le (by decide) (by decide), by omega, by omega⟩
            · exfalso; omega
def msx57 : Zms := [(1011, 1011, 4, 5)]
-- WheelLand.talk(II)I
theorem x57 {sc : List Int} (h : Hp) (C : CI h) (a b : Int) (q_a : -2147483648 ≤ a ∧ a ≤ 2147483647) (q_b : -2147483648 ≤ b ∧ b ≤ 2147483647) : zwC sc 6 57 [(2, 1), (0, a), (0, b)] h (zwRt 0 (fun x g => CI g ∧ zXR msx57 (0) (0) h g ∧ (-2147483648 ≤ x ∧ x ≤ 2147483647) ∧ ((x = b ∧ 0 ≤ a ∧ a < fld h 2 2 ∧ 0 ≤ b ∧ b ≤ 20) ∨ (x = -1 ∧ (a < 0 ∨ fld h 2 2 ≤ a ∨ b < 0 ∨ 20 < b))))) := by
  refine zwC_of (D := 5) 4 (by decide +kernel) rfl (ls := [(2, 1), (0, a), (0, b), (9, 0)]) rfl ?_
  have X : zXR msx57 0 0 h h := zXR.rf _ _
  refine zwW_p [(1, 0, 2), (1, 1, 0)] (q := 2) (ls' := [(2, 1), (0, a), (0, b), (9, 0)]) (st' := [(0, a), (2, 1)]) (by decide +kernel) rfl ?_
  refine zwW_cm C.1 (op := 60) (k' := 102) (n := 1) (kd := 12) (m := 13) (nx := 5) (r := 1) (tl := [(0, a)]) (st' := []) (by decide +kernel) rfl (by decide +kernel) rfl (x102 h C a (by omega)) ?_
  rintro v2 _ ⟨rfl, ⟨rfl, c1⟩ | ⟨Gv2, c1⟩⟩
  · refine zwW_p [(2, 3, 2), (1, 3, 2)] (q := 7) (ls' := [(2, 1), (0, a), (0, b), (2, 0)]) (st' := [(2, 0)]) (by decide +kernel) rfl ?_
    refine zwnu_eq (q := 20) (nx := 10) (by decide +kernel) (by decide) (fun c3 => ?_) (fun c3 => ?_)
    · refine zwW_p [(0, -1, 0)] (q := 21) (ls' := [(2, 1), (0, a), (0, b), (2, 0)]) (st' := [(0, -1)]) (by decide +kernel) rfl ?_
      refine zwW_ret (nx := 22) (a := 0) (b := 0) (by decide +kernel) rfl (Or.inl rfl) ?_
      exact ⟨C, X.le (by decide) (by decide), by omega, by omega⟩
    · exfalso; omega
  · have lv2 := Gv2.1
    have ev2 := c1.2.2
    refine zwW_p [(2, 3, 2), (1, 3, 2)] (q := 7) (ls' := [(2, 1), (0, a), (0, b), (2, v2)]) (st' := [(2, v2)]) (by decide +kernel) rfl ?_
    refine zwnu_eq (q := 20) (nx := 10) (by decide +kernel) (by omega) (fun c4 => ?_) (fun c4 => ?_)
    · exfalso; omega
    · refine zwW_p [(1, 2, 0), (0, 0, 0), (0, 20, 0)] (q := 14) (ls' := [(2, 1), (0, a), (0, b), (2, v2)]) (st' := [(0, 20), (0, 0), (0, b)]) (by decide +kernel) rfl ?_
      refine zwW_cs (k' := 98) (n := 3) (nx := 17) (as := [(0, b), (0, 0), (0, 20)]) (st' := []) (by decide +kernel) rfl (x98 h C b 0 20 (by omega) (by omega) (by omega)) rfl ?_
      rintro x _ ⟨rfl, ⟨rfl, c5⟩ | ⟨rfl, c5⟩⟩
      · refine zwif_eq (q := 22) (nx := 20) (by decide +kernel) (fun c6 => ?_) (fun c6 => ?_)
        · exfalso; omega
        · refine zwW_p [(0, -1, 0)] (q := 21) (ls' := [(2, 1), (0, a), (0, b), (2, v2)]) (st' := [(0, -1)]) (by decide +kernel) rfl ?_
          refine zwW_ret (nx := 22) (a := 0) (b := 0) (by decide +kernel) rfl (Or.inl rfl) ?_
          exact ⟨C, X.le (by decide) (by decide), by omega, by omega⟩
      · refine zwif_eq (q := 22) (nx := 20) (by decide +kernel) (fun c7 => ?_) (fun c7 => ?_)
        · refine zwW_p [(1, 3, 2), (1, 2, 0)] (q := 24) (ls' := [(2, 1), (0, a), (0, b), (2, v2)]) (st' := [(0, b), (2, v2)]) (by decide +kernel) rfl ?_
          refine zwX_pi C (kd := 11) (bn := 4) (n := 17) (nx := 27) (by decide +kernel) Gv2.2.1 Gv2.1 ⟨by omega, by omega⟩ ?_
          rintro h8 eh8 Ch8 Qh8
          have Xh8 : zXR msx57 (0) (0) h h8 := X.tr (c2 := 0) (s2 := 0) Qh8 (by decide +kernel) (by decide) (by decide)
          have Gh8_0 : gV h8 v2 := Gv2.x Qh8
          refine zwW_p [(1, 2, 0)] (q := 28) (ls' := [(2, 1), (0, a), (0, b), (2, v2)]) (st' := [(0, b)]) (by decide +kernel) rfl ?_
          refine zwW_ret (nx := 29) (a := 0) (b := 0) (by decide +kernel) rfl (Or.inl rfl) ?_
          exact ⟨Ch8, Xh8.le (by decide) (by decide), by omega, by omega⟩
        · exfalso; omega
def msx63 : Zms := [(1011, 1011, 11, 12)]
-- WheelLand.sold(II)I
theorem x63 {sc : List Int} (h : Hp) (C : CI h) (a b : Int) (q_a : -2147483648 ≤ a ∧ a ≤ 2147483647) (q_b : -2147483648 ≤ b ∧ b ≤ 2147483647) : zwC sc 6 63 [(2, 1), (0, a), (0, b)] h (zwRt 0 (fun x g => CI g ∧ zXR msx63 (0) (0) h g ∧ (-2147483648 ≤ x ∧ x ≤ 2147483647) ∧ (((x = w32 (fld h (fld h (fld h 2 1) a.toNat) 11 + b)) ∧ (0 ≤ a ∧ a < fld h 2 2 ∧ 1 ≤ b ∧ b ≤ 999 ∧ w32 (fld h (fld h (fld h 2 1) a.toNat) 11 + b) ≤ 9999) ∧ (∀ (rr : Int) (nn : Nat), 365 < rr → sh h rr = some (11, nn) → fld g rr 11 = if rr = fld h (fld h 2 1) a.toNat then w32 (fld h (fld h (fld h 2 1) a.toNat) 11 + b) else fld h rr 11)) ∨ ((x = -1) ∧ (g = h) ∧ (a < 0 ∨ fld h 2 2 ≤ a ∨ b < 1 ∨ 999 < b ∨ 9999 < w32 (fld h (fld h (fld h 2 1) a.toNat) 11 + b)))))) := by
  refine zwC_of (D := 5) 4 (by decide +kernel) rfl (ls := [(2, 1), (0, a), (0, b), (9, 0)]) rfl ?_
  have X : zXR msx63 0 0 h h := zXR.rf _ _
  refine zwW_p [(1, 0, 2), (1, 1, 0)] (q := 2) (ls' := [(2, 1), (0, a), (0, b), (9, 0)]) (st' := [(0, a), (2, 1)]) (by decide +kernel) rfl ?_
  refine zwW_cm C.1 (op := 60) (k' := 102) (n := 1) (kd := 12) (m := 13) (nx := 5) (r := 1) (tl := [(0, a)]) (st' := []) (by decide +kernel) rfl (by decide +kernel) rfl (x102 h C a (by omega)) ?_
  rintro v2 _ ⟨rfl, ⟨rfl, c1⟩ | ⟨Gv2, c1⟩⟩
  · refine zwW_p [(2, 3, 2), (1, 3, 2)] (q := 7) (ls' := [(2, 1), (0, a), (0, b), (2, 0)]) (st' := [(2, 0)]) (by decide +kernel) rfl ?_
    refine zwnu_eq (q := 33) (nx := 10) (by decide +kernel) (by decide) (fun c3 => ?_) (fun c3 => ?_)
    · refine zwW_p [(0, -1, 0)] (q := 34) (ls' := [(2, 1), (0, a), (0, b), (2, 0)]) (st' := [(0, -1)]) (by decide +kernel) rfl ?_
      refine zwW_ret (nx := 35) (a := 0) (b := 0) (by decide +kernel) rfl (Or.inl rfl) ?_
      exact ⟨C, X.le (by decide) (by decide), by omega, by exact Or.inr ⟨by omega, by rfl, by first | omega | (rw [← rfl]; omega)⟩⟩
    · exfalso; omega
  · have lv2 := Gv2.1
    have ev2 := c1.2.2
    refine zwW_p [(2, 3, 2), (1, 3, 2)] (q := 7) (ls' := [(2, 1), (0, a), (0, b), (2, v2)]) (st' := [(2, v2)]) (by decide +kernel) rfl ?_
    refine zwnu_eq (q := 33) (nx := 10) (by decide +kernel) (by omega) (fun c4 => ?_) (fun c4 => ?_)
    · exfalso; omega
    · refine zwW_p [(1, 2, 0), (0, 1, 0), (0, 999, 0)] (q := 15) (ls' := [(2, 1), (0, a), (0, b), (2, v2)]) (st' := [(0, 999), (0, 1), (0, b)]) (by decide +kernel) rfl ?_
      refine zwW_cs (k' := 98) (n := 3) (nx := 18) (as := [(0, b), (0, 1), (0, 999)]) (st' := []) (by decide +kernel) rfl (x98 h C b 1 999 (by omega) (by omega) (by omega)) rfl ?_
      rintro x _ ⟨rfl, ⟨rfl, c5⟩ | ⟨rfl, c5⟩⟩
      · refine zwif_ne (q := 33) (nx := 21) (by decide +kernel) (fun c6 => ?_) (fun c6 => ?_)
        · refine zwW_p [(0, -1, 0)] (q := 34) (ls' := [(2, 1), (0, a), (0, b), (2, v2)]) (st' := [(0, -1)]) (by decide +kernel) rfl ?_
          refine zwW_ret (nx := 35) (a := 0) (b := 0) (by decide +kernel) rfl (Or.inl rfl) ?_
          exact ⟨C, X.le (by decide) (by decide), by omega, by exact Or.inr ⟨by omega, by rfl, by first | omega | (rw [← ev2]; omega)⟩⟩
        · exfalso; omega
      · refine zwif_ne (q := 33) (nx := 21) (by decide +kernel) (fun c7 => ?_) (fun c7 => ?_)
        · exfalso; omega
        · refine zwW_p [(1, 3, 2)] (q := 22) (ls' := [(2, 1), (0, a), (0, b), (2, v2)]) (st' := [(2, v2)]) (by decide +kernel) rfl ?_
          refine zwX_gi C (kd := 11) (bn := 11) (n := 17) (nx := 25) (by decide +kernel) Gv2.2.1 Gv2.1 rfl ?_
          intro v8 ev8 lv8 uv8
          refine zwW_p [(1, 2, 0)] (q := 26) (ls' := [(2, 1), (0, a), (0, b), (2, v2)]) (st' := [(0, b), (0, v8)]) (by decide +kernel) rfl ?_
          refine zwW_adw (nx := 27) (by decide +kernel) ?_
          intro v9 ev9 lv9 uv9
          have Ev9 : v9 = w32 ((fld h v2 11) + b) := by rw [ev9, ev8]
          refine zwW_p [(0, 9999, 0)] (q := 30) (ls' := [(2, 1), (0, a), (0, b), (2, v2)]) (st' := [(0, 9999), (0, v9)]) (by decide +kernel) rfl ?_
          refine zwic_le (q := 35) (nx := 33) (by decide +kernel) (fun c10 => ?_) (fun c10 => ?_)
          · refine zwW_p [(1, 3, 2), (12, 0, 0)] (q := 37) (ls' := [(2, 1), (0, a), (0, b), (2, v2)]) (st' := [(2, v2), (2, v2)]) (by decide +kernel) rfl ?_
            refine zwX_gi C (kd := 11) (bn := 11) (n := 17) (nx := 40) (by decide +kernel) Gv2.2.1 Gv2.1 rfl ?_
            intro v11 ev11 lv11 uv11
            refine zwW_p [(1, 2, 0)] (q := 41) (ls' := [(2, 1), (0, a), (0, b), (2, v2)]) (st' := [(0, b), (0, v11), (2, v2)]) (by decide +kernel) rfl ?_
            refine zwW_adw (nx := 42) (by decide +kernel) ?_
            intro v12 ev12 lv12 uv12
            have Ev12 : v12 = w32 ((fld h v2 11) + b) := by rw [ev12, ev11]
            refine zwX_pi C (kd := 11) (bn := 11) (n := 17) (nx := 45) (by decide +kernel) Gv2.2.1 Gv2.1 ⟨by omega, by omega⟩ ?_
            rintro h13 eh13 Ch13 Qh13
            have Xh13 : zXR msx63 (0) (0) h h13 := X.tr (c2 := 0) (s2 := 0) Qh13 (by decide +kernel) (by decide) (by decide)
            have Gh13_0 : gV h13 v2 := Gv2.x Qh13
            have Yh13_11_11 : ∀ (rr : Int) (nn : Nat), 365 < rr → sh h rr = some (11, nn) → fld h13 rr 11 = (if rr = v2 then v12 else fld h rr 11) := by
              intro rr nn z1 z2
              by_cases zq : rr = v2
              · rw [if_pos zq, zq, eh13]; exact fld_wr_eq Gv2.2.1 (by decide)
              · rw [if_neg zq, eh13, fld_wr (Or.inl zq)]
            refine zwW_p [(1, 3, 2)] (q := 46) (ls' := [(2, 1), (0, a), (0, b), (2, v2)]) (st' := [(2, v2)]) (by decide +kernel) rfl ?_
            refine zwX_gi Ch13 (kd := 11) (bn := 11) (n := 17) (nx := 49) (by decide +kernel) Gh13_0.2.1 Gh13_0.1 rfl ?_
            intro v14 ev14 lv14 uv14
            have wv14 : v14 = v12 := by rw [ev14, eh13]; exact fld_wr_eq Gv2.2.1 (by decide)
            refine zwW_ret (nx := 50) (a := 0) (b := 0) (by decide +kernel) rfl (Or.inl rfl) ?_
            exact ⟨Ch13, Xh13.le (by decide) (by decide), by omega, by exact Or.inl ⟨by first | omega | (rw [← ev2]; omega), by first | omega | (rw [← ev2]; omega), by intro rr nn z1 z2; rw [← ev2]; first | exact Yh13_11_11 rr nn z1 z2 | (rw [Yh13_11_11 rr nn z1 z2]; split <;> first | omega | (split <;> omega))⟩⟩
          · refine zwW_p [(0, -1, 0)] (q := 34) (ls' := [(2, 1), (0, a), (0, b), (2, v2)]) (st' := [(0, -1)]) (by decide +kernel) rfl ?_
            refine zwW_ret (nx := 35) (a := 0) (b := 0) (by decide +kernel) rfl (Or.inl rfl) ?_
            exact ⟨C, X.le (by decide) (by decide), by omega, by exact Or.inr ⟨by omega, by rfl, by first | omega | (rw [← ev2]; omega)⟩⟩
-- WheelLand.heard(II)I
theorem x59 {sc : List Int} (h : Hp) (C : CI h) (a b : Int) (q_a : -2147483648 ≤ a ∧ a ≤ 2147483647) (q_b : -2147483648 ≤ b ∧ b ≤ 2147483647) : zwC sc 6 59 [(2, 1), (0, a), (0, b)] h (zwRt 0 (fun x g => h = g ∧ (-2147483648 ≤ x ∧ x ≤ 2147483647))) := by
  refine zwC_of (D := 5) 6 (by decide +kernel) rfl (ls := [(2, 1), (0, a), (0, b), (9, 0), (9, 0), (9, 0)]) rfl ?_
  refine zwW_p [(1, 0, 2), (1, 1, 0)] (q := 2) (ls' := [(2, 1), (0, a), (0, b), (9, 0), (9, 0), (9, 0)]) (st' := [(0, a), (2, 1)]) (by decide +kernel) rfl ?_
  refine zwW_cm C.1 (op := 60) (k' := 102) (n := 1) (kd := 12) (m := 13) (nx := 5) (r := 1) (tl := [(0, a)]) (st' := []) (by decide +kernel) rfl (by decide +kernel) rfl (x102 h C a (by omega)) ?_
  rintro v2 _ ⟨rfl, ⟨rfl, c1⟩ | ⟨Gv2, c1⟩⟩
  · refine zwW_p [(2, 3, 2), (1, 0, 2), (1, 2, 0)] (q := 8) (ls' := [(2, 1), (0, a), (0, b), (2, 0), (9, 0), (9, 0)]) (st' := [(0, b), (2, 1)]) (by decide +kernel) rfl ?_
    refine zwW_cm C.1 (op := 60) (k' := 102) (n := 1) (kd := 12) (m := 13) (nx := 11) (r := 1) (tl := [(0, b)]) (st' := []) (by decide +kernel) rfl (by decide +kernel) rfl (x102 h C b (by omega)) ?_
    rintro v4 _ ⟨rfl, ⟨rfl, c3⟩ | ⟨Gv4, c3⟩⟩
    · refine zwW_p [(2, 4, 2), (1, 0, 2), (1, 3, 2), (1, 4, 2)] (q := 17) (ls' := [(2, 1), (0, a), (0, b), (2, 0), (2, 0), (9, 0)]) (st' := [(2, 0), (2, 0), (2, 1)]) (by decide +kernel) rfl ?_
      refine zwW_cm C.1 (op := 60) (k' := 105) (n := 2) (kd := 12) (m := 13) (nx := 20) (r := 1) (tl := [(2, 0), (2, 0)]) (st' := []) (by decide +kernel) rfl (by decide +kernel) rfl (x105 h C 0 0 (Or.inl rfl) (Or.inl rfl)) ?_
      rintro v5 _ ⟨rfl, f6, f7⟩
      refine zwW_p [(2, 5, 0), (1, 4, 2)] (q := 24) (ls' := [(2, 1), (0, a), (0, b), (2, 0), (2, 0), (0, v5)]) (st' := [(2, 0)]) (by decide +kernel) rfl ?_
      refine zwnu_eq (q := 43) (nx := 27) (by decide +kernel) (by decide) (fun c8 => ?_) (fun c8 => ?_)
      · refine zwW_p [(0, -1, 0)] (q := 44) (ls' := [(2, 1), (0, a), (0, b), (2, 0), (2, 0), (0, v5)]) (st' := [(0, -1)]) (by decide +kernel) rfl ?_
        refine zwW_ret (nx := 45) (a := 0) (b := 0) (by decide +kernel) rfl (Or.inl rfl) ?_
        exact ⟨rfl, by omega⟩
      · exfalso; omega
    · have lv4 := Gv4.1
      have ev4 := c3.2.2
      refine zwW_p [(2, 4, 2), (1, 0, 2), (1, 3, 2), (1, 4, 2)] (q := 17) (ls' := [(2, 1), (0, a), (0, b), (2, 0), (2, v4), (9, 0)]) (st' := [(2, v4), (2, 0), (2, 1)]) (by decide +kernel) rfl ?_
      refine zwW_cm C.1 (op := 60) (k' := 105) (n := 2) (kd := 12) (m := 13) (nx := 20) (r := 1) (tl := [(2, 0), (2, v4)]) (st' := []) (by decide +kernel) rfl (by decide +kernel) rfl (x105 h C 0 v4 (Or.inl rfl) (Or.inr Gv4)) ?_
      rintro v9 _ ⟨rfl, f10, f11⟩
      refine zwW_p [(2, 5, 0), (1, 4, 2)] (q := 24) (ls' := [(2, 1), (0, a), (0, b), (2, 0), (2, v4), (0, v9)]) (st' := [(2, v4)]) (by decide +kernel) rfl ?_
      refine zwnu_eq (q := 43) (nx := 27) (by decide +kernel) (by omega) (fun c12 => ?_) (fun c12 => ?_)
      · exfalso; omega
      · refine zwW_p [(1, 5, 0), (0, -1, 0)] (q := 30) (ls' := [(2, 1), (0, a), (0, b), (2, 0), (2, v4), (0, v9)]) (st' := [(0, -1), (0, v9)]) (by decide +kernel) rfl ?_
        refine zwic_eq (q := 43) (nx := 33) (by decide +kernel) (fun c13 => ?_) (fun c13 => ?_)
        · refine zwW_p [(0, -1, 0)] (q := 44) (ls' := [(2, 1), (0, a), (0, b), (2, 0), (2, v4), (0, v9)]) (st' := [(0, -1)]) (by decide +kernel) rfl ?_
          refine zwW_ret (nx := 45) (a := 0) (b := 0) (by decide +kernel) rfl (Or.inl rfl) ?_
          exact ⟨rfl, by omega⟩
        · refine zwW_p [(1, 0, 2)] (q := 34) (ls' := [(2, 1), (0, a), (0, b), (2, 0), (2, v4), (0, v9)]) (st' := [(2, 1)]) (by decide +kernel) rfl ?_
          refine zwW_gs C.1 (kd := 12) (bn := 0) (n := 13) (t := 0) (lo := 0) (hi := 156) (nx := 37) (by decide +kernel) ?_
          intro v14 ev14 lv14 uv14
          refine zwW_p [(0, 156, 0)] (q := 40) (ls' := [(2, 1), (0, a), (0, b), (2, 0), (2, v4), (0, v9)]) (st' := [(0, 156), (0, v14)]) (by decide +kernel) rfl ?_
          refine zwic_lt (q := 45) (nx := 43) (by decide +kernel) (fun c15 => ?_) (fun c15 => ?_)
          · refine zwW_p [(1, 4, 2), (1, 0, 2)] (q := 48) (ls' := [(2, 1), (0, a), (0, b), (2, 0), (2, v4), (0, v9)]) (st' := [(2, 1), (2, v4)]) (by decide +kernel) rfl ?_
            refine zwW_gs C.1 (kd := 12) (bn := 0) (n := 13) (t := 0) (lo := 0) (hi := 156) (nx := 51) (by decide +kernel) ?_
            intro v16 ev16 lv16 uv16
            refine zwW_p [(1, 5, 0), (0, 7, 0)] (q := 55) (ls' := [(2, 1), (0, a), (0, b), (2, 0), (2, v4), (0, v9)]) (st' := [(0, 7), (0, v9), (0, v16), (2, v4)]) (by decide +kernel) rfl ?_
            refine zwW_cs (k' := 151) (n := 2) (nx := 58) (as := [(0, v9), (0, 7)]) (st' := [(0, v16), (2, v4)]) (by decide +kernel) rfl (x151 h C v9 7 (by omega) (by omega)) rfl ?_
            rintro v17 _ ⟨rfl, f18⟩
            refine zwW_sbw (nx := 59) (by decide +kernel) ?_
            intro v19 ev19 lv19 uv19
            refine zwW_cv (op := 60) (k' := 152) (n := 1) (kd := 11) (m := 17) (nx := 62) (r := v4) (tl := [(0, v19)]) (st' := []) (by decide +kernel) rfl (by decide +kernel) Gv4.2.1 (x152 h C v4 v19 Gv4 (by omega)) rfl ?_
            rintro v20 _ ⟨rfl, f21⟩
            refine zwW_ret (nx := 63) (a := 0) (b := 0) (by decide +kernel) rfl (Or.inl rfl) ?_
            exact ⟨rfl, by omega⟩
          · refine zwW_p [(0, -1, 0)] (q := 44) (ls' := [(2, 1), (0, a), (0, b), (2, 0), (2, v4), (0, v9)]) (st' := [(0, -1)]) (by decide +kernel) rfl ?_
            refine zwW_ret (nx := 45) (a := 0) (b := 0) (by decide +kernel) rfl (Or.inl rfl) ?_
            exact ⟨rfl, by omega⟩
  · have lv2 := Gv2.1
    have ev2 := c1.2.2
    refine zwW_p [(2, 3, 2), (1, 0, 2), (1, 2, 0)] (q := 8) (ls' := [(2, 1), (0, a), (0, b), (2, v2), (9, 0), (9, 0)]) (st' := [(0, b), (2, 1)]) (by decide +kernel) rfl ?_
    refine zwW_cm C.1 (op := 60) (k' := 102) (n := 1) (kd := 12) (m := 13) (nx := 11) (r := 1) (tl := [(0, b)]) (st' := []) (by decide +kernel) rfl (by decide +kernel) rfl (x102 h C b (by omega)) ?_
    rintro v23 _ ⟨rfl, ⟨rfl, c22⟩ | ⟨Gv23, c22⟩⟩
    · refine zwW_p [(2, 4, 2), (1, 0, 2), (1, 3, 2), (1, 4, 2)] (q := 17) (ls' := [(2, 1), (0, a), (0, b), (2, v2), (2, 0), (9, 0)]) (st' := [(2, 0), (2, v2), (2, 1)]) (by decide +kernel) rfl ?_
      refine zwW_cm C.1 (op := 60) (k' := 105) (n := 2) (kd := 12) (m := 13) (nx := 20) (r := 1) (tl := [(2, v2), (2, 0)]) (st' := []) (by decide +kernel) rfl (by decide +kernel) rfl (x105 h C v2 0 (Or.inr Gv2) (Or.inl rfl)) ?_
      rintro v24 _ ⟨rfl, f25, f26⟩
      refine zwW_p [(2, 5, 0), (1, 4, 2)] (q := 24) (ls' := [(2, 1), (0, a), (0, b), (2, v2), (2, 0), (0, v24)]) (st' := [(2, 0)]) (by decide +kernel) rfl ?_
      refine zwnu_eq (q := 43) (nx := 27) (by decide +kernel) (by decide) (fun c27 => ?_) (fun c27 => ?_)
      · refine zwW_p [(0, -1, 0)] (q := 44) (ls' := [(2, 1), (0, a), (0, b), (2, v2), (2, 0), (0, v24)]) (st' := [(0, -1)]) (by decide +kernel) rfl ?_
        refine zwW_ret (nx := 45) (a := 0) (b := 0) (by decide +kernel) rfl (Or.inl rfl) ?_
        exact ⟨rfl, by omega⟩
      · exfalso; omega
    · have lv23 := Gv23.1
      have ev23 := c22.2.2
      refine zwW_p [(2, 4, 2), (1, 0, 2), (1, 3, 2), (1, 4, 2)] (q := 17) (ls' := [(2, 1), (0, a), (0, b), (2, v2), (2, v23), (9, 0)]) (st' := [(2, v23), (2, v2), (2, 1)]) (by decide +kernel) rfl ?_
      refine zwW_cm C.1 (op := 60) (k' := 105) (n := 2) (kd := 12) (m := 13) (nx := 20) (r := 1) (tl := [(2, v2), (2, v23)]) (st' := []) (by decide +kernel) rfl (by decide +kernel) rfl (x105 h C v2 v23 (Or.inr Gv2) (Or.inr Gv23)) ?_
      rintro v28 _ ⟨rfl, f29, f30⟩
      refine zwW_p [(2, 5, 0), (1, 4, 2)] (q := 24) (ls' := [(2, 1), (0, a), (0, b), (2, v2), (2, v23), (0, v28)]) (st' := [(2, v23)]) (by decide +kernel) rfl ?_
      refine zwnu_eq (q := 43) (nx := 27) (by decide +kernel) (by omega) (fun c31 => ?_) (fun c31 => ?_)
      · exfalso; omega
      · refine zwW_p [(1, 5, 0), (0, -1, 0)] (q := 30) (ls' := [(2, 1), (0, a), (0, b), (2, v2), (2, v23), (0, v28)]) (st' := [(0, -1), (0, v28)]) (by decide +kernel) rfl ?_
        refine zwic_eq (q := 43) (nx := 33) (by decide +kernel) (fun c32 => ?_) (fun c32 => ?_)
        · refine zwW_p [(0, -1, 0)] (q := 44) (ls' := [(2, 1), (0, a), (0, b), (2, v2), (2, v23), (0, v28)]) (st' := [(0, -1)]) (by decide +kernel) rfl ?_
          refine zwW_ret (nx := 45) (a := 0) (b := 0) (by decide +kernel) rfl (Or.inl rfl) ?_
          exact ⟨rfl, by omega⟩
        · refine zwW_p [(1, 0, 2)] (q := 34) (ls' := [(2, 1), (0, a), (0, b), (2, v2), (2, v23), (0, v28)]) (st' := [(2, 1)]) (by decide +kernel) rfl ?_
          refine zwW_gs C.1 (kd := 12) (bn := 0) (n := 13) (t := 0) (lo := 0) (hi := 156) (nx := 37) (by decide +kernel) ?_
          intro v33 ev33 lv33 uv33
          refine zwW_p [(0, 156, 0)] (q := 40) (ls' := [(2, 1), (0, a), (0, b), (2, v2), (2, v23), (0, v28)]) (st' := [(0, 156), (0, v33)]) (by decide +kernel) rfl ?_
          refine zwic_lt (q := 45) (nx := 43) (by decide +kernel) (fun c34 => ?_) (fun c34 => ?_)
          · refine zwW_p [(1, 4, 2), (1, 0, 2)] (q := 48) (ls' := [(2, 1), (0, a), (0, b), (2, v2), (2, v23), (0, v28)]) (st' := [(2, 1), (2, v23)]) (by decide +kernel) rfl ?_
            refine zwW_gs C.1 (kd := 12) (bn := 0) (n := 13) (t := 0) (lo := 0) (hi := 156) (nx := 51) (by decide +kernel) ?_
            intro v35 ev35 lv35 uv35
            refine zwW_p [(1, 5, 0), (0, 7, 0)] (q := 55) (ls' := [(2, 1), (0, a), (0, b), (2, v2), (2, v23), (0, v28)]) (st' := [(0, 7), (0, v28), (0, v35), (2, v23)]) (by decide +kernel) rfl ?_
            refine zwW_cs (k' := 151) (n := 2) (nx := 58) (as := [(0, v28), (0, 7)]) (st' := [(0, v35), (2, v23)]) (by decide +kernel) rfl (x151 h C v28 7 (by omega) (by omega)) rfl ?_
            rintro v36 _ ⟨rfl, f37⟩
            refine zwW_sbw (nx := 59) (by decide +kernel) ?_
            intro v38 ev38 lv38 uv38
            refine zwW_cv (op := 60) (k' := 152) (n := 1) (kd := 11) (m := 17) (nx := 62) (r := v23) (tl := [(0, v38)]) (st' := []) (by decide +kernel) rfl (by decide +kernel) Gv23.2.1 (x152 h C v23 v38 Gv23 (by omega)) rfl ?_
            rintro v39 _ ⟨rfl, f40⟩
            refine zwW_ret (nx := 63) (a := 0) (b := 0) (by decide +kernel) rfl (Or.inl rfl) ?_
            exact ⟨rfl, by omega⟩
          · refine zwW_p [(0, -1, 0)] (q := 44) (ls' := [(2, 1), (0, a), (0, b), (2, v2), (2, v23), (0, v28)]) (st' := [(0, -1)]) (by decide +kernel) rfl ?_
            refine zwW_ret (nx := 45) (a := 0) (b := 0) (by decide +kernel) rfl (Or.inl rfl) ?_
            exact ⟨rfl, by omega⟩
def msx61 : Zms := [(17, 17, 0, 13), (18, 18, 0, 400)]
-- WheelLand.likes(I)I
theorem x61 {sc : List Int} (h : Hp) (C : CI h) (a : Int) (q_a : -2147483648 ≤ a ∧ a ≤ 2147483647) : zwC sc 6 61 [(2, 1), (0, a)] h (zwRt 0 (fun x g => CI g ∧ zXR msx61 (0) (0) h g ∧ (-2147483648 ≤ x ∧ x ≤ 2147483647))) := by
  refine zwC_of (D := 5) 3 (by decide +kernel) rfl (ls := [(2, 1), (0, a), (9, 0)]) rfl ?_
  have X : zXR msx61 0 0 h h := zXR.rf _ _
  refine zwW_p [(1, 0, 2), (1, 1, 0)] (q := 2) (ls' := [(2, 1), (0, a), (9, 0)]) (st' := [(0, a), (2, 1)]) (by decide +kernel) rfl ?_
  refine zwW_cm C.1 (op := 60) (k' := 109) (n := 1) (kd := 12) (m := 13) (nx := 5) (r := 1) (tl := [(0, a)]) (st' := []) (by decide +kernel) rfl (by decide +kernel) rfl (x109 h C a (by omega)) ?_
  rintro v2 _ ⟨rfl, ⟨rfl, c1⟩ | ⟨Gv2, c1⟩⟩
  · refine zwW_p [(2, 2, 2), (1, 2, 2)] (q := 7) (ls' := [(2, 1), (0, a), (2, 0)]) (st' := [(2, 0)]) (by decide +kernel) rfl ?_
    refine zwnu_ne (q := 12) (nx := 10) (by decide +kernel) (by decide) (fun c3 => ?_) (fun c3 => ?_)
    · exfalso; omega
    · refine zwW_p [(0, -1, 0)] (q := 11) (ls' := [(2, 1), (0, a), (2, 0)]) (st' := [(0, -1)]) (by decide +kernel) rfl ?_
      refine zwW_ret (nx := 12) (a := 0) (b := 0) (by decide +kernel) rfl (Or.inl rfl) ?_
      exact ⟨C, X.le (by decide) (by decide), by omega⟩
  · have lv2 := Gv2.1
    have ev2 := c1.2.2
    refine zwW_p [(2, 2, 2), (1, 2, 2)] (q := 7) (ls' := [(2, 1), (0, a), (2, v2)]) (st' := [(2, v2)]) (by decide +kernel) rfl ?_
    refine zwnu_ne (q := 12) (nx := 10) (by decide +kernel) (by omega) (fun c4 => ?_) (fun c4 => ?_)
    · refine zwW_p [(1, 2, 2)] (q := 13) (ls' := [(2, 1), (0, a), (2, v2)]) (st' := [(2, v2)]) (by decide +kernel) rfl ?_
      refine zwW_get (kd := 4) (bn := 1) (t := 2) (n := 19) (nx := 16) (by decide +kernel) Gv2.2.1 rfl ?_
      obtain ⟨v5, ev5⟩ : ∃ z, z = fld h v2 1 := ⟨_, rfl⟩
      rw [← ev5]
      have Gv5 : gV h v5 := by rw [ev5]; exact Gv2.2.2
      have lv5 := Gv5.1
      refine zwW_p [(1, 2, 2)] (q := 17) (ls' := [(2, 1), (0, a), (2, v2)]) (st' := [(2, v2), (2, v5)]) (by decide +kernel) rfl ?_
      refine zwX_gi C (kd := 4) (bn := 6) (n := 19) (nx := 20) (by decide +kernel) Gv2.2.1 Gv2.1 rfl ?_
      intro v6 ev6 lv6 uv6
      refine zwW_p [(1, 0, 2), (1, 2, 2)] (q := 22) (ls' := [(2, 1), (0, a), (2, v2)]) (st' := [(2, v2), (2, 1), (0, v6), (2, v5)]) (by decide +kernel) rfl ?_
      refine zwW_get (kd := 4) (bn := 1) (t := 2) (n := 19) (nx := 25) (by decide +kernel) Gv2.2.1 rfl ?_
      rw [← ev5]
      refine zwW_cm C.1 (op := 60) (k' := 153) (n := 1) (kd := 12) (m := 13) (nx := 28) (r := 1) (tl := [(2, v5)]) (st' := [(0, v6), (2, v5)]) (by decide +kernel) rfl (by decide +kernel) rfl (x153 h C v5 Gv5) ?_
      rintro v9 h10 ⟨Ch10, Qh10, f8⟩
      have Xh10 : zXR msx61 (0) (0) h h10 := X.tr (c2 := 0) (s2 := 0) Qh10 (by decide +kernel) (by decide) (by decide)
      have Gh10_0 : gH h10 v2 := Gv2.x Qh10
      have Gh10_1 : gV h10 v5 := Gv5.x Qh10
      refine zwW_cv (op := 60) (k' := 154) (n := 2) (kd := 11) (m := 17) (nx := 31) (r := v5) (tl := [(0, v6), (0, v9)]) (st' := []) (by decide +kernel) rfl (by decide +kernel) Gh10_1.2.1 (x154 h10 Ch10 v5 v6 v9 Gh10_1 (by omega) (by omega)) rfl ?_
      rintro v11 _ ⟨rfl, f12⟩
      refine zwW_ret (nx := 32) (a := 0) (b := 0) (by decide +kernel) rfl (Or.inl rfl) ?_
      exact ⟨Ch10, Xh10.le (by decide) (by decide), by omega⟩
    · exfalso; omega
-- WheelLand.wrong(IZ)I
theorem x65 {sc : List Int} (h : Hp) (C : CI h) (a b : Int) (q_a : -2147483648 ≤ a ∧ a ≤ 2147483647) (q_b : -2147483648 ≤ b ∧ b ≤ 2147483647) : zwC sc 6 65 [(2, 1), (0, a), (0, b)] h (zwRt 0 (fun x g => h = g ∧ (-2147483648 ≤ x ∧ x ≤ 2147483647))) := by
  refine zwC_of (D := 5) 4 (by decide +kernel) rfl (ls := [(2, 1), (0, a), (0, b), (9, 0)]) rfl ?_
  refine zwW_p [(1, 0, 2), (1, 1, 0)] (q := 2) (ls' := [(2, 1), (0, a), (0, b), (9, 0)]) (st' := [(0, a), (2, 1)]) (by decide +kernel) rfl ?_
  refine zwW_cm C.1 (op := 60) (k' := 102) (n := 1) (kd := 12) (m := 13) (nx := 5) (r := 1) (tl := [(0, a)]) (st' := []) (by decide +kernel) rfl (by decide +kernel) rfl (x102 h C a (by omega)) ?_
  rintro v2 _ ⟨rfl, ⟨rfl, c1⟩ | ⟨Gv2, c1⟩⟩
  · refine zwW_p [(2, 3, 2), (1, 3, 2)] (q := 7) (ls' := [(2, 1), (0, a), (0, b), (2, 0)]) (st' := [(2, 0)]) (by decide +kernel) rfl ?_
    refine zwnu_ne (q := 12) (nx := 10) (by decide +kernel) (by decide) (fun c3 => ?_) (fun c3 => ?_)
    · exfalso; omega
    · refine zwW_p [(0, -1, 0)] (q := 11) (ls' := [(2, 1), (0, a), (0, b), (2, 0)]) (st' := [(0, -1)]) (by decide +kernel) rfl ?_
      refine zwW_ret (nx := 12) (a := 0) (b := 0) (by decide +kernel) rfl (Or.inl rfl) ?_
      exact ⟨rfl, by omega⟩
  · have lv2 := Gv2.1
    have ev2 := c1.2.2
    refine zwW_p [(2, 3, 2), (1, 3, 2)] (q := 7) (ls' := [(2, 1), (0, a), (0, b), (2, v2)]) (st' := [(2, v2)]) (by decide +kernel) rfl ?_
    refine zwnu_ne (q := 12) (nx := 10) (by decide +kernel) (by omega) (fun c4 => ?_) (fun c4 => ?_)
    · refine zwW_p [(1, 2, 0)] (q := 13) (ls' := [(2, 1), (0, a), (0, b), (2, v2)]) (st' := [(0, b)]) (by decide +kernel) rfl ?_
      refine zwif_eq (q := 23) (nx := 16) (by decide +kernel) (fun c5 => ?_) (fun c5 => ?_)
      · refine zwW_p [(1, 3, 2)] (q := 24) (ls' := [(2, 1), (0, a), (0, b), (2, v2)]) (st' := [(2, v2)]) (by decide +kernel) rfl ?_
        refine zwW_cv (op := 60) (k' := 159) (n := 0) (kd := 11) (m := 17) (nx := 27) (r := v2) (tl := []) (st' := []) (by decide +kernel) rfl (by decide +kernel) Gv2.2.1 (x159 h C v2 Gv2) rfl ?_
        rintro v6 _ ⟨rfl, f7⟩
        refine zwW_ret (nx := 28) (a := 0) (b := 0) (by decide +kernel) rfl (Or.inl rfl) ?_
        exact ⟨rfl, by omega⟩
      · refine zwW_p [(1, 3, 2)] (q := 17) (ls' := [(2, 1), (0, a), (0, b), (2, v2)]) (st' := [(2, v2)]) (by decide +kernel) rfl ?_
        refine zwW_cv (op := 60) (k' := 158) (n := 0) (kd := 11) (m := 17) (nx := 20) (r := v2) (tl := []) (st' := []) (by decide +kernel) rfl (by decide +kernel) Gv2.2.1 (x158 h C v2 Gv2) rfl ?_
        rintro v8 _ ⟨rfl, f9⟩
        refine zwW_p [(24, 27, 0)] (q := 27) (ls' := [(2, 1), (0, a), (0, b), (2, v2)]) (st' := [(0, v8)]) (by decide +kernel) rfl ?_
        refine zwW_ret (nx := 28) (a := 0) (b := 0) (by decide +kernel) rfl (Or.inl rfl) ?_
        exact ⟨rfl, by omega⟩
    · exfalso; omega
-- WheelLand.look()I
theorem x67 {sc : List Int} (h : Hp) (C : CI h) : zwC sc 5 67 [(2, 1)] h (zwRt 0 (fun x g => h = g ∧ (-2147483648 ≤ x ∧ x ≤ 2147483647))) := by
  refine zwC_of (D := 4) 6 (by decide +kernel) rfl (ls := [(2, 1), (9, 0), (9, 0), (9, 0), (9, 0), (9, 0)]) rfl ?_
  refine zwW_p [(0, -1, 0), (2, 1, 0), (0, 0, 0), (2, 2, 0), (0, 0, 0), (2, 3, 0)] (q := 6) (ls' := [(2, 1), (0, -1), (0, 0), (0, 0), (9, 0), (9, 0)]) (st' := []) (by decide +kernel) rfl ?_
  have L1 : ∀ (n : Nat) (v1L1 v2L1 v3L1 : Int) (w4L1 w5L1 : Vl), n = ((1000 - v3L1)).toNat → (-2147483648 ≤ v1L1 ∧ v1L1 ≤ 2147483647) → (-2147483648 ≤ v2L1 ∧ v2L1 ≤ 2147483647) → (0 ≤ v3L1 ∧ v3L1 ≤ 1000) → zwW sc (4) 67 6 [(2, 1), (0, v1L1), (0, v2L1), (0, v3L1), w4L1, w5L1] [] h (zwRt 0 (fun x g => h = g ∧ (-2147483648 ≤ x ∧ x ≤ 2147483647))) := by
    intro n
    induction n using Nat.strongRecOn with
    | ind n IHL1 =>
      intro v1L1 v2L1 v3L1 w4L1 w5L1 hnL1 iL1_0 iL1_1 iL1_2
      refine zwW_p [(1, 3, 0), (1, 0, 2)] (q := 8) (ls' := [(2, 1), (0, v1L1), (0, v2L1), (0, v3L1), w4L1, w5L1]) (st' := [(2, 1), (0, v3L1)]) (by decide +kernel) rfl ?_
      refine zwW_gc C.1 (kd := 12) (bn := 2) (n := 13) (c := 2) (nx := 11) (by decide +kernel) ?_
      refine zwW_cm C.1 (op := 60) (k' := 96) (n := 0) (kd := 0) (m := 3) (nx := 14) (r := 2) (tl := []) (st' := [(0, v3L1)]) (by decide +kernel) rfl (by decide +kernel) rfl (x96_2 C) ?_
      rintro v2 _ ⟨rfl, ev2⟩
      have bv2 := zLb_2 C
      refine zwic_ge (q := 60) (nx := 17) (by decide +kernel) (fun c3 => ?_) (fun c3 => ?_)
      · refine zwW_p [(1, 1, 0)] (q := 61) (ls' := [(2, 1), (0, v1L1), (0, v2L1), (0, v3L1), w4L1, w5L1]) (st' := [(0, v1L1)]) (by decide +kernel) rfl ?_
        refine zwW_ret (nx := 62) (a := 0) (b := 0) (by decide +kernel) rfl (Or.inl rfl) ?_
        exact ⟨rfl, by omega⟩
      · refine zwW_p [(1, 0, 2)] (q := 18) (ls' := [(2, 1), (0, v1L1), (0, v2L1), (0, v3L1), w4L1, w5L1]) (st' := [(2, 1)]) (by decide +kernel) rfl ?_
        refine zwW_gc C.1 (kd := 12) (bn := 2) (n := 13) (c := 2) (nx := 21) (by decide +kernel) ?_
        refine zwW_p [(1, 3, 0)] (q := 22) (ls' := [(2, 1), (0, v1L1), (0, v2L1), (0, v3L1), w4L1, w5L1]) (st' := [(0, v3L1), (2, 2)]) (by decide +kernel) rfl ?_
        refine zwW_cm C.1 (op := 60) (k' := 123) (n := 1) (kd := 0) (m := 3) (nx := 25) (r := 2) (tl := [(0, v3L1)]) (st' := []) (by decide +kernel) rfl (by decide +kernel) rfl (x123_2 C (i := v3L1) ⟨by omega, by omega⟩) ?_
        rintro v4 _ ⟨rfl, Gv4, ev4⟩
        have lv4 := Gv4.1
        refine zwW_cast (a := 11) (kd := 11) (n := 17) (nx := 28) (by decide +kernel) rfl (Or.inr Gv4.2.1) ?_
        refine zwW_p [(2, 4, 2), (1, 4, 2)] (q := 32) (ls' := [(2, 1), (0, v1L1), (0, v2L1), (0, v3L1), (2, v4), w5L1]) (st' := [(2, v4)]) (by decide +kernel) rfl ?_
        refine zwW_cv (op := 60) (k' := 158) (n := 0) (kd := 11) (m := 17) (nx := 35) (r := v4) (tl := []) (st' := []) (by decide +kernel) rfl (by decide +kernel) Gv4.2.1 (x158 h C v4 Gv4) rfl ?_
        rintro v5 _ ⟨rfl, f6⟩
        refine zwW_p [(1, 4, 2)] (q := 37) (ls' := [(2, 1), (0, v1L1), (0, v2L1), (0, v3L1), (2, v4), w5L1]) (st' := [(2, v4), (0, v5)]) (by decide +kernel) rfl ?_
        refine zwW_cv (op := 60) (k' := 159) (n := 0) (kd := 11) (m := 17) (nx := 40) (r := v4) (tl := []) (st' := [(0, v5)]) (by decide +kernel) rfl (by decide +kernel) Gv4.2.1 (x159 h C v4 Gv4) rfl ?_
        rintro v7 _ ⟨rfl, f8⟩
        refine zwW_sbw (nx := 41) (by decide +kernel) ?_
        intro v9 ev9 lv9 uv9
        refine zwW_p [(2, 5, 0), (1, 5, 0), (1, 2, 0)] (q := 46) (ls' := [(2, 1), (0, v1L1), (0, v2L1), (0, v3L1), (2, v4), (0, v9)]) (st' := [(0, v2L1), (0, v9)]) (by decide +kernel) rfl ?_
        refine zwic_le (q := 54) (nx := 49) (by decide +kernel) (fun c10 => ?_) (fun c10 => ?_)
        · refine zwW_inc (i := 3) (c := 1) (x := v3L1) (nx := 57) (by decide +kernel) rfl ⟨by omega, by omega⟩ (ls' := [(2, 1), (0, v1L1), (0, v2L1), (0, (v3L1 + 1)), (2, v4), (0, v9)]) rfl ?_
          refine zwW_p [(24, 6, 0)] (q := 6) (ls' := [(2, 1), (0, v1L1), (0, v2L1), (0, (v3L1 + 1)), (2, v4), (0, v9)]) (st' := []) (by decide +kernel) rfl ?_
          exact IHL1 ((1000 - (v3L1 + 1))).toNat (by omega) v1L1 v2L1 (v3L1 + 1) (2, v4) (0, v9) rfl (by omega) (by omega) (by omega)
        · refine zwW_p [(1, 5, 0), (2, 2, 0), (1, 3, 0), (2, 1, 0)] (q := 54) (ls' := [(2, 1), (0, v3L1), (0, v9), (0, v3L1), (2, v4), (0, v9)]) (st' := []) (by decide +kernel) rfl ?_
          refine zwW_inc (i := 3) (c := 1) (x := v3L1) (nx := 57) (by decide +kernel) rfl ⟨by omega, by omega⟩ (ls' := [(2, 1), (0, v3L1), (0, v9), (0, (v3L1 + 1)), (2, v4), (0, v9)]) rfl ?_
          refine zwW_p [(24, 6, 0)] (q := 6) (ls' := [(2, 1), (0, v3L1), (0, v9), (0, (v3L1 + 1)), (2, v4), (0, v9)]) (st' := []) (by decide +kernel) rfl ?_
          exact IHL1 ((1000 - (v3L1 + 1))).toNat (by omega) v3L1 v9 (v3L1 + 1) (2, v4) (0, v9) rfl (by omega) (by omega) (by omega)
  exact L1 _ (-1) 0 0 (9, 0) (9, 0) rfl (by omega) (by omega) (by omega)
def msx69 : Zms := [(27, 27, 0, 1), (28, 28, 0, 8), (29, 29, 0, 8), (30, 30, 0, 8)]
-- WheelLand.gift(III)I
theorem x69 {sc : List Int} (h : Hp) (C : CI h) (a b c : Int) (q_a : -2147483648 ≤ a ∧ a ≤ 2147483647) (q_b : -2147483648 ≤ b ∧ b ≤ 2147483647) (q_c : -2147483648 ≤ c ∧ c ≤ 2147483647) : zwC sc 6 69 [(2, 1), (0, a), (0, b), (0, c)] h (zwRt 0 (fun x g => CI g ∧ zXR msx69 (0) (0) h g ∧ (-2147483648 ≤ x ∧ x ≤ 2147483647) ∧ ((x = fld h 27 0 ∧ fld g 27 0 = x + 1 ∧ 1 ≤ a ∧ a ≤ 99 ∧ 0 ≤ b ∧ b < fld h 3 2 ∧ 0 ≤ c ∧ c ≤ 2 ∧ x < 8) ∨ (x = -1 ∧ fld g 27 0 = fld h 27 0 ∧ (a < 1 ∨ 99 < a ∨ b < 0 ∨ fld h 3 2 ≤ b ∨ c < 0 ∨ 2 < c ∨ 8 ≤ fld h 27 0))))) := by
  refine zwC_of (D := 5) 4 (by decide +kernel) rfl (ls := [(2, 1), (0, a), (0, b), (0, c)]) rfl ?_
  have X : zXR msx69 0 0 h h := zXR.rf _ _
  refine zwW_p [(1, 0, 2), (1, 2, 0)] (q := 2) (ls' := [(2, 1), (0, a), (0, b), (0, c)]) (st' := [(0, b), (2, 1)]) (by decide +kernel) rfl ?_
  refine zwW_cm C.1 (op := 60) (k' := 109) (n := 1) (kd := 12) (m := 13) (nx := 5) (r := 1) (tl := [(0, b)]) (st' := []) (by decide +kernel) rfl (by decide +kernel) rfl (x109 h C b (by omega)) ?_
  rintro v2 _ ⟨rfl, ⟨rfl, c1⟩ | ⟨Gv2, c1⟩⟩
  · refine zwnu_eq (q := 39) (nx := 8) (by decide +kernel) (by decide) (fun c3 => ?_) (fun c3 => ?_)
    · refine zwW_p [(0, -1, 0)] (q := 40) (ls' := [(2, 1), (0, a), (0, b), (0, c)]) (st' := [(0, -1)]) (by decide +kernel) rfl ?_
      refine zwW_ret (nx := 41) (a := 0) (b := 0) (by decide +kernel) rfl (Or.inl rfl) ?_
      exact ⟨C, X.le (by decide) (by decide), by omega, by omega⟩
    · exfalso; omega
  · have lv2 := Gv2.1
    have ev2 := c1.2.2
    refine zwnu_eq (q := 39) (nx := 8) (by decide +kernel) (by omega) (fun c4 => ?_) (fun c4 => ?_)
    · exfalso; omega
    · refine zwW_p [(1, 1, 0), (0, 1, 0), (0, 99, 0)] (q := 12) (ls' := [(2, 1), (0, a), (0, b), (0, c)]) (st' := [(0, 99), (0, 1), (0, a)]) (by decide +kernel) rfl ?_
      refine zwW_cs (k' := 98) (n := 3) (nx := 15) (as := [(0, a), (0, 1), (0, 99)]) (st' := []) (by decide +kernel) rfl (x98 h C a 1 99 (by omega) (by omega) (by omega)) rfl ?_
      rintro x _ ⟨rfl, ⟨rfl, c5⟩ | ⟨rfl, c5⟩⟩
      · refine zwif_ne (q := 39) (nx := 18) (by decide +kernel) (fun c6 => ?_) (fun c6 => ?_)
        · refine zwW_p [(0, -1, 0)] (q := 40) (ls' := [(2, 1), (0, a), (0, b), (0, c)]) (st' := [(0, -1)]) (by decide +kernel) rfl ?_
          refine zwW_ret (nx := 41) (a := 0) (b := 0) (by decide +kernel) rfl (Or.inl rfl) ?_
          exact ⟨C, X.le (by decide) (by decide), by omega, by omega⟩
        · exfalso; omega
      · refine zwif_ne (q := 39) (nx := 18) (by decide +kernel) (fun c7 => ?_) (fun c7 => ?_)
        · exfalso; omega
        · refine zwW_p [(1, 3, 0), (0, 0, 0), (0, 2, 0)] (q := 21) (ls' := [(2, 1), (0, a), (0, b), (0, c)]) (st' := [(0, 2), (0, 0), (0, c)]) (by decide +kernel) rfl ?_
          refine zwW_cs (k' := 98) (n := 3) (nx := 24) (as := [(0, c), (0, 0), (0, 2)]) (st' := []) (by decide +kernel) rfl (x98 h C c 0 2 (by omega) (by omega) (by omega)) rfl ?_
          rintro x _ ⟨rfl, ⟨rfl, c8⟩ | ⟨rfl, c8⟩⟩
          · refine zwif_ne (q := 39) (nx := 27) (by decide +kernel) (fun c9 => ?_) (fun c9 => ?_)
            · refine zwW_p [(0, -1, 0)] (q := 40) (ls' := [(2, 1), (0, a), (0, b), (0, c)]) (st' := [(0, -1)]) (by decide +kernel) rfl ?_
              refine zwW_ret (nx := 41) (a := 0) (b := 0) (by decide +kernel) rfl (Or.inl rfl) ?_
              exact ⟨C, X.le (by decide) (by decide), by omega, by omega⟩
            · exfalso; omega
          · refine zwif_ne (q := 39) (nx := 27) (by decide +kernel) (fun c10 => ?_) (fun c10 => ?_)
            · exfalso; omega
            · refine zwW_p [(1, 0, 2)] (q := 28) (ls' := [(2, 1), (0, a), (0, b), (0, c)]) (st' := [(2, 1)]) (by decide +kernel) rfl ?_
              refine zwW_gc C.1 (kd := 12) (bn := 10) (n := 13) (c := 27) (nx := 31) (by decide +kernel) ?_
              refine zwW_gs C.1 (kd := 2) (bn := 0) (n := 10) (t := 0) (lo := 0) (hi := 8) (nx := 34) (by decide +kernel) ?_
              intro v11 ev11 lv11 uv11
              refine zwW_p [(0, 8, 0)] (q := 36) (ls' := [(2, 1), (0, a), (0, b), (0, c)]) (st' := [(0, 8), (0, v11)]) (by decide +kernel) rfl ?_
              refine zwic_lt (q := 41) (nx := 39) (by decide +kernel) (fun c12 => ?_) (fun c12 => ?_)
              · refine zwW_p [(1, 0, 2)] (q := 42) (ls' := [(2, 1), (0, a), (0, b), (0, c)]) (st' := [(2, 1)]) (by decide +kernel) rfl ?_
                refine zwW_gc C.1 (kd := 12) (bn := 10) (n := 13) (c := 27) (nx := 45) (by decide +kernel) ?_
                refine zwW_p [(1, 1, 0), (1, 2, 0), (1, 3, 0)] (q := 48) (ls' := [(2, 1), (0, a), (0, b), (0, c)]) (st' := [(0, c), (0, b), (0, a), (2, 27)]) (by decide +kernel) rfl ?_
                refine zwW_cmv C.1 (op := 60) (k' := 161) (n := 3) (kd := 2) (m := 10) (nx := 51) (r := 27) (tl := [(0, a), (0, b), (0, c)]) (st' := []) (by decide +kernel) rfl (by decide +kernel) rfl (x161 h C a b c (by omega) (by omega) (by omega)) ?_
                rintro h14 ⟨Ch14, Qh14, f13⟩
                have Xh14 : zXR msx69 (0) (0) h h14 := X.tr (c2 := 0) (s2 := 0) Qh14 (by decide +kernel) (by decide) (by decide)
                refine zwW_p [(1, 0, 2)] (q := 52) (ls' := [(2, 1), (0, a), (0, b), (0, c)]) (st' := [(2, 1)]) (by decide +kernel) rfl ?_
                refine zwW_gc Ch14.1 (kd := 12) (bn := 10) (n := 13) (c := 27) (nx := 55) (by decide +kernel) ?_
                refine zwW_gs Ch14.1 (kd := 2) (bn := 0) (n := 10) (t := 0) (lo := 0) (hi := 8) (nx := 58) (by decide +kernel) ?_
                intro v15 ev15 lv15 uv15
                refine zwW_p [(0, 1, 0)] (q := 59) (ls' := [(2, 1), (0, a), (0, b), (0, c)]) (st' := [(0, 1), (0, v15)]) (by decide +kernel) rfl ?_
                refine zwW_sub (nx := 60) (by decide +kernel) ⟨by omega, by omega⟩ ?_
                refine zwW_ret (nx := 61) (a := 0) (b := 0) (by decide +kernel) rfl (Or.inl rfl) ?_
                exact ⟨Ch14, Xh14.le (by decide) (by decide), by omega, by omega⟩
              · refine zwW_p [(0, -1, 0)] (q := 40) (ls' := [(2, 1), (0, a), (0, b), (0, c)]) (st' := [(0, -1)]) (by decide +kernel) rfl ?_
                refine zwW_ret (nx := 41) (a := 0) (b := 0) (by decide +kernel) rfl (Or.inl rfl) ?_
                exact ⟨C, X.le (by decide) (by decide), by omega, by omega⟩
def msx71 : Zms := [(27, 27, 0, 1)]
-- WheelLand.forget()I
theorem x71 {sc : List Int} (h : Hp) (C : CI h) : zwC sc 1 71 [(2, 1)] h (zwRt 0 (fun x g => CI g ∧ zXR msx71 (0) (0) h g ∧ (-2147483648 ≤ x ∧ x ≤ 2147483647) ∧ (x = fld h 27 0 ∧ fld g 27 0 = 0))) := by
  refine zwC_of (D := 0) 2 (by decide +kernel) rfl (ls := [(2, 1), (9, 0)]) rfl ?_
  have X : zXR msx71 0 0 h h := zXR.rf _ _
  refine zwW_p [(1, 0, 2)] (q := 1) (ls' := [(2, 1), (9, 0)]) (st' := [(2, 1)]) (by decide +kernel) rfl ?_
  refine zwW_gc C.1 (kd := 12) (bn := 10) (n := 13) (c := 27) (nx := 4) (by decide +kernel) ?_
  refine zwW_gs C.1 (kd := 2) (bn := 0) (n := 10) (t := 0) (lo := 0) (hi := 8) (nx := 7) (by decide +kernel) ?_
  intro v1 ev1 lv1 uv1
  refine zwW_p [(2, 1, 0), (1, 0, 2)] (q := 9) (ls' := [(2, 1), (0, v1)]) (st' := [(2, 1)]) (by decide +kernel) rfl ?_
  refine zwW_gc C.1 (kd := 12) (bn := 10) (n := 13) (c := 27) (nx := 12) (by decide +kernel) ?_
  refine zwW_p [(0, 0, 0)] (q := 13) (ls' := [(2, 1), (0, v1)]) (st' := [(0, 0), (2, 27)]) (by decide +kernel) rfl ?_
  refine zwW_ps C.1 (kd := 2) (bn := 0) (n := 10) (lo := 0) (hi := 8) (nx := 16) (by decide +kernel) ⟨by decide, by decide⟩ ?_
  intro h2 eh2 Ih2
  have Ch2 : CI h2 := C.wc eh2 Ih2 (by decide) (by decide)
  have Qh2 : zXR [(27, 27, 0, 1)] 0 0 h h2 := zXR.wc eh2 rfl ⟨by decide, by decide, Or.inl (by decide)⟩ ⟨by decide, by decide⟩
  have Xh2 : zXR msx71 (0) (0) h h2 := X.tr (c2 := 0) (s2 := 0) Qh2 (by decide +kernel) (by decide) (by decide)
  have th2_27_0 : fld h2 27 0 = 0 := by rw [eh2]; exact fld_wr_eq (C.1.s (a1 := 27) (a2 := 27) (k := 2) (n := 10) (by decide +kernel) (by decide) (by decide)) (by decide)
  refine zwW_p [(1, 1, 0)] (q := 17) (ls' := [(2, 1), (0, v1)]) (st' := [(0, v1)]) (by decide +kernel) rfl ?_
  refine zwW_ret (nx := 18) (a := 0) (b := 0) (by decide +kernel) rfl (Or.inl rfl) ?_
  exact ⟨Ch2, Xh2.le (by decide) (by decide), by omega, by omega⟩
def msx73 : Zms := [(27, 27, 1, 2), (27, 27, 2, 3), (27, 27, 3, 4), (31, 31, 0, 20), (32, 32, 0, 20), (33, 33, 0, 8)]
-- WheelLand.best(II)I
theorem x73 {sc : List Int} (h : Hp) (C : CI h) (a b : Int) (q_a : -2147483648 ≤ a ∧ a ≤ 2147483647) (q_b : -2147483648 ≤ b ∧ b ≤ 2147483647) : zwC sc 7 73 [(2, 1), (0, a), (0, b)] h (zwRt 0 (fun x g => CI g ∧ zXR msx73 (0) (0) h g ∧ (-2147483648 ≤ x ∧ x ≤ 2147483647))) := by
  refine zwC_of (D := 6) 3 (by decide +kernel) rfl (ls := [(2, 1), (0, a), (0, b)]) rfl ?_
  have X : zXR msx73 0 0 h h := zXR.rf _ _
  refine zwW_p [(1, 1, 0)] (q := 1) (ls' := [(2, 1), (0, a), (0, b)]) (st' := [(0, a)]) (by decide +kernel) rfl ?_
  refine zwif_lt (q := 23) (nx := 4) (by decide +kernel) (fun c1 => ?_) (fun c1 => ?_)
  · refine zwW_p [(0, -1, 0)] (q := 24) (ls' := [(2, 1), (0, a), (0, b)]) (st' := [(0, -1)]) (by decide +kernel) rfl ?_
    refine zwW_ret (nx := 25) (a := 0) (b := 0) (by decide +kernel) rfl (Or.inl rfl) ?_
    exact ⟨C, X.le (by decide) (by decide), by omega⟩
  · refine zwW_p [(1, 2, 0), (0, 0, 0), (0, 2, 0)] (q := 7) (ls' := [(2, 1), (0, a), (0, b)]) (st' := [(0, 2), (0, 0), (0, b)]) (by decide +kernel) rfl ?_
    refine zwW_cs (k' := 98) (n := 3) (nx := 10) (as := [(0, b), (0, 0), (0, 2)]) (st' := []) (by decide +kernel) rfl (x98 h C b 0 2 (by omega) (by omega) (by omega)) rfl ?_
    rintro x _ ⟨rfl, ⟨rfl, c2⟩ | ⟨rfl, c2⟩⟩
    · refine zwif_ne (q := 23) (nx := 13) (by decide +kernel) (fun c3 => ?_) (fun c3 => ?_)
      · refine zwW_p [(0, -1, 0)] (q := 24) (ls' := [(2, 1), (0, a), (0, b)]) (st' := [(0, -1)]) (by decide +kernel) rfl ?_
        refine zwW_ret (nx := 25) (a := 0) (b := 0) (by decide +kernel) rfl (Or.inl rfl) ?_
        exact ⟨C, X.le (by decide) (by decide), by omega⟩
      · exfalso; omega
    · refine zwif_ne (q := 23) (nx := 13) (by decide +kernel) (fun c4 => ?_) (fun c4 => ?_)
      · exfalso; omega
      · refine zwW_p [(1, 0, 2)] (q := 14) (ls' := [(2, 1), (0, a), (0, b)]) (st' := [(2, 1)]) (by decide +kernel) rfl ?_
        refine zwW_gs C.1 (kd := 12) (bn := 0) (n := 13) (t := 0) (lo := 0) (hi := 156) (nx := 17) (by decide +kernel) ?_
        intro v5 ev5 lv5 uv5
        refine zwW_p [(0, 156, 0)] (q := 20) (ls' := [(2, 1), (0, a), (0, b)]) (st' := [(0, 156), (0, v5)]) (by decide +kernel) rfl ?_
        refine zwic_lt (q := 25) (nx := 23) (by decide +kernel) (fun c6 => ?_) (fun c6 => ?_)
        · refine zwW_p [(1, 0, 2)] (q := 26) (ls' := [(2, 1), (0, a), (0, b)]) (st' := [(2, 1)]) (by decide +kernel) rfl ?_
          refine zwW_gc C.1 (kd := 12) (bn := 10) (n := 13) (c := 27) (nx := 29) (by decide +kernel) ?_
          refine zwW_p [(1, 1, 0), (1, 0, 2)] (q := 31) (ls' := [(2, 1), (0, a), (0, b)]) (st' := [(2, 1), (0, a), (2, 27)]) (by decide +kernel) rfl ?_
          refine zwW_gc C.1 (kd := 12) (bn := 2) (n := 13) (c := 2) (nx := 34) (by decide +kernel) ?_
          refine zwW_p [(1, 0, 2)] (q := 35) (ls' := [(2, 1), (0, a), (0, b)]) (st' := [(2, 1), (2, 2), (0, a), (2, 27)]) (by decide +kernel) rfl ?_
          refine zwW_gc C.1 (kd := 12) (bn := 3) (n := 13) (c := 3) (nx := 38) (by decide +kernel) ?_
          refine zwW_p [(1, 0, 2)] (q := 39) (ls' := [(2, 1), (0, a), (0, b)]) (st' := [(2, 1), (2, 3), (2, 2), (0, a), (2, 27)]) (by decide +kernel) rfl ?_
          refine zwW_gs C.1 (kd := 12) (bn := 0) (n := 13) (t := 0) (lo := 0) (hi := 156) (nx := 42) (by decide +kernel) ?_
          intro v7 ev7 lv7 uv7
          refine zwW_cs (k' := 162) (n := 1) (nx := 45) (as := [(0, v7)]) (st' := [(2, 3), (2, 2), (0, a), (2, 27)]) (by decide +kernel) rfl (x162 h C v7 (by omega) (by omega)) rfl ?_
          rintro v8 _ ⟨rfl, f9, f10, f11⟩
          refine zwW_p [(0, 300, 0), (1, 0, 2)] (q := 49) (ls' := [(2, 1), (0, a), (0, b)]) (st' := [(2, 1), (0, 300), (0, v8), (2, 3), (2, 2), (0, a), (2, 27)]) (by decide +kernel) rfl ?_
          refine zwW_gc C.1 (kd := 12) (bn := 4) (n := 13) (c := 4) (nx := 52) (by decide +kernel) ?_
          refine zwW_cm C.1 (op := 60) (k' := 96) (n := 0) (kd := 0) (m := 3) (nx := 55) (r := 4) (tl := []) (st' := [(0, 300), (0, v8), (2, 3), (2, 2), (0, a), (2, 27)]) (by decide +kernel) rfl (by decide +kernel) rfl (x96_4 C) ?_
          rintro v12 _ ⟨rfl, ev12⟩
          have bv12 := zLb_4 C
          refine zwW_sub (nx := 56) (by decide +kernel) ⟨by omega, by omega⟩ ?_
          refine zwW_cmv C.1 (op := 60) (k' := 163) (n := 5) (kd := 2) (m := 10) (nx := 59) (r := 27) (tl := [(0, a), (2, 2), (2, 3), (0, v8), (0, (300 - v12))]) (st' := []) (by decide +kernel) rfl (by decide +kernel) rfl (x163 h C a v8 (300 - v12) (by omega) (by omega) (by omega)) ?_
          rintro h13 ⟨Ch13, Qh13⟩
          have Xh13 : zXR msx73 (0) (0) h h13 := X.tr (c2 := 0) (s2 := 0) Qh13 (by decide +kernel) (by decide) (by decide)
          refine zwW_p [(1, 2, 0)] (q := 60) (ls' := [(2, 1), (0, a), (0, b)]) (st' := [(0, b)]) (by decide +kernel) rfl ?_
          refine zwif_ne (q := 71) (nx := 63) (by decide +kernel) (fun c14 => ?_) (fun c14 => ?_)
          · refine zwW_p [(1, 2, 0), (0, 1, 0)] (q := 73) (ls' := [(2, 1), (0, a), (0, b)]) (st' := [(0, 1), (0, b)]) (by decide +kernel) rfl ?_
            refine zwic_ne (q := 86) (nx := 76) (by decide +kernel) (fun c15 => ?_) (fun c15 => ?_)
            · refine zwW_p [(1, 0, 2)] (q := 87) (ls' := [(2, 1), (0, a), (0, b)]) (st' := [(2, 1)]) (by decide +kernel) rfl ?_
              refine zwW_gc Ch13.1 (kd := 12) (bn := 10) (n := 13) (c := 27) (nx := 90) (by decide +kernel) ?_
              refine zwW_gs Ch13.1 (kd := 2) (bn := 3) (n := 10) (t := 0) (lo := -2147483648) (hi := 2147483647) (nx := 93) (by decide +kernel) ?_
              intro v16 ev16 lv16 uv16
              refine zwW_ret (nx := 94) (a := 0) (b := 0) (by decide +kernel) rfl (Or.inl rfl) ?_
              exact ⟨Ch13, Xh13.le (by decide) (by decide), by omega⟩
            · refine zwW_p [(1, 0, 2)] (q := 77) (ls' := [(2, 1), (0, a), (0, b)]) (st' := [(2, 1)]) (by decide +kernel) rfl ?_
              refine zwW_gc Ch13.1 (kd := 12) (bn := 10) (n := 13) (c := 27) (nx := 80) (by decide +kernel) ?_
              refine zwW_gs Ch13.1 (kd := 2) (bn := 2) (n := 10) (t := 0) (lo := -2147483648) (hi := 2147483647) (nx := 83) (by decide +kernel) ?_
              intro v17 ev17 lv17 uv17
              refine zwW_p [(24, 93, 0)] (q := 93) (ls' := [(2, 1), (0, a), (0, b)]) (st' := [(0, v17)]) (by decide +kernel) rfl ?_
              refine zwW_ret (nx := 94) (a := 0) (b := 0) (by decide +kernel) rfl (Or.inl rfl) ?_
              exact ⟨Ch13, Xh13.le (by decide) (by decide), by omega⟩
          · refine zwW_p [(1, 0, 2)] (q := 64) (ls' := [(2, 1), (0, a), (0, b)]) (st' := [(2, 1)]) (by decide +kernel) rfl ?_
            refine zwW_gc Ch13.1 (kd := 12) (bn := 10) (n := 13) (c := 27) (nx := 67) (by decide +kernel) ?_
            refine zwW_gs Ch13.1 (kd := 2) (bn := 1) (n := 10) (t := 0) (lo := -2147483648) (hi := 2147483647) (nx := 70) (by decide +kernel) ?_
            intro v18 ev18 lv18 uv18
            refine zwW_ret (nx := 71) (a := 0) (b := 0) (by decide +kernel) rfl (Or.inl rfl) ?_
            exact ⟨Ch13, Xh13.le (by decide) (by decide), by omega⟩
        · refine zwW_p [(0, -1, 0)] (q := 24) (ls' := [(2, 1), (0, a), (0, b)]) (st' := [(0, -1)]) (by decide +kernel) rfl ?_
          refine zwW_ret (nx := 25) (a := 0) (b := 0) (by decide +kernel) rfl (Or.inl rfl) ?_
          exact ⟨C, X.le (by decide) (by decide), by omega⟩
-- WheelLand.hungry(I)I
theorem x75 {sc : List Int} (h : Hp) (C : CI h) (a : Int) (q_a : -2147483648 ≤ a ∧ a ≤ 2147483647) : zwC sc 5 75 [(2, 1), (0, a)] h (zwRt 0 (fun x g => h = g ∧ (-2147483648 ≤ x ∧ x ≤ 2147483647))) := by
  refine zwC_of (D := 4) 5 (by decide +kernel) rfl (ls := [(2, 1), (0, a), (9, 0), (9, 0), (9, 0)]) rfl ?_
  refine zwW_p [(1, 1, 0), (0, 1, 0), (0, 99, 0)] (q := 4) (ls' := [(2, 1), (0, a), (9, 0), (9, 0), (9, 0)]) (st' := [(0, 99), (0, 1), (0, a)]) (by decide +kernel) rfl ?_
  refine zwW_cs (k' := 98) (n := 3) (nx := 7) (as := [(0, a), (0, 1), (0, 99)]) (st' := []) (by decide +kernel) rfl (x98 h C a 1 99 (by omega) (by omega) (by omega)) rfl ?_
  rintro x _ ⟨rfl, ⟨rfl, c1⟩ | ⟨rfl, c1⟩⟩
  · refine zwif_eq (q := 12) (nx := 10) (by decide +kernel) (fun c2 => ?_) (fun c2 => ?_)
    · exfalso; omega
    · refine zwW_p [(0, -1, 0)] (q := 11) (ls' := [(2, 1), (0, a), (9, 0), (9, 0), (9, 0)]) (st' := [(0, -1)]) (by decide +kernel) rfl ?_
      refine zwW_ret (nx := 12) (a := 0) (b := 0) (by decide +kernel) rfl (Or.inl rfl) ?_
      exact ⟨rfl, by omega⟩
  · refine zwif_eq (q := 12) (nx := 10) (by decide +kernel) (fun c3 => ?_) (fun c3 => ?_)
    · refine zwW_p [(0, 0, 0), (2, 2, 0), (0, 0, 0), (2, 3, 0)] (q := 16) (ls' := [(2, 1), (0, a), (0, 0), (0, 0), (9, 0)]) (st' := []) (by decide +kernel) rfl ?_
      have L4 : ∀ (n : Nat) (v2L4 v3L4 : Int) (w4L4 : Vl), n = ((1000 - v3L4)).toNat → (-2147483648 ≤ v2L4 ∧ v2L4 ≤ 2147483647) → (0 ≤ v3L4 ∧ v3L4 ≤ 1000) → zwW sc (4) 75 16 [(2, 1), (0, a), (0, v2L4), (0, v3L4), w4L4] [] h (zwRt 0 (fun x g => h = g ∧ (-2147483648 ≤ x ∧ x ≤ 2147483647))) := by
        intro n
        induction n using Nat.strongRecOn with
        | ind n IHL4 =>
          intro v2L4 v3L4 w4L4 hnL4 iL4_0 iL4_1
          refine zwW_p [(1, 3, 0), (1, 0, 2)] (q := 18) (ls' := [(2, 1), (0, a), (0, v2L4), (0, v3L4), w4L4]) (st' := [(2, 1), (0, v3L4)]) (by decide +kernel) rfl ?_
          refine zwW_gc C.1 (kd := 12) (bn := 3) (n := 13) (c := 3) (nx := 21) (by decide +kernel) ?_
          refine zwW_cm C.1 (op := 60) (k' := 96) (n := 0) (kd := 0) (m := 3) (nx := 24) (r := 3) (tl := []) (st' := [(0, v3L4)]) (by decide +kernel) rfl (by decide +kernel) rfl (x96_3 C) ?_
          rintro v5 _ ⟨rfl, ev5⟩
          have bv5 := zLb_3 C
          refine zwic_ge (q := 67) (nx := 27) (by decide +kernel) (fun c6 => ?_) (fun c6 => ?_)
          · refine zwW_p [(1, 2, 0)] (q := 68) (ls' := [(2, 1), (0, a), (0, v2L4), (0, v3L4), w4L4]) (st' := [(0, v2L4)]) (by decide +kernel) rfl ?_
            refine zwW_ret (nx := 69) (a := 0) (b := 0) (by decide +kernel) rfl (Or.inl rfl) ?_
            exact ⟨rfl, by omega⟩
          · refine zwW_p [(1, 0, 2)] (q := 28) (ls' := [(2, 1), (0, a), (0, v2L4), (0, v3L4), w4L4]) (st' := [(2, 1)]) (by decide +kernel) rfl ?_
            refine zwW_gc C.1 (kd := 12) (bn := 3) (n := 13) (c := 3) (nx := 31) (by decide +kernel) ?_
            refine zwW_p [(1, 3, 0)] (q := 32) (ls' := [(2, 1), (0, a), (0, v2L4), (0, v3L4), w4L4]) (st' := [(0, v3L4), (2, 3)]) (by decide +kernel) rfl ?_
            refine zwW_cm C.1 (op := 60) (k' := 123) (n := 1) (kd := 0) (m := 3) (nx := 35) (r := 3) (tl := [(0, v3L4)]) (st' := []) (by decide +kernel) rfl (by decide +kernel) rfl (x123_3 C (i := v3L4) ⟨by omega, by omega⟩) ?_
            rintro v7 _ ⟨rfl, Gv7, ev7⟩
            have lv7 := Gv7.1
            refine zwW_cast (a := 4) (kd := 4) (n := 19) (nx := 38) (by decide +kernel) rfl (Or.inr Gv7.2.1) ?_
            refine zwW_p [(2, 4, 2), (1, 4, 2)] (q := 42) (ls' := [(2, 1), (0, a), (0, v2L4), (0, v3L4), (2, v7)]) (st' := [(2, v7)]) (by decide +kernel) rfl ?_
            refine zwX_gi C (kd := 4) (bn := 6) (n := 19) (nx := 45) (by decide +kernel) Gv7.2.1 Gv7.1 rfl ?_
            intro v8 ev8 lv8 uv8
            refine zwW_p [(1, 4, 2)] (q := 47) (ls' := [(2, 1), (0, a), (0, v2L4), (0, v3L4), (2, v7)]) (st' := [(2, v7), (0, v8)]) (by decide +kernel) rfl ?_
            refine zwX_gi C (kd := 4) (bn := 5) (n := 19) (nx := 50) (by decide +kernel) Gv7.2.1 Gv7.1 rfl ?_
            intro v9 ev9 lv9 uv9
            refine zwW_p [(1, 1, 0)] (q := 51) (ls' := [(2, 1), (0, a), (0, v2L4), (0, v3L4), (2, v7)]) (st' := [(0, a), (0, v9), (0, v8)]) (by decide +kernel) rfl ?_
            refine zwW_mlw (nx := 52) (by decide +kernel) ?_
            intro v10 ev10 lv10 uv10
            have Ev10 : v10 = w32 ((fld h v7 5) * a) := by rw [ev10, ev9]
            refine zwic_ge (q := 61) (nx := 55) (by decide +kernel) (fun c11 => ?_) (fun c11 => ?_)
            · refine zwW_inc (i := 3) (c := 1) (x := v3L4) (nx := 64) (by decide +kernel) rfl ⟨by omega, by omega⟩ (ls' := [(2, 1), (0, a), (0, v2L4), (0, (v3L4 + 1)), (2, v7)]) rfl ?_
              refine zwW_p [(24, 16, 0)] (q := 16) (ls' := [(2, 1), (0, a), (0, v2L4), (0, (v3L4 + 1)), (2, v7)]) (st' := []) (by decide +kernel) rfl ?_
              exact IHL4 ((1000 - (v3L4 + 1))).toNat (by omega) v2L4 (v3L4 + 1) (2, v7) rfl (by omega) (by omega)
            · refine zwW_p [(1, 2, 0), (0, 1, 0), (1, 3, 0)] (q := 58) (ls' := [(2, 1), (0, a), (0, v2L4), (0, v3L4), (2, v7)]) (st' := [(0, v3L4), (0, 1), (0, v2L4)]) (by decide +kernel) rfl ?_
              refine zwW_any2 (a := 8) (nx := 59) (by decide +kernel) rfl ⟨by omega, by omega⟩ (Or.inr ⟨by decide, by decide⟩) ?_
              intro v12 lv12 uv12
              refine zwW_any2 (a := 6) (nx := 60) (by decide +kernel) rfl ⟨by omega, by omega⟩ (Or.inr ⟨by decide, by decide⟩) ?_
              intro v13 lv13 uv13
              refine zwW_p [(2, 2, 0)] (q := 61) (ls' := [(2, 1), (0, a), (0, v13), (0, v3L4), (2, v7)]) (st' := []) (by decide +kernel) rfl ?_
              refine zwW_inc (i := 3) (c := 1) (x := v3L4) (nx := 64) (by decide +kernel) rfl ⟨by omega, by omega⟩ (ls' := [(2, 1), (0, a), (0, v13), (0, (v3L4 + 1)), (2, v7)]) rfl ?_
              refine zwW_p [(24, 16, 0)] (q := 16) (ls' := [(2, 1), (0, a), (0, v13), (0, (v3L4 + 1)), (2, v7)]) (st' := []) (by decide +kernel) rfl ?_
              exact IHL4 ((1000 - (v3L4 + 1))).toNat (by omega) v13 (v3L4 + 1) (2, v7) rfl (by omega) (by omega)
      exact L4 _ 0 0 (9, 0) rfl (by omega) (by omega)
    · exfalso; omega
def msx77 : Zms := [(17, 17, 0, 13), (18, 18, 0, 400)]
-- WheelLand.keeps(II)I
theorem x77 {sc : List Int} (h : Hp) (C : CI h) (a b : Int) (q_a : -2147483648 ≤ a ∧ a ≤ 2147483647) (q_b : -2147483648 ≤ b ∧ b ≤ 2147483647) : zwC sc 6 77 [(2, 1), (0, a), (0, b)] h (zwRt 0 (fun x g => CI g ∧ zXR msx77 (0) (0) h g ∧ (-2147483648 ≤ x ∧ x ≤ 2147483647))) := by
  refine zwC_of (D := 5) 5 (by decide +kernel) rfl (ls := [(2, 1), (0, a), (0, b), (9, 0), (9, 0)]) rfl ?_
  have X : zXR msx77 0 0 h h := zXR.rf _ _
  refine zwW_p [(1, 0, 2), (1, 1, 0)] (q := 2) (ls' := [(2, 1), (0, a), (0, b), (9, 0), (9, 0)]) (st' := [(0, a), (2, 1)]) (by decide +kernel) rfl ?_
  refine zwW_cm C.1 (op := 60) (k' := 109) (n := 1) (kd := 12) (m := 13) (nx := 5) (r := 1) (tl := [(0, a)]) (st' := []) (by decide +kernel) rfl (by decide +kernel) rfl (x109 h C a (by omega)) ?_
  rintro v2 _ ⟨rfl, ⟨rfl, c1⟩ | ⟨Gv2, c1⟩⟩
  · refine zwW_p [(2, 3, 2), (1, 3, 2)] (q := 7) (ls' := [(2, 1), (0, a), (0, b), (2, 0), (9, 0)]) (st' := [(2, 0)]) (by decide +kernel) rfl ?_
    refine zwnu_eq (q := 30) (nx := 10) (by decide +kernel) (by decide) (fun c3 => ?_) (fun c3 => ?_)
    · refine zwW_p [(0, -1, 0)] (q := 31) (ls' := [(2, 1), (0, a), (0, b), (2, 0), (9, 0)]) (st' := [(0, -1)]) (by decide +kernel) rfl ?_
      refine zwW_ret (nx := 32) (a := 0) (b := 0) (by decide +kernel) rfl (Or.inl rfl) ?_
      exact ⟨C, X.le (by decide) (by decide), by omega⟩
    · exfalso; omega
  · have lv2 := Gv2.1
    have ev2 := c1.2.2
    refine zwW_p [(2, 3, 2), (1, 3, 2)] (q := 7) (ls' := [(2, 1), (0, a), (0, b), (2, v2), (9, 0)]) (st' := [(2, v2)]) (by decide +kernel) rfl ?_
    refine zwnu_eq (q := 30) (nx := 10) (by decide +kernel) (by omega) (fun c4 => ?_) (fun c4 => ?_)
    · exfalso; omega
    · refine zwW_p [(1, 2, 0), (0, 1, 0), (0, 99, 0)] (q := 14) (ls' := [(2, 1), (0, a), (0, b), (2, v2), (9, 0)]) (st' := [(0, 99), (0, 1), (0, b)]) (by decide +kernel) rfl ?_
      refine zwW_cs (k' := 98) (n := 3) (nx := 17) (as := [(0, b), (0, 1), (0, 99)]) (st' := []) (by decide +kernel) rfl (x98 h C b 1 99 (by omega) (by omega) (by omega)) rfl ?_
      rintro x _ ⟨rfl, ⟨rfl, c5⟩ | ⟨rfl, c5⟩⟩
      · refine zwif_ne (q := 30) (nx := 20) (by decide +kernel) (fun c6 => ?_) (fun c6 => ?_)
        · refine zwW_p [(0, -1, 0)] (q := 31) (ls' := [(2, 1), (0, a), (0, b), (2, v2), (9, 0)]) (st' := [(0, -1)]) (by decide +kernel) rfl ?_
          refine zwW_ret (nx := 32) (a := 0) (b := 0) (by decide +kernel) rfl (Or.inl rfl) ?_
          exact ⟨C, X.le (by decide) (by decide), by omega⟩
        · exfalso; omega
      · refine zwif_ne (q := 30) (nx := 20) (by decide +kernel) (fun c7 => ?_) (fun c7 => ?_)
        · exfalso; omega
        · refine zwW_p [(1, 0, 2)] (q := 21) (ls' := [(2, 1), (0, a), (0, b), (2, v2), (9, 0)]) (st' := [(2, 1)]) (by decide +kernel) rfl ?_
          refine zwW_gs C.1 (kd := 12) (bn := 0) (n := 13) (t := 0) (lo := 0) (hi := 156) (nx := 24) (by decide +kernel) ?_
          intro v8 ev8 lv8 uv8
          refine zwW_p [(0, 156, 0)] (q := 27) (ls' := [(2, 1), (0, a), (0, b), (2, v2), (9, 0)]) (st' := [(0, 156), (0, v8)]) (by decide +kernel) rfl ?_
          refine zwic_lt (q := 32) (nx := 30) (by decide +kernel) (fun c9 => ?_) (fun c9 => ?_)
          · refine zwW_p [(1, 0, 2)] (q := 33) (ls' := [(2, 1), (0, a), (0, b), (2, v2), (9, 0)]) (st' := [(2, 1)]) (by decide +kernel) rfl ?_
            refine zwW_gc C.1 (kd := 12) (bn := 8) (n := 13) (c := 13) (nx := 36) (by decide +kernel) ?_
            refine zwW_p [(1, 0, 2)] (q := 37) (ls' := [(2, 1), (0, a), (0, b), (2, v2), (9, 0)]) (st' := [(2, 1), (2, 13)]) (by decide +kernel) rfl ?_
            refine zwW_gs C.1 (kd := 12) (bn := 0) (n := 13) (t := 0) (lo := 0) (hi := 156) (nx := 40) (by decide +kernel) ?_
            intro v10 ev10 lv10 uv10
            refine zwW_cmv C.1 (op := 60) (k' := 166) (n := 1) (kd := 9) (m := 6) (nx := 43) (r := 13) (tl := [(0, v10)]) (st' := []) (by decide +kernel) rfl (by decide +kernel) rfl (x166 h C v10 (by omega) (by omega)) ?_
            rintro h11 ⟨Ch11, Qh11⟩
            have Xh11 : zXR msx77 (0) (0) h h11 := X.tr (c2 := 0) (s2 := 0) Qh11 (by decide +kernel) (by decide) (by decide)
            have Gh11_0 : gH h11 v2 := Gv2.x Qh11
            refine zwW_p [(1, 0, 2)] (q := 44) (ls' := [(2, 1), (0, a), (0, b), (2, v2), (9, 0)]) (st' := [(2, 1)]) (by decide +kernel) rfl ?_
            refine zwW_gc Ch11.1 (kd := 12) (bn := 8) (n := 13) (c := 13) (nx := 47) (by decide +kernel) ?_
            refine zwW_p [(1, 3, 2), (1, 0, 2)] (q := 49) (ls' := [(2, 1), (0, a), (0, b), (2, v2), (9, 0)]) (st' := [(2, 1), (2, v2), (2, 13)]) (by decide +kernel) rfl ?_
            refine zwW_gs Ch11.1 (kd := 12) (bn := 0) (n := 13) (t := 0) (lo := 0) (hi := 156) (nx := 52) (by decide +kernel) ?_
            intro v12 ev12 lv12 uv12
            refine zwW_cs (k' := 162) (n := 1) (nx := 55) (as := [(0, v12)]) (st' := [(2, v2), (2, 13)]) (by decide +kernel) rfl (x162 h11 Ch11 v12 (by omega) (by omega)) rfl ?_
            rintro v13 _ ⟨rfl, f14, f15, f16⟩
            refine zwW_cmv Ch11.1 (op := 60) (k' := 167) (n := 2) (kd := 9) (m := 6) (nx := 58) (r := 13) (tl := [(2, v2), (0, v13)]) (st' := []) (by decide +kernel) rfl (by decide +kernel) rfl (x167 h11 Ch11 v2 v13 Gh11_0 (by omega)) ?_
            rintro h17 ⟨Ch17, Qh17⟩
            have Xh17 : zXR msx77 (0) (0) h h17 := Xh11.tr (c2 := 0) (s2 := 0) Qh17 (by decide +kernel) (by decide) (by decide)
            have Gh17_0 : gH h17 v2 := Gh11_0.x Qh17
            refine zwW_p [(1, 0, 2)] (q := 59) (ls' := [(2, 1), (0, a), (0, b), (2, v2), (9, 0)]) (st' := [(2, 1)]) (by decide +kernel) rfl ?_
            refine zwW_gc Ch17.1 (kd := 12) (bn := 8) (n := 13) (c := 13) (nx := 62) (by decide +kernel) ?_
            refine zwW_p [(1, 3, 2)] (q := 63) (ls' := [(2, 1), (0, a), (0, b), (2, v2), (9, 0)]) (st' := [(2, v2), (2, 13)]) (by decide +kernel) rfl ?_
            refine zwX_gi Ch17 (kd := 4) (bn := 4) (n := 19) (nx := 66) (by decide +kernel) Gh17_0.2.1 Gh17_0.1 rfl ?_
            intro v18 ev18 lv18 uv18
            refine zwW_p [(0, 0, 0)] (q := 67) (ls' := [(2, 1), (0, a), (0, b), (2, v2), (9, 0)]) (st' := [(0, 0), (0, v18), (2, 13)]) (by decide +kernel) rfl ?_
            refine zwW_cmv Ch17.1 (op := 60) (k' := 168) (n := 2) (kd := 9) (m := 6) (nx := 70) (r := 13) (tl := [(0, v18), (0, 0)]) (st' := []) (by decide +kernel) rfl (by decide +kernel) rfl (x168 h17 Ch17 v18 0 (by omega) (by omega)) ?_
            rintro h19 ⟨Ch19, Qh19⟩
            have Xh19 : zXR msx77 (0) (0) h h19 := Xh17.tr (c2 := 0) (s2 := 0) Qh19 (by decide +kernel) (by decide) (by decide)
            have Gh19_0 : gH h19 v2 := Gh17_0.x Qh19
            refine zwW_p [(1, 0, 2)] (q := 71) (ls' := [(2, 1), (0, a), (0, b), (2, v2), (9, 0)]) (st' := [(2, 1)]) (by decide +kernel) rfl ?_
            refine zwW_gc Ch19.1 (kd := 12) (bn := 8) (n := 13) (c := 13) (nx := 74) (by decide +kernel) ?_
            refine zwW_p [(1, 3, 2)] (q := 75) (ls' := [(2, 1), (0, a), (0, b), (2, v2), (9, 0)]) (st' := [(2, v2), (2, 13)]) (by decide +kernel) rfl ?_
            refine zwX_gi Ch19 (kd := 4) (bn := 7) (n := 19) (nx := 78) (by decide +kernel) Gh19_0.2.1 Gh19_0.1 rfl ?_
            intro v20 ev20 lv20 uv20
            refine zwW_p [(1, 3, 2)] (q := 79) (ls' := [(2, 1), (0, a), (0, b), (2, v2), (9, 0)]) (st' := [(2, v2), (0, v20), (2, 13)]) (by decide +kernel) rfl ?_
            refine zwW_cv (op := 60) (k' := 169) (n := 0) (kd := 4) (m := 19) (nx := 82) (r := v2) (tl := []) (st' := [(0, v20), (2, 13)]) (by decide +kernel) rfl (by decide +kernel) Gh19_0.2.1 (x169 h19 Ch19 v2 Gh19_0) rfl ?_
            rintro v21 _ ⟨rfl, f22⟩
            refine zwW_p [(1, 0, 2), (1, 3, 2)] (q := 84) (ls' := [(2, 1), (0, a), (0, b), (2, v2), (9, 0)]) (st' := [(2, v2), (2, 1), (0, v21), (0, v20), (2, 13)]) (by decide +kernel) rfl ?_
            refine zwW_cm Ch19.1 (op := 60) (k' := 170) (n := 1) (kd := 12) (m := 13) (nx := 87) (r := 1) (tl := [(2, v2)]) (st' := [(0, v21), (0, v20), (2, 13)]) (by decide +kernel) rfl (by decide +kernel) rfl (x170 h19 Ch19 v2 Gh19_0) ?_
            rintro v23 _ ⟨rfl, f24, f25⟩
            refine zwW_cmv Ch19.1 (op := 60) (k' := 171) (n := 3) (kd := 9) (m := 6) (nx := 90) (r := 13) (tl := [(0, v20), (0, v21), (0, v23)]) (st' := []) (by decide +kernel) rfl (by decide +kernel) rfl (x171 h19 Ch19 v20 v21 v23 (by omega) (by omega) (by omega)) ?_
            rintro h26 ⟨Ch26, Qh26⟩
            have Xh26 : zXR msx77 (0) (0) h h26 := Xh19.tr (c2 := 0) (s2 := 0) Qh26 (by decide +kernel) (by decide) (by decide)
            have Gh26_0 : gH h26 v2 := Gh19_0.x Qh26
            refine zwW_p [(1, 0, 2)] (q := 91) (ls' := [(2, 1), (0, a), (0, b), (2, v2), (9, 0)]) (st' := [(2, 1)]) (by decide +kernel) rfl ?_
            refine zwW_gc Ch26.1 (kd := 12) (bn := 8) (n := 13) (c := 13) (nx := 94) (by decide +kernel) ?_
            refine zwW_p [(0, 1, 0), (1, 0, 2)] (q := 96) (ls' := [(2, 1), (0, a), (0, b), (2, v2), (9, 0)]) (st' := [(2, 1), (0, 1), (2, 13)]) (by decide +kernel) rfl ?_
            refine zwW_gs Ch26.1 (kd := 12) (bn := 0) (n := 13) (t := 0) (lo := 0) (hi := 156) (nx := 99) (by decide +kernel) ?_
            intro v27 ev27 lv27 uv27
            refine zwW_cm Ch26.1 (op := 60) (k' := 172) (n := 2) (kd := 9) (m := 6) (nx := 102) (r := 13) (tl := [(0, 1), (0, v27)]) (st' := []) (by decide +kernel) rfl (by decide +kernel) rfl (x172 h26 Ch26 1 v27 (by omega) (by omega)) ?_
            rintro v29 h30 ⟨Ch30, Qh30, f28⟩
            have Xh30 : zXR msx77 (0) (0) h h30 := Xh26.tr (c2 := 0) (s2 := 0) Qh30 (by decide +kernel) (by decide) (by decide)
            have Gh30_0 : gH h30 v2 := Gh26_0.x Qh30
            refine zwW_p [(0, 0, 0)] (q := 103) (ls' := [(2, 1), (0, a), (0, b), (2, v2), (9, 0)]) (st' := [(0, 0), (0, v29)]) (by decide +kernel) rfl ?_
            refine zwW_max (nx := 106) (by decide +kernel) rfl ?_
            intro v31 ev31
            refine zwW_p [(2, 4, 0), (1, 4, 0), (1, 3, 2)] (q := 111) (ls' := [(2, 1), (0, a), (0, b), (2, v2), (0, v31)]) (st' := [(2, v2), (0, v31)]) (by decide +kernel) rfl ?_
            refine zwX_gi Ch30 (kd := 4) (bn := 5) (n := 19) (nx := 114) (by decide +kernel) Gh30_0.2.1 Gh30_0.1 rfl ?_
            intro v32 ev32 lv32 uv32
            refine zwW_p [(1, 2, 0)] (q := 115) (ls' := [(2, 1), (0, a), (0, b), (2, v2), (0, v31)]) (st' := [(0, b), (0, v32), (0, v31)]) (by decide +kernel) rfl ?_
            refine zwW_mlw (nx := 116) (by decide +kernel) ?_
            intro v33 ev33 lv33 uv33
            have Ev33 : v33 = w32 ((fld h30 v2 5) * b) := by rw [ev33, ev32]
            refine zwW_cs (k' := 173) (n := 2) (nx := 119) (as := [(0, v31), (0, v33)]) (st' := []) (by decide +kernel) rfl (x173 h30 Ch30 v31 v33 (by omega) (by omega)) rfl ?_
            rintro v34 _ ⟨rfl, f35⟩
            refine zwW_ret (nx := 120) (a := 0) (b := 0) (by decide +kernel) rfl (Or.inl rfl) ?_
            exact ⟨Ch30, Xh30.le (by decide) (by decide), by omega⟩
          · refine zwW_p [(0, -1, 0)] (q := 31) (ls' := [(2, 1), (0, a), (0, b), (2, v2), (9, 0)]) (st' := [(0, -1)]) (by decide +kernel) rfl ?_
            refine zwW_ret (nx := 32) (a := 0) (b := 0) (by decide +kernel) rfl (Or.inl rfl) ?_
            exact ⟨C, X.le (by decide) (by decide), by omega⟩
-- WheelLand.told(II)I
theorem x79 {sc : List Int} (h : Hp) (C : CI h) (a b : Int) (q_a : -2147483648 ≤ a ∧ a ≤ 2147483647) (q_b : -2147483648 ≤ b ∧ b ≤ 2147483647) : zwC sc 2 79 [(2, 1), (0, a), (0, b)] h (zwRt 0 (fun x g => h = g ∧ (-2147483648 ≤ x ∧ x ≤ 2147483647))) := by
  refine zwC_of (D := 1) 3 (by decide +kernel) rfl (ls := [(2, 1), (0, a), (0, b)]) rfl ?_
  refine zwW_p [(1, 1, 0), (0, 0, 0), (1, 0, 2)] (q := 3) (ls' := [(2, 1), (0, a), (0, b)]) (st' := [(2, 1), (0, 0), (0, a)]) (by decide +kernel) rfl ?_
  refine zwW_gs C.1 (kd := 12) (bn := 0) (n := 13) (t := 0) (lo := 0) (hi := 156) (nx := 6) (by decide +kernel) ?_
  intro v1 ev1 lv1 uv1
  refine zwW_p [(0, 1, 0)] (q := 7) (ls' := [(2, 1), (0, a), (0, b)]) (st' := [(0, 1), (0, v1), (0, 0), (0, a)]) (by decide +kernel) rfl ?_
  refine zwW_sub (nx := 8) (by decide +kernel) ⟨by omega, by omega⟩ ?_
  refine zwW_cs (k' := 98) (n := 3) (nx := 11) (as := [(0, a), (0, 0), (0, (v1 - 1))]) (st' := []) (by decide +kernel) rfl (x98 h C a 0 (v1 - 1) (by omega) (by omega) (by omega)) rfl ?_
  rintro x _ ⟨rfl, ⟨rfl, c2⟩ | ⟨rfl, c2⟩⟩
  · refine zwif_ne (q := 23) (nx := 14) (by decide +kernel) (fun c3 => ?_) (fun c3 => ?_)
    · refine zwW_p [(0, -1, 0)] (q := 24) (ls' := [(2, 1), (0, a), (0, b)]) (st' := [(0, -1)]) (by decide +kernel) rfl ?_
      refine zwW_ret (nx := 25) (a := 0) (b := 0) (by decide +kernel) rfl (Or.inl rfl) ?_
      exact ⟨rfl, by omega⟩
    · exfalso; omega
  · refine zwif_ne (q := 23) (nx := 14) (by decide +kernel) (fun c4 => ?_) (fun c4 => ?_)
    · exfalso; omega
    · refine zwW_p [(1, 2, 0), (0, 0, 0), (0, 5, 0)] (q := 17) (ls' := [(2, 1), (0, a), (0, b)]) (st' := [(0, 5), (0, 0), (0, b)]) (by decide +kernel) rfl ?_
      refine zwW_cs (k' := 98) (n := 3) (nx := 20) (as := [(0, b), (0, 0), (0, 5)]) (st' := []) (by decide +kernel) rfl (x98 h C b 0 5 (by omega) (by omega) (by omega)) rfl ?_
      rintro x _ ⟨rfl, ⟨rfl, c5⟩ | ⟨rfl, c5⟩⟩
      · refine zwif_eq (q := 25) (nx := 23) (by decide +kernel) (fun c6 => ?_) (fun c6 => ?_)
        · exfalso; omega
        · refine zwW_p [(0, -1, 0)] (q := 24) (ls' := [(2, 1), (0, a), (0, b)]) (st' := [(0, -1)]) (by decide +kernel) rfl ?_
          refine zwW_ret (nx := 25) (a := 0) (b := 0) (by decide +kernel) rfl (Or.inl rfl) ?_
          exact ⟨rfl, by omega⟩
      · refine zwif_eq (q := 25) (nx := 23) (by decide +kernel) (fun c7 => ?_) (fun c7 => ?_)
        · refine zwW_p [(1, 0, 2)] (q := 26) (ls' := [(2, 1), (0, a), (0, b)]) (st' := [(2, 1)]) (by decide +kernel) rfl ?_
          refine zwW_gc C.1 (kd := 12) (bn := 11) (n := 13) (c := 34) (nx := 29) (by decide +kernel) ?_
          refine zwW_p [(1, 1, 0), (1, 2, 0)] (q := 31) (ls' := [(2, 1), (0, a), (0, b)]) (st' := [(0, b), (0, a), (2, 34)]) (by decide +kernel) rfl ?_
          refine zwW_cm C.1 (op := 60) (k' := 177) (n := 2) (kd := 5) (m := 4) (nx := 34) (r := 34) (tl := [(0, a), (0, b)]) (st' := []) (by decide +kernel) rfl (by decide +kernel) rfl (x177 h C a b (by omega) (by omega)) ?_
          rintro v8 _ ⟨rfl, f9⟩
          refine zwW_ret (nx := 35) (a := 0) (b := 0) (by decide +kernel) rfl (Or.inl rfl) ?_
          exact ⟨rfl, by omega⟩
        · exfalso; omega
-- WheelLand.check(III)I
theorem x81 {sc : List Int} (h : Hp) (C : CI h) (a b c : Int) (q_a : -2147483648 ≤ a ∧ a ≤ 2147483647) (q_b : -2147483648 ≤ b ∧ b ≤ 2147483647) (q_c : -2147483648 ≤ c ∧ c ≤ 2147483647) : zwC sc 4 81 [(2, 1), (0, a), (0, b), (0, c)] h (zwRt 0 (fun x g => h = g ∧ (-2147483648 ≤ x ∧ x ≤ 2147483647))) := by
  refine zwC_of (D := 3) 4 (by decide +kernel) rfl (ls := [(2, 1), (0, a), (0, b), (0, c)]) rfl ?_
  refine zwW_p [(1, 1, 0), (0, 0, 0), (1, 0, 2)] (q := 3) (ls' := [(2, 1), (0, a), (0, b), (0, c)]) (st' := [(2, 1), (0, 0), (0, a)]) (by decide +kernel) rfl ?_
  refine zwW_gs C.1 (kd := 12) (bn := 0) (n := 13) (t := 0) (lo := 0) (hi := 156) (nx := 6) (by decide +kernel) ?_
  intro v1 ev1 lv1 uv1
  refine zwW_p [(0, 1, 0)] (q := 7) (ls' := [(2, 1), (0, a), (0, b), (0, c)]) (st' := [(0, 1), (0, v1), (0, 0), (0, a)]) (by decide +kernel) rfl ?_
  refine zwW_sub (nx := 8) (by decide +kernel) ⟨by omega, by omega⟩ ?_
  refine zwW_cs (k' := 98) (n := 3) (nx := 11) (as := [(0, a), (0, 0), (0, (v1 - 1))]) (st' := []) (by decide +kernel) rfl (x98 h C a 0 (v1 - 1) (by omega) (by omega) (by omega)) rfl ?_
  rintro x _ ⟨rfl, ⟨rfl, c2⟩ | ⟨rfl, c2⟩⟩
  · refine zwif_ne (q := 23) (nx := 14) (by decide +kernel) (fun c3 => ?_) (fun c3 => ?_)
    · refine zwW_p [(0, -1, 0)] (q := 24) (ls' := [(2, 1), (0, a), (0, b), (0, c)]) (st' := [(0, -1)]) (by decide +kernel) rfl ?_
      refine zwW_ret (nx := 25) (a := 0) (b := 0) (by decide +kernel) rfl (Or.inl rfl) ?_
      exact ⟨rfl, by omega⟩
    · exfalso; omega
  · refine zwif_ne (q := 23) (nx := 14) (by decide +kernel) (fun c4 => ?_) (fun c4 => ?_)
    · exfalso; omega
    · refine zwW_p [(1, 2, 0), (0, 0, 0), (0, 5, 0)] (q := 17) (ls' := [(2, 1), (0, a), (0, b), (0, c)]) (st' := [(0, 5), (0, 0), (0, b)]) (by decide +kernel) rfl ?_
      refine zwW_cs (k' := 98) (n := 3) (nx := 20) (as := [(0, b), (0, 0), (0, 5)]) (st' := []) (by decide +kernel) rfl (x98 h C b 0 5 (by omega) (by omega) (by omega)) rfl ?_
      rintro x _ ⟨rfl, ⟨rfl, c5⟩ | ⟨rfl, c5⟩⟩
      · refine zwif_eq (q := 25) (nx := 23) (by decide +kernel) (fun c6 => ?_) (fun c6 => ?_)
        · exfalso; omega
        · refine zwW_p [(0, -1, 0)] (q := 24) (ls' := [(2, 1), (0, a), (0, b), (0, c)]) (st' := [(0, -1)]) (by decide +kernel) rfl ?_
          refine zwW_ret (nx := 25) (a := 0) (b := 0) (by decide +kernel) rfl (Or.inl rfl) ?_
          exact ⟨rfl, by omega⟩
      · refine zwif_eq (q := 25) (nx := 23) (by decide +kernel) (fun c7 => ?_) (fun c7 => ?_)
        · refine zwW_p [(1, 0, 2)] (q := 26) (ls' := [(2, 1), (0, a), (0, b), (0, c)]) (st' := [(2, 1)]) (by decide +kernel) rfl ?_
          refine zwW_gc C.1 (kd := 12) (bn := 11) (n := 13) (c := 34) (nx := 29) (by decide +kernel) ?_
          refine zwW_p [(1, 1, 0), (1, 2, 0), (1, 3, 0)] (q := 32) (ls' := [(2, 1), (0, a), (0, b), (0, c)]) (st' := [(0, c), (0, b), (0, a), (2, 34)]) (by decide +kernel) rfl ?_
          refine zwW_cm C.1 (op := 60) (k' := 178) (n := 3) (kd := 5) (m := 4) (nx := 35) (r := 34) (tl := [(0, a), (0, b), (0, c)]) (st' := []) (by decide +kernel) rfl (by decide +kernel) rfl (x178 h C a b c (by omega) (by omega) (by omega)) ?_
          rintro v8 _ ⟨rfl, f9⟩
          refine zwW_ret (nx := 36) (a := 0) (b := 0) (by decide +kernel) rfl (Or.inl rfl) ?_
          exact ⟨rfl, by omega⟩
        · exfalso; omega
-- WheelLand.is(II)I
theorem x83 {sc : List Int} (h : Hp) (C : CI h) (a b : Int) (q_a : -2147483648 ≤ a ∧ a ≤ 2147483647) (q_b : -2147483648 ≤ b ∧ b ≤ 2147483647) : zwC sc 6 83 [(2, 1), (0, a), (0, b)] h (zwRt 0 (fun x g => h = g ∧ (-2147483648 ≤ x ∧ x ≤ 2147483647))) := by
  refine zwC_of (D := 5) 4 (by decide +kernel) rfl (ls := [(2, 1), (0, a), (0, b), (9, 0)]) rfl ?_
  refine zwW_p [(1, 0, 2), (1, 1, 0)] (q := 2) (ls' := [(2, 1), (0, a), (0, b), (9, 0)]) (st' := [(0, a), (2, 1)]) (by decide +kernel) rfl ?_
  refine zwW_cm C.1 (op := 60) (k' := 102) (n := 1) (kd := 12) (m := 13) (nx := 5) (r := 1) (tl := [(0, a)]) (st' := []) (by decide +kernel) rfl (by decide +kernel) rfl (x102 h C a (by omega)) ?_
  rintro v2 _ ⟨rfl, ⟨rfl, c1⟩ | ⟨Gv2, c1⟩⟩
  · refine zwW_p [(2, 3, 2), (1, 3, 2)] (q := 7) (ls' := [(2, 1), (0, a), (0, b), (2, 0)]) (st' := [(2, 0)]) (by decide +kernel) rfl ?_
    refine zwnu_ne (q := 12) (nx := 10) (by decide +kernel) (by decide) (fun c3 => ?_) (fun c3 => ?_)
    · exfalso; omega
    · refine zwW_p [(0, -1, 0)] (q := 11) (ls' := [(2, 1), (0, a), (0, b), (2, 0)]) (st' := [(0, -1)]) (by decide +kernel) rfl ?_
      refine zwW_ret (nx := 12) (a := 0) (b := 0) (by decide +kernel) rfl (Or.inl rfl) ?_
      exact ⟨rfl, by omega⟩
  · have lv2 := Gv2.1
    have ev2 := c1.2.2
    refine zwW_p [(2, 3, 2), (1, 3, 2)] (q := 7) (ls' := [(2, 1), (0, a), (0, b), (2, v2)]) (st' := [(2, v2)]) (by decide +kernel) rfl ?_
    refine zwnu_ne (q := 12) (nx := 10) (by decide +kernel) (by omega) (fun c4 => ?_) (fun c4 => ?_)
    · refine zwW_p [(1, 2, 0)] (q := 13) (ls' := [(2, 1), (0, a), (0, b), (2, v2)]) (st' := [(0, b)]) (by decide +kernel) rfl ?_
      refine zwW_sw (d := 127) (os := [0, 72, 1, 77, 2, 82, 3, 87, 4, 92, 5, 97, 6, 102, 7, 107, 8, 112, 9, 117, 10, 122]) (by decide +kernel) ?_
      refine ⟨fun c5 => ?_, fun c5 => ?_⟩
      · show zwW _ _ _ 72 _ _ _ _
        refine zwW_p [(1, 3, 2)] (q := 73) (ls' := [(2, 1), (0, a), (0, b), (2, v2)]) (st' := [(2, v2)]) (by decide +kernel) rfl ?_
        refine zwX_gi C (kd := 11) (bn := 3) (n := 17) (nx := 76) (by decide +kernel) Gv2.2.1 Gv2.1 rfl ?_
        intro v6 ev6 lv6 uv6
        refine zwW_ret (nx := 77) (a := 0) (b := 0) (by decide +kernel) rfl (Or.inl rfl) ?_
        exact ⟨rfl, by omega⟩
      refine ⟨fun c7 => ?_, fun c7 => ?_⟩
      · show zwW _ _ _ 77 _ _ _ _
        refine zwW_p [(1, 3, 2)] (q := 78) (ls' := [(2, 1), (0, a), (0, b), (2, v2)]) (st' := [(2, v2)]) (by decide +kernel) rfl ?_
        refine zwX_gi C (kd := 11) (bn := 5) (n := 17) (nx := 81) (by decide +kernel) Gv2.2.1 Gv2.1 rfl ?_
        intro v8 ev8 lv8 uv8
        refine zwW_ret (nx := 82) (a := 0) (b := 0) (by decide +kernel) rfl (Or.inl rfl) ?_
        exact ⟨rfl, by omega⟩
      refine ⟨fun c9 => ?_, fun c9 => ?_⟩
      · show zwW _ _ _ 82 _ _ _ _
        refine zwW_p [(1, 3, 2)] (q := 83) (ls' := [(2, 1), (0, a), (0, b), (2, v2)]) (st' := [(2, v2)]) (by decide +kernel) rfl ?_
        refine zwX_gi C (kd := 11) (bn := 6) (n := 17) (nx := 86) (by decide +kernel) Gv2.2.1 Gv2.1 rfl ?_
        intro v10 ev10 lv10 uv10
        refine zwW_ret (nx := 87) (a := 0) (b := 0) (by decide +kernel) rfl (Or.inl rfl) ?_
        exact ⟨rfl, by omega⟩
      refine ⟨fun c11 => ?_, fun c11 => ?_⟩
      · show zwW _ _ _ 87 _ _ _ _
        refine zwW_p [(1, 3, 2)] (q := 88) (ls' := [(2, 1), (0, a), (0, b), (2, v2)]) (st' := [(2, v2)]) (by decide +kernel) rfl ?_
        refine zwX_gi C (kd := 11) (bn := 7) (n := 17) (nx := 91) (by decide +kernel) Gv2.2.1 Gv2.1 rfl ?_
        intro v12 ev12 lv12 uv12
        refine zwW_ret (nx := 92) (a := 0) (b := 0) (by decide +kernel) rfl (Or.inl rfl) ?_
        exact ⟨rfl, by omega⟩
      refine ⟨fun c13 => ?_, fun c13 => ?_⟩
      · show zwW _ _ _ 92 _ _ _ _
        refine zwW_p [(1, 3, 2)] (q := 93) (ls' := [(2, 1), (0, a), (0, b), (2, v2)]) (st' := [(2, v2)]) (by decide +kernel) rfl ?_
        refine zwX_gi C (kd := 11) (bn := 8) (n := 17) (nx := 96) (by decide +kernel) Gv2.2.1 Gv2.1 rfl ?_
        intro v14 ev14 lv14 uv14
        refine zwW_ret (nx := 97) (a := 0) (b := 0) (by decide +kernel) rfl (Or.inl rfl) ?_
        exact ⟨rfl, by omega⟩
      refine ⟨fun c15 => ?_, fun c15 => ?_⟩
      · show zwW _ _ _ 97 _ _ _ _
        refine zwW_p [(1, 3, 2)] (q := 98) (ls' := [(2, 1), (0, a), (0, b), (2, v2)]) (st' := [(2, v2)]) (by decide +kernel) rfl ?_
        refine zwX_gi C (kd := 11) (bn := 9) (n := 17) (nx := 101) (by decide +kernel) Gv2.2.1 Gv2.1 rfl ?_
        intro v16 ev16 lv16 uv16
        refine zwW_ret (nx := 102) (a := 0) (b := 0) (by decide +kernel) rfl (Or.inl rfl) ?_
        exact ⟨rfl, by omega⟩
      refine ⟨fun c17 => ?_, fun c17 => ?_⟩
      · show zwW _ _ _ 102 _ _ _ _
        refine zwW_p [(1, 3, 2)] (q := 103) (ls' := [(2, 1), (0, a), (0, b), (2, v2)]) (st' := [(2, v2)]) (by decide +kernel) rfl ?_
        refine zwX_gi C (kd := 11) (bn := 4) (n := 17) (nx := 106) (by decide +kernel) Gv2.2.1 Gv2.1 rfl ?_
        intro v18 ev18 lv18 uv18
        refine zwW_ret (nx := 107) (a := 0) (b := 0) (by decide +kernel) rfl (Or.inl rfl) ?_
        exact ⟨rfl, by omega⟩
      refine ⟨fun c19 => ?_, fun c19 => ?_⟩
      · show zwW _ _ _ 107 _ _ _ _
        refine zwW_p [(1, 3, 2)] (q := 108) (ls' := [(2, 1), (0, a), (0, b), (2, v2)]) (st' := [(2, v2)]) (by decide +kernel) rfl ?_
        refine zwX_gi C (kd := 11) (bn := 10) (n := 17) (nx := 111) (by decide +kernel) Gv2.2.1 Gv2.1 rfl ?_
        intro v20 ev20 lv20 uv20
        refine zwW_ret (nx := 112) (a := 0) (b := 0) (by decide +kernel) rfl (Or.inl rfl) ?_
        exact ⟨rfl, by omega⟩
      refine ⟨fun c21 => ?_, fun c21 => ?_⟩
      · show zwW _ _ _ 112 _ _ _ _
        refine zwW_p [(1, 3, 2)] (q := 113) (ls' := [(2, 1), (0, a), (0, b), (2, v2)]) (st' := [(2, v2)]) (by decide +kernel) rfl ?_
        refine zwX_gi C (kd := 11) (bn := 11) (n := 17) (nx := 116) (by decide +kernel) Gv2.2.1 Gv2.1 rfl ?_
        intro v22 ev22 lv22 uv22
        refine zwW_ret (nx := 117) (a := 0) (b := 0) (by decide +kernel) rfl (Or.inl rfl) ?_
        exact ⟨rfl, by omega⟩
      refine ⟨fun c23 => ?_, fun c23 => ?_⟩
      · show zwW _ _ _ 117 _ _ _ _
        refine zwW_p [(1, 3, 2)] (q := 118) (ls' := [(2, 1), (0, a), (0, b), (2, v2)]) (st' := [(2, v2)]) (by decide +kernel) rfl ?_
        refine zwX_gi C (kd := 11) (bn := 13) (n := 17) (nx := 121) (by decide +kernel) Gv2.2.1 Gv2.1 rfl ?_
        intro v24 ev24 lv24 uv24
        refine zwW_ret (nx := 122) (a := 0) (b := 0) (by decide +kernel) rfl (Or.inl rfl) ?_
        exact ⟨rfl, by omega⟩
      refine ⟨fun c25 => ?_, fun c25 => ?_⟩
      · show zwW _ _ _ 122 _ _ _ _
        refine zwW_p [(1, 3, 2)] (q := 123) (ls' := [(2, 1), (0, a), (0, b), (2, v2)]) (st' := [(2, v2)]) (by decide +kernel) rfl ?_
        refine zwX_gi C (kd := 11) (bn := 14) (n := 17) (nx := 126) (by decide +kernel) Gv2.2.1 Gv2.1 rfl ?_
        intro v26 ev26 lv26 uv26
        refine zwW_ret (nx := 127) (a := 0) (b := 0) (by decide +kernel) rfl (Or.inl rfl) ?_
        exact ⟨rfl, by omega⟩
      show zwW _ _ _ 127 _ _ _ _
      refine zwW_p [(0, -1, 0)] (q := 128) (ls' := [(2, 1), (0, a), (0, b), (2, v2)]) (st' := [(0, -1)]) (by decide +kernel) rfl ?_
      refine zwW_ret (nx := 129) (a := 0) (b := 0) (by decide +kernel) rfl (Or.inl rfl) ?_
      exact ⟨rfl, by omega⟩
    · exfalso; omega
-- WheelLand.has(II)I
theorem x85 {sc : List Int} (h : Hp) (C : CI h) (a b : Int) (q_a : -2147483648 ≤ a ∧ a ≤ 2147483647) (q_b : -2147483648 ≤ b ∧ b ≤ 2147483647) : zwC sc 6 85 [(2, 1), (0, a), (0, b)] h (zwRt 0 (fun x g => h = g ∧ (-2147483648 ≤ x ∧ x ≤ 2147483647))) := by
  refine zwC_of (D := 5) 4 (by decide +kernel) rfl (ls := [(2, 1), (0, a), (0, b), (9, 0)]) rfl ?_
  refine zwW_p [(1, 0, 2), (1, 1, 0)] (q := 2) (ls' := [(2, 1), (0, a), (0, b), (9, 0)]) (st' := [(0, a), (2, 1)]) (by decide +kernel) rfl ?_
  refine zwW_cm C.1 (op := 60) (k' := 109) (n := 1) (kd := 12) (m := 13) (nx := 5) (r := 1) (tl := [(0, a)]) (st' := []) (by decide +kernel) rfl (by decide +kernel) rfl (x109 h C a (by omega)) ?_
  rintro v2 _ ⟨rfl, ⟨rfl, c1⟩ | ⟨Gv2, c1⟩⟩
  · refine zwW_p [(2, 3, 2), (1, 3, 2)] (q := 7) (ls' := [(2, 1), (0, a), (0, b), (2, 0)]) (st' := [(2, 0)]) (by decide +kernel) rfl ?_
    refine zwnu_ne (q := 13) (nx := 10) (by decide +kernel) (by decide) (fun c3 => ?_) (fun c3 => ?_)
    · exfalso; omega
    · refine zwW_p [(0, -2147483648, 0)] (q := 12) (ls' := [(2, 1), (0, a), (0, b), (2, 0)]) (st' := [(0, -2147483648)]) (by decide +kernel) rfl ?_
      refine zwW_ret (nx := 13) (a := 0) (b := 0) (by decide +kernel) rfl (Or.inl rfl) ?_
      exact ⟨rfl, by omega⟩
  · have lv2 := Gv2.1
    have ev2 := c1.2.2
    refine zwW_p [(2, 3, 2), (1, 3, 2)] (q := 7) (ls' := [(2, 1), (0, a), (0, b), (2, v2)]) (st' := [(2, v2)]) (by decide +kernel) rfl ?_
    refine zwnu_ne (q := 13) (nx := 10) (by decide +kernel) (by omega) (fun c4 => ?_) (fun c4 => ?_)
    · refine zwW_p [(1, 2, 0)] (q := 14) (ls' := [(2, 1), (0, a), (0, b), (2, v2)]) (st' := [(0, b)]) (by decide +kernel) rfl ?_
      refine zwW_sw (d := 141) (os := [0, 72, 1, 80, 2, 85, 3, 90, 4, 95, 5, 100, 6, 105, 7, 110, 8, 115, 9, 120, 10, 125]) (by decide +kernel) ?_
      refine ⟨fun c5 => ?_, fun c5 => ?_⟩
      · show zwW _ _ _ 72 _ _ _ _
        refine zwW_p [(1, 3, 2)] (q := 73) (ls' := [(2, 1), (0, a), (0, b), (2, v2)]) (st' := [(2, v2)]) (by decide +kernel) rfl ?_
        refine zwW_get (kd := 4) (bn := 1) (t := 2) (n := 19) (nx := 76) (by decide +kernel) Gv2.2.1 rfl ?_
        obtain ⟨v6, ev6⟩ : ∃ z, z = fld h v2 1 := ⟨_, rfl⟩
        rw [← ev6]
        have Gv6 : gV h v6 := by rw [ev6]; exact Gv2.2.2
        have lv6 := Gv6.1
        refine zwX_gi C (kd := 11) (bn := 0) (n := 17) (nx := 79) (by decide +kernel) Gv6.2.1 Gv6.1 rfl ?_
        intro v7 ev7 lv7 uv7
        refine zwW_ret (nx := 80) (a := 0) (b := 0) (by decide +kernel) rfl (Or.inl rfl) ?_
        exact ⟨rfl, by omega⟩
      refine ⟨fun c8 => ?_, fun c8 => ?_⟩
      · show zwW _ _ _ 80 _ _ _ _
        refine zwW_p [(1, 3, 2)] (q := 81) (ls' := [(2, 1), (0, a), (0, b), (2, v2)]) (st' := [(2, v2)]) (by decide +kernel) rfl ?_
        refine zwX_gi C (kd := 4) (bn := 2) (n := 19) (nx := 84) (by decide +kernel) Gv2.2.1 Gv2.1 rfl ?_
        intro v9 ev9 lv9 uv9
        refine zwW_ret (nx := 85) (a := 0) (b := 0) (by decide +kernel) rfl (Or.inl rfl) ?_
        exact ⟨rfl, by omega⟩
      refine ⟨fun c10 => ?_, fun c10 => ?_⟩
      · show zwW _ _ _ 85 _ _ _ _
        refine zwW_p [(1, 3, 2)] (q := 86) (ls' := [(2, 1), (0, a), (0, b), (2, v2)]) (st' := [(2, v2)]) (by decide +kernel) rfl ?_
        refine zwX_gi C (kd := 4) (bn := 3) (n := 19) (nx := 89) (by decide +kernel) Gv2.2.1 Gv2.1 rfl ?_
        intro v11 ev11 lv11 uv11
        refine zwW_ret (nx := 90) (a := 0) (b := 0) (by decide +kernel) rfl (Or.inl rfl) ?_
        exact ⟨rfl, by omega⟩
      refine ⟨fun c12 => ?_, fun c12 => ?_⟩
      · show zwW _ _ _ 90 _ _ _ _
        refine zwW_p [(1, 3, 2)] (q := 91) (ls' := [(2, 1), (0, a), (0, b), (2, v2)]) (st' := [(2, v2)]) (by decide +kernel) rfl ?_
        refine zwX_gi C (kd := 4) (bn := 4) (n := 19) (nx := 94) (by decide +kernel) Gv2.2.1 Gv2.1 rfl ?_
        intro v13 ev13 lv13 uv13
        refine zwW_ret (nx := 95) (a := 0) (b := 0) (by decide +kernel) rfl (Or.inl rfl) ?_
        exact ⟨rfl, by omega⟩
      refine ⟨fun c14 => ?_, fun c14 => ?_⟩
      · show zwW _ _ _ 95 _ _ _ _
        refine zwW_p [(1, 3, 2)] (q := 96) (ls' := [(2, 1), (0, a), (0, b), (2, v2)]) (st' := [(2, v2)]) (by decide +kernel) rfl ?_
        refine zwX_gi C (kd := 4) (bn := 5) (n := 19) (nx := 99) (by decide +kernel) Gv2.2.1 Gv2.1 rfl ?_
        intro v15 ev15 lv15 uv15
        refine zwW_ret (nx := 100) (a := 0) (b := 0) (by decide +kernel) rfl (Or.inl rfl) ?_
        exact ⟨rfl, by omega⟩
      refine ⟨fun c16 => ?_, fun c16 => ?_⟩
      · show zwW _ _ _ 100 _ _ _ _
        refine zwW_p [(1, 3, 2)] (q := 101) (ls' := [(2, 1), (0, a), (0, b), (2, v2)]) (st' := [(2, v2)]) (by decide +kernel) rfl ?_
        refine zwX_gi C (kd := 4) (bn := 6) (n := 19) (nx := 104) (by decide +kernel) Gv2.2.1 Gv2.1 rfl ?_
        intro v17 ev17 lv17 uv17
        refine zwW_ret (nx := 105) (a := 0) (b := 0) (by decide +kernel) rfl (Or.inl rfl) ?_
        exact ⟨rfl, by omega⟩
      refine ⟨fun c18 => ?_, fun c18 => ?_⟩
      · show zwW _ _ _ 105 _ _ _ _
        refine zwW_p [(1, 3, 2)] (q := 106) (ls' := [(2, 1), (0, a), (0, b), (2, v2)]) (st' := [(2, v2)]) (by decide +kernel) rfl ?_
        refine zwX_gi C (kd := 4) (bn := 7) (n := 19) (nx := 109) (by decide +kernel) Gv2.2.1 Gv2.1 rfl ?_
        intro v19 ev19 lv19 uv19
        refine zwW_ret (nx := 110) (a := 0) (b := 0) (by decide +kernel) rfl (Or.inl rfl) ?_
        exact ⟨rfl, by omega⟩
      refine ⟨fun c20 => ?_, fun c20 => ?_⟩
      · show zwW _ _ _ 110 _ _ _ _
        refine zwW_p [(1, 3, 2)] (q := 111) (ls' := [(2, 1), (0, a), (0, b), (2, v2)]) (st' := [(2, v2)]) (by decide +kernel) rfl ?_
        refine zwX_gi C (kd := 4) (bn := 8) (n := 19) (nx := 114) (by decide +kernel) Gv2.2.1 Gv2.1 rfl ?_
        intro v21 ev21 lv21 uv21
        refine zwW_ret (nx := 115) (a := 0) (b := 0) (by decide +kernel) rfl (Or.inl rfl) ?_
        exact ⟨rfl, by omega⟩
      refine ⟨fun c22 => ?_, fun c22 => ?_⟩
      · show zwW _ _ _ 115 _ _ _ _
        refine zwW_p [(1, 3, 2)] (q := 116) (ls' := [(2, 1), (0, a), (0, b), (2, v2)]) (st' := [(2, v2)]) (by decide +kernel) rfl ?_
        refine zwX_gi C (kd := 4) (bn := 9) (n := 19) (nx := 119) (by decide +kernel) Gv2.2.1 Gv2.1 rfl ?_
        intro v23 ev23 lv23 uv23
        refine zwW_ret (nx := 120) (a := 0) (b := 0) (by decide +kernel) rfl (Or.inl rfl) ?_
        exact ⟨rfl, by omega⟩
      refine ⟨fun c24 => ?_, fun c24 => ?_⟩
      · show zwW _ _ _ 120 _ _ _ _
        refine zwW_p [(1, 3, 2)] (q := 121) (ls' := [(2, 1), (0, a), (0, b), (2, v2)]) (st' := [(2, v2)]) (by decide +kernel) rfl ?_
        refine zwX_gi C (kd := 4) (bn := 10) (n := 19) (nx := 124) (by decide +kernel) Gv2.2.1 Gv2.1 rfl ?_
        intro v25 ev25 lv25 uv25
        refine zwW_ret (nx := 125) (a := 0) (b := 0) (by decide +kernel) rfl (Or.inl rfl) ?_
        exact ⟨rfl, by omega⟩
      refine ⟨fun c26 => ?_, fun c26 => ?_⟩
      · show zwW _ _ _ 125 _ _ _ _
        refine zwW_p [(1, 3, 2)] (q := 126) (ls' := [(2, 1), (0, a), (0, b), (2, v2)]) (st' := [(2, v2)]) (by decide +kernel) rfl ?_
        refine zwW_cv (op := 60) (k' := 110) (n := 0) (kd := 4) (m := 19) (nx := 129) (r := v2) (tl := []) (st' := []) (by decide +kernel) rfl (by decide +kernel) Gv2.2.1 (x110 h C v2 Gv2) rfl ?_
        rintro x _ ⟨rfl, ⟨rfl, c27⟩ | ⟨rfl, c27⟩⟩
        · refine zwif_eq (q := 139) (nx := 132) (by decide +kernel) (fun c28 => ?_) (fun c28 => ?_)
          · exfalso; omega
          · refine zwW_p [(1, 3, 2)] (q := 133) (ls' := [(2, 1), (0, a), (0, b), (2, v2)]) (st' := [(2, v2)]) (by decide +kernel) rfl ?_
            refine zwX_gi C (kd := 4) (bn := 14) (n := 19) (nx := 136) (by decide +kernel) Gv2.2.1 Gv2.1 rfl ?_
            intro v29 ev29 lv29 uv29
            refine zwW_p [(24, 140, 0)] (q := 140) (ls' := [(2, 1), (0, a), (0, b), (2, v2)]) (st' := [(0, v29)]) (by decide +kernel) rfl ?_
            refine zwW_ret (nx := 141) (a := 0) (b := 0) (by decide +kernel) rfl (Or.inl rfl) ?_
            exact ⟨rfl, by omega⟩
        · refine zwif_eq (q := 139) (nx := 132) (by decide +kernel) (fun c30 => ?_) (fun c30 => ?_)
          · refine zwW_p [(0, -1, 0)] (q := 140) (ls' := [(2, 1), (0, a), (0, b), (2, v2)]) (st' := [(0, -1)]) (by decide +kernel) rfl ?_
            refine zwW_ret (nx := 141) (a := 0) (b := 0) (by decide +kernel) rfl (Or.inl rfl) ?_
            exact ⟨rfl, by omega⟩
          · exfalso; omega
      show zwW _ _ _ 141 _ _ _ _
      refine zwW_p [(0, -2147483648, 0)] (q := 143) (ls' := [(2, 1), (0, a), (0, b), (2, v2)]) (st' := [(0, -2147483648)]) (by decide +kernel) rfl ?_
      refine zwW_ret (nx := 144) (a := 0) (b := 0) (by decide +kernel) rfl (Or.inl rfl) ?_
      exact ⟨rfl, by omega⟩
    · exfalso; omega
-- WheelLand.count(I)I
theorem x87 {sc : List Int} (h : Hp) (C : CI h) (a : Int) (q_a : -2147483648 ≤ a ∧ a ≤ 2147483647) : zwC sc 2 87 [(2, 1), (0, a)] h (zwRt 0 (fun x g => h = g ∧ (-2147483648 ≤ x ∧ x ≤ 2147483647))) := by
  refine zwC_of (D := 1) 2 (by decide +kernel) rfl (ls := [(2, 1), (0, a)]) rfl ?_
  refine zwW_p [(1, 1, 0)] (q := 1) (ls' := [(2, 1), (0, a)]) (st' := [(0, a)]) (by decide +kernel) rfl ?_
  refine zwW_sw (d := 136) (os := [0, 56, 1, 61, 2, 69, 3, 77, 4, 85, 5, 96, 6, 104, 7, 112, 8, 123, 9, 131]) (by decide +kernel) ?_
  refine ⟨fun c1 => ?_, fun c1 => ?_⟩
  · show zwW _ _ _ 56 _ _ _ _
    refine zwW_p [(1, 0, 2)] (q := 57) (ls' := [(2, 1), (0, a)]) (st' := [(2, 1)]) (by decide +kernel) rfl ?_
    refine zwW_gs C.1 (kd := 12) (bn := 0) (n := 13) (t := 0) (lo := 0) (hi := 156) (nx := 60) (by decide +kernel) ?_
    intro v2 ev2 lv2 uv2
    refine zwW_ret (nx := 61) (a := 0) (b := 0) (by decide +kernel) rfl (Or.inl rfl) ?_
    exact ⟨rfl, by omega⟩
  refine ⟨fun c3 => ?_, fun c3 => ?_⟩
  · show zwW _ _ _ 61 _ _ _ _
    refine zwW_p [(1, 0, 2)] (q := 62) (ls' := [(2, 1), (0, a)]) (st' := [(2, 1)]) (by decide +kernel) rfl ?_
    refine zwW_gc C.1 (kd := 12) (bn := 2) (n := 13) (c := 2) (nx := 65) (by decide +kernel) ?_
    refine zwW_cm C.1 (op := 60) (k' := 96) (n := 0) (kd := 0) (m := 3) (nx := 68) (r := 2) (tl := []) (st' := []) (by decide +kernel) rfl (by decide +kernel) rfl (x96_2 C) ?_
    rintro v4 _ ⟨rfl, ev4⟩
    have bv4 := zLb_2 C
    refine zwW_ret (nx := 69) (a := 0) (b := 0) (by decide +kernel) rfl (Or.inl rfl) ?_
    exact ⟨rfl, by omega⟩
  refine ⟨fun c5 => ?_, fun c5 => ?_⟩
  · show zwW _ _ _ 69 _ _ _ _
    refine zwW_p [(1, 0, 2)] (q := 70) (ls' := [(2, 1), (0, a)]) (st' := [(2, 1)]) (by decide +kernel) rfl ?_
    refine zwW_gc C.1 (kd := 12) (bn := 3) (n := 13) (c := 3) (nx := 73) (by decide +kernel) ?_
    refine zwW_cm C.1 (op := 60) (k' := 96) (n := 0) (kd := 0) (m := 3) (nx := 76) (r := 3) (tl := []) (st' := []) (by decide +kernel) rfl (by decide +kernel) rfl (x96_3 C) ?_
    rintro v6 _ ⟨rfl, ev6⟩
    have bv6 := zLb_3 C
    refine zwW_ret (nx := 77) (a := 0) (b := 0) (by decide +kernel) rfl (Or.inl rfl) ?_
    exact ⟨rfl, by omega⟩
  refine ⟨fun c7 => ?_, fun c7 => ?_⟩
  · show zwW _ _ _ 77 _ _ _ _
    refine zwW_p [(1, 0, 2)] (q := 78) (ls' := [(2, 1), (0, a)]) (st' := [(2, 1)]) (by decide +kernel) rfl ?_
    refine zwW_gc C.1 (kd := 12) (bn := 4) (n := 13) (c := 4) (nx := 81) (by decide +kernel) ?_
    refine zwW_cm C.1 (op := 60) (k' := 96) (n := 0) (kd := 0) (m := 3) (nx := 84) (r := 4) (tl := []) (st' := []) (by decide +kernel) rfl (by decide +kernel) rfl (x96_4 C) ?_
    rintro v8 _ ⟨rfl, ev8⟩
    have bv8 := zLb_4 C
    refine zwW_ret (nx := 85) (a := 0) (b := 0) (by decide +kernel) rfl (Or.inl rfl) ?_
    exact ⟨rfl, by omega⟩
  refine ⟨fun c9 => ?_, fun c9 => ?_⟩
  · show zwW _ _ _ 85 _ _ _ _
    refine zwW_p [(1, 0, 2)] (q := 86) (ls' := [(2, 1), (0, a)]) (st' := [(2, 1)]) (by decide +kernel) rfl ?_
    refine zwW_gc C.1 (kd := 12) (bn := 8) (n := 13) (c := 13) (nx := 89) (by decide +kernel) ?_
    refine zwW_gc C.1 (kd := 9) (bn := 0) (n := 6) (c := 14) (nx := 92) (by decide +kernel) ?_
    refine zwW_cm C.1 (op := 60) (k' := 96) (n := 0) (kd := 0) (m := 3) (nx := 95) (r := 14) (tl := []) (st' := []) (by decide +kernel) rfl (by decide +kernel) rfl (x96_14 C) ?_
    rintro v10 _ ⟨rfl, ev10⟩
    have bv10 := zLb_14 C
    refine zwW_ret (nx := 96) (a := 0) (b := 0) (by decide +kernel) rfl (Or.inl rfl) ?_
    exact ⟨rfl, by omega⟩
  refine ⟨fun c11 => ?_, fun c11 => ?_⟩
  · show zwW _ _ _ 96 _ _ _ _
    refine zwW_p [(1, 0, 2)] (q := 97) (ls' := [(2, 1), (0, a)]) (st' := [(2, 1)]) (by decide +kernel) rfl ?_
    refine zwW_gc C.1 (kd := 12) (bn := 5) (n := 13) (c := 5) (nx := 100) (by decide +kernel) ?_
    refine zwW_cm C.1 (op := 60) (k' := 96) (n := 0) (kd := 0) (m := 3) (nx := 103) (r := 5) (tl := []) (st' := []) (by decide +kernel) rfl (by decide +kernel) rfl (x96_5 C) ?_
    rintro v12 _ ⟨rfl, ev12⟩
    have bv12 := zLb_5 C
    refine zwW_ret (nx := 104) (a := 0) (b := 0) (by decide +kernel) rfl (Or.inl rfl) ?_
    exact ⟨rfl, by omega⟩
  refine ⟨fun c13 => ?_, fun c13 => ?_⟩
  · show zwW _ _ _ 104 _ _ _ _
    refine zwW_p [(1, 0, 2)] (q := 105) (ls' := [(2, 1), (0, a)]) (st' := [(2, 1)]) (by decide +kernel) rfl ?_
    refine zwW_gc C.1 (kd := 12) (bn := 7) (n := 13) (c := 9) (nx := 108) (by decide +kernel) ?_
    refine zwW_gs C.1 (kd := 7) (bn := 0) (n := 9) (t := 0) (lo := 0) (hi := 400) (nx := 111) (by decide +kernel) ?_
    intro v14 ev14 lv14 uv14
    refine zwW_ret (nx := 112) (a := 0) (b := 0) (by decide +kernel) rfl (Or.inl rfl) ?_
    exact ⟨rfl, by omega⟩
  refine ⟨fun c15 => ?_, fun c15 => ?_⟩
  · show zwW _ _ _ 112 _ _ _ _
    refine zwW_p [(1, 0, 2)] (q := 113) (ls' := [(2, 1), (0, a)]) (st' := [(2, 1)]) (by decide +kernel) rfl ?_
    refine zwW_gc C.1 (kd := 12) (bn := 9) (n := 13) (c := 19) (nx := 116) (by decide +kernel) ?_
    refine zwW_gc C.1 (kd := 3) (bn := 0) (n := 10) (c := 20) (nx := 119) (by decide +kernel) ?_
    refine zwW_cm C.1 (op := 60) (k' := 96) (n := 0) (kd := 0) (m := 3) (nx := 122) (r := 20) (tl := []) (st' := []) (by decide +kernel) rfl (by decide +kernel) rfl (x96_20 C) ?_
    rintro v16 _ ⟨rfl, ev16⟩
    have bv16 := zLb_20 C
    refine zwW_ret (nx := 123) (a := 0) (b := 0) (by decide +kernel) rfl (Or.inl rfl) ?_
    exact ⟨rfl, by omega⟩
  refine ⟨fun c17 => ?_, fun c17 => ?_⟩
  · show zwW _ _ _ 123 _ _ _ _
    refine zwW_p [(1, 0, 2)] (q := 124) (ls' := [(2, 1), (0, a)]) (st' := [(2, 1)]) (by decide +kernel) rfl ?_
    refine zwW_gc C.1 (kd := 12) (bn := 10) (n := 13) (c := 27) (nx := 127) (by decide +kernel) ?_
    refine zwW_gs C.1 (kd := 2) (bn := 0) (n := 10) (t := 0) (lo := 0) (hi := 8) (nx := 130) (by decide +kernel) ?_
    intro v18 ev18 lv18 uv18
    refine zwW_ret (nx := 131) (a := 0) (b := 0) (by decide +kernel) rfl (Or.inl rfl) ?_
    exact ⟨rfl, by omega⟩
  refine ⟨fun c19 => ?_, fun c19 => ?_⟩
  · show zwW _ _ _ 131 _ _ _ _
    refine zwW_p [(1, 0, 2)] (q := 132) (ls' := [(2, 1), (0, a)]) (st' := [(2, 1)]) (by decide +kernel) rfl ?_
    refine zwW_gs C.1 (kd := 12) (bn := 1) (n := 13) (t := 0) (lo := -2147483648) (hi := 2147483647) (nx := 135) (by decide +kernel) ?_
    intro v20 ev20 lv20 uv20
    refine zwW_ret (nx := 136) (a := 0) (b := 0) (by decide +kernel) rfl (Or.inl rfl) ?_
    exact ⟨rfl, by omega⟩
  show zwW _ _ _ 136 _ _ _ _
  refine zwW_p [(0, -1, 0)] (q := 137) (ls' := [(2, 1), (0, a)]) (st' := [(0, -1)]) (by decide +kernel) rfl ?_
  refine zwW_ret (nx := 138) (a := 0) (b := 0) (by decide +kernel) rfl (Or.inl rfl) ?_
  exact ⟨rfl, by omega⟩
