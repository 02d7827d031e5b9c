/-! contracts of methods -/
-- WheelLandModel.week()V
theorem m114_z {sc : List Int} (h : Hp) (I : zI h) (q : qT) (p1 : fld h 37 0 ≤ 155) (hA : zAM h) (V : mRq q h) (ok : yOK (yM h)) (B0z : zBs (yM h)) (H65 : zH65 (yM h)) (ZR : yZr (yM h)) : zwC sc 8 114 [(2, 37)] h (zwRv (fun g => zI g ∧ zMR ms114 h g ∧ (fld g 37 0 = fld h 37 0 + 1) ∧ (yM g = yWkM q (yM h)))) := by
  refine zwC_of (D := 7) 2 (by decide +kernel) rfl (ls := [(2, 37), (9, 0)]) rfl ?_
  have R : zMR ms114 h h := zMR.rf _ _
  have u0 : yM h 37 0 = fld h 37 0 := rfl
  have u1 : yM h 37 1 = fld h 37 1 := rfl
  have u2 : yM h 37 2 = fld h 37 2 := rfl
  have u64 : yM h 37 64 = fld h 37 64 := rfl
  have u69 : yM h 37 69 = fld h 37 69 := rfl
  have u70 : yM h 37 70 = fld h 37 70 := rfl
  have u71 : yM h 37 71 = fld h 37 71 := rfl
  have OK1 : yOK (yLyM (yM h)) := ok.lym B0z H65
  have OKM : yOK (yMk5 q (yM h)) := OK1.mk5
  have OKS := OKM.s
  have OK0 := ok.s
  have M0 : (yMk5 q (yM h)) 37 0 = yM h 37 0 := yMk5_0
  have L2_ : (yLyM (yM h)) 37 2 = fld h 37 2 := yLyM_2 B0z
  refine zwW_p [(1, 0, 2)] (q := 1) (ls' := [(2, 37), (9, 0)]) (st' := [(2, 37)]) (by decide +kernel) rfl ?_
  refine zwW_cmv I (op := 60) (k' := 194) (n := 0) (kd := 13) (m := 97) (nx := 4) (r := 37) (tl := []) (st' := []) (by decide +kernel) rfl (by decide +kernel) rfl (m194_z h I p1 hA B0z) ?_
  rintro h2 ⟨Ih2, Qh2, f1⟩
  have Rh2 : zMR ms114 h h2 := R.tr Qh2 (by decide +kernel)
  have Vh2 : mRq q h2 := V.fr Qh2 (by decide +kernel)
  have th2_37_0 : fld h2 37 0 = fld h 37 0 := Qh2.f (a1 := 37) (a2 := 37) (j1 := 0) (j2 := 1) (by decide +kernel) ⟨by decide, by decide⟩ ⟨by decide, by decide⟩
  have th2_37_2 : fld h2 37 2 = fld h 37 2 := Qh2.f (a1 := 37) (a2 := 37) (j1 := 2) (j2 := 3) (by decide +kernel) ⟨by decide, by decide⟩ ⟨by decide, by decide⟩
  have Zh2 : yM h2 = (yLyM (yM h)) := by rw [f1]
  refine zwW_p [(0, 0, 0), (2, 1, 0)] (q := 6) (ls' := [(2, 37), (0, 0)]) (st' := []) (by decide +kernel) rfl ?_
  have L3 : ∀ (n0 : Nat) (kL3 : Int) (hL3 : Hp), n0 = ((100 - kL3)).toNat → (mRq q hL3) → ((0 ≤ kL3 ∧ kL3 ≤ fld h 37 2) ∧ fld hL3 37 0 = fld h 37 0 ∧ fld hL3 37 2 = fld h 37 2) → (yM hL3 = (yBys q (yLyM (yM h)) (kL3).toNat)) → zI hL3 → zMR ms114 h hL3 → zwW sc (7) 114 6 [(2, 37), (0, kL3)] [] hL3 (zwRv (fun g => zI g ∧ zMR ms114 h g ∧ (fld g 37 0 = fld h 37 0 + 1) ∧ (yM g = yWkM q (yM h)))) := by
    intro n0
    induction n0 using Nat.strongRecOn with
    | ind n0 IHL3 =>
      intro kL3 hL3 hnL3 iL3_0 iL3_1 iL3_2 IhL3 RhL3
      refine zwW_p [(1, 1, 0), (1, 0, 2)] (q := 8) (ls' := [(2, 37), (0, kL3)]) (st' := [(2, 37), (0, kL3)]) (by decide +kernel) rfl ?_
      refine zwW_gs IhL3 (kd := 13) (bn := 2) (n := 97) (t := 0) (lo := 0) (hi := 20) (nx := 11) (by decide +kernel) ?_
      intro v4 ev4 lv4 uv4
      have sv4 : v4 = (yBys q (yLyM (yM h)) (kL3).toNat) 37 2 := Eq.trans ev4 (Eq.trans (Eq.symm (yM_s (h := hL3) (i := 2) rfl)) (Eq.trans (congrFun (congrFun iL3_2 37) 2) rfl))
      refine zwic_ge (q := 41) (nx := 14) (by decide +kernel) (fun c5 => ?_) (fun c5 => ?_)
      · have E41 : (yBys q (yLyM (yM h)) (kL3).toNat) = yByA q (yLyM (yM h)) := by
          unfold yByA
          rw [show ((yLyM (yM h)) 37 2).toNat = (kL3).toNat by omega]
        refine zwW_p [(1, 0, 2)] (q := 42) (ls' := [(2, 37), (0, kL3)]) (st' := [(2, 37)]) (by decide +kernel) rfl ?_
        refine zwW_gs IhL3 (kd := 13) (bn := 0) (n := 97) (t := 0) (lo := 0) (hi := 156) (nx := 45) (by decide +kernel) ?_
        intro v6 ev6 lv6 uv6
        have sv6 : v6 = (yByA q (yLyM (yM h))) 37 0 := Eq.trans ev6 (Eq.trans (Eq.symm (yM_s (h := hL3) (i := 0) rfl)) (Eq.trans (congrFun (congrFun (iL3_2.trans E41) 37) 0) rfl))
        refine zwW_p [(0, 13, 0)] (q := 47) (ls' := [(2, 37), (0, kL3)]) (st' := [(0, 13), (0, v6)]) (by decide +kernel) rfl ?_
        refine zwW_rem (nx := 48) (by decide +kernel) (by omega) (by omega) ?_
        refine zwW_p [(0, 12, 0)] (q := 50) (ls' := [(2, 37), (0, kL3)]) (st' := [(0, 12), (0, (v6 % 13))]) (by decide +kernel) rfl ?_
        refine zwic_ne (q := 57) (nx := 53) (by decide +kernel) (fun c7 => ?_) (fun c7 => ?_)
        · have E57 : (yByA q (yLyM (yM h))) = (if yByA q (yLyM (yM h)) 37 0 % 13 = 12 then ySea q (yByA q (yLyM (yM h))) else yByA q (yLyM (yM h))) := by
            first
            | exact (if_neg (by omega)).symm
            | exact (if_pos (by omega)).symm
          refine zwW_p [(1, 0, 2)] (q := 58) (ls' := [(2, 37), (0, kL3)]) (st' := [(2, 37)]) (by decide +kernel) rfl ?_
          refine zwW_cmv IhL3 (op := 60) (k' := 197) (n := 0) (kd := 13) (m := 97) (nx := 61) (r := 37) (tl := []) (st' := []) (by decide +kernel) rfl (by decide +kernel) rfl (m197_z hL3 IhL3) ?_
          rintro h9 ⟨Ih9, Qh9, f8⟩
          have Rh9 : zMR ms114 h h9 := RhL3.tr Qh9 (by decide +kernel)
          have Vh9 : mRq q h9 := iL3_0.fr Qh9 (by decide +kernel)
          have th9_37_0 : fld h9 37 0 = fld hL3 37 0 := Qh9.f (a1 := 37) (a2 := 37) (j1 := 0) (j2 := 1) (by decide +kernel) ⟨by decide, by decide⟩ ⟨by decide, by decide⟩
          have th9_37_2 : fld h9 37 2 = fld hL3 37 2 := Qh9.f (a1 := 37) (a2 := 37) (j1 := 2) (j2 := 3) (by decide +kernel) ⟨by decide, by decide⟩ ⟨by decide, by decide⟩
          have Zh9 : yM h9 = (yWrA (if yByA q (yLyM (yM h)) 37 0 % 13 = 12 then ySea q (yByA q (yLyM (yM h))) else yByA q (yLyM (yM h)))) := by rw [f8, ((iL3_2.trans E41).trans E57)]
          refine zwW_p [(0, 0, 0)] (q := 62) (ls' := [(2, 37), (0, kL3)]) (st' := [(0, 0)]) (by decide +kernel) rfl ?_
          refine zwW_p [(2, 1, 0)] (q := 63) (ls' := [(2, 37), (0, 0)]) (st' := []) (by decide +kernel) rfl ?_
          have L10 : ∀ (n0 : Nat) (vL10 : Int) (hL10 : Hp), n0 = ((100 - vL10)).toNat → ((0 ≤ vL10 ∧ vL10 ≤ (yMk5 q (yM h)) 37 1) ∧ fld hL10 37 0 = fld h 37 0) → (yM hL10 = (zs (yMk5 q (yM h)) 206 (6 * ((yMk5 q (yM h)) 37 0).toNat) (ySmC (yMk5 q (yM h)) (vL10).toNat))) → zI hL10 → zMR ms114 h hL10 → zwW sc (7) 114 63 [(2, 37), (0, vL10)] [] hL10 (zwRv (fun g => zI g ∧ zMR ms114 h g ∧ (fld g 37 0 = fld h 37 0 + 1) ∧ (yM g = yWkM q (yM h)))) := by
            intro n0
            induction n0 using Nat.strongRecOn with
            | ind n0 IHL10 =>
              intro vL10 hL10 hnL10 iL10_0 iL10_1 IhL10 RhL10
              refine zwW_p [(1, 1, 0), (1, 0, 2)] (q := 65) (ls' := [(2, 37), (0, vL10)]) (st' := [(2, 37), (0, vL10)]) (by decide +kernel) rfl ?_
              refine zwW_gs IhL10 (kd := 13) (bn := 1) (n := 97) (t := 0) (lo := 0) (hi := 8) (nx := 68) (by decide +kernel) ?_
              intro v11 ev11 lv11 uv11
              have sv11 : v11 = ((yMk5 q (yM h))) 37 1 := Eq.trans ev11 (Eq.trans (Eq.symm (yM_s (h := hL10) (i := 1) rfl)) (Eq.trans (congrFun (congrFun (iL10_1) 37) 1) (Eq.trans (zs_na (by decide) : (zs ((yMk5 q (yM h))) 206 (6 * ((yMk5 q (yM h)) 37 0).toNat) (ySmC (yMk5 q (yM h)) (vL10).toNat)) 37 1 = ((yMk5 q (yM h))) 37 1) rfl)))
              refine zwic_ge (q := 97) (nx := 71) (by decide +kernel) (fun c12 => ?_) (fun c12 => ?_)
              · refine zwW_p [(0, 0, 0), (2, 1, 0)] (q := 99) (ls' := [(2, 37), (0, 0)]) (st' := []) (by decide +kernel) rfl ?_
                have L13 : ∀ (n0 : Nat) (lL13 : Int) (hL13 : Hp), n0 = ((1000 - lL13)).toNat → ((0 ≤ lL13 ∧ lL13 ≤ (yMk5 q (yM h)) 37 64) ∧ fld hL13 37 0 = fld h 37 0) → (yM hL13 = (zs (zs (yMk5 q (yM h)) 206 (6 * ((yMk5 q (yM h)) 37 0).toNat) (ySmCA (yMk5 q (yM h)))) 206 (6 * ((yMk5 q (yM h)) 37 0).toNat + 2) (ySmL (yMk5 q (yM h)) (lL13).toNat))) → zI hL13 → zMR ms114 h hL13 → zwW sc (7) 114 99 [(2, 37), (0, lL13)] [] hL13 (zwRv (fun g => zI g ∧ zMR ms114 h g ∧ (fld g 37 0 = fld h 37 0 + 1) ∧ (yM g = yWkM q (yM h)))) := by
                  intro n0
                  induction n0 using Nat.strongRecOn with
                  | ind n0 IHL13 =>
                    intro lL13 hL13 hnL13 iL13_0 iL13_1 IhL13 RhL13
                    refine zwW_p [(1, 1, 0), (1, 0, 2)] (q := 101) (ls' := [(2, 37), (0, lL13)]) (st' := [(2, 37), (0, lL13)]) (by decide +kernel) rfl ?_
                    refine zwW_gs IhL13 (kd := 13) (bn := 64) (n := 97) (t := 0) (lo := 0) (hi := 300) (nx := 104) (by decide +kernel) ?_
                    intro v14 ev14 lv14 uv14
                    have sv14 : v14 = ((yMk5 q (yM h))) 37 64 := Eq.trans ev14 (Eq.trans (Eq.symm (yM_s (h := hL13) (i := 64) rfl)) (Eq.trans (congrFun (congrFun (iL13_1) 37) 64) (Eq.trans (zs_na (by decide) : (zs (zs ((yMk5 q (yM h))) 206 (6 * ((yMk5 q (yM h)) 37 0).toNat) (ySmCA (yMk5 q (yM h)))) 206 (6 * ((yMk5 q (yM h)) 37 0).toNat + 2) (ySmL (yMk5 q (yM h)) (lL13).toNat)) 37 64 = (zs ((yMk5 q (yM h))) 206 (6 * ((yMk5 q (yM h)) 37 0).toNat) (ySmCA (yMk5 q (yM h)))) 37 64) (Eq.trans (zs_na (by decide) : (zs ((yMk5 q (yM h))) 206 (6 * ((yMk5 q (yM h)) 37 0).toNat) (ySmCA (yMk5 q (yM h)))) 37 64 = ((yMk5 q (yM h))) 37 64) rfl))))
                    refine zwic_ge (q := 133) (nx := 107) (by decide +kernel) (fun c15 => ?_) (fun c15 => ?_)
                    · refine zwW_p [(1, 0, 2)] (q := 134) (ls' := [(2, 37), (0, lL13)]) (st' := [(2, 37)]) (by decide +kernel) rfl ?_
                      refine zwW_gc IhL13 (kd := 13) (bn := 91) (n := 97) (c := 205) (nx := 137) (by decide +kernel) ?_
                      refine zwW_p [(1, 0, 2)] (q := 138) (ls' := [(2, 37), (0, lL13)]) (st' := [(2, 37), (2, 205)]) (by decide +kernel) rfl ?_
                      refine zwW_gs IhL13 (kd := 13) (bn := 0) (n := 97) (t := 0) (lo := 0) (hi := 156) (nx := 141) (by decide +kernel) ?_
                      intro v16 ev16 lv16 uv16
                      have sv16 : v16 = ((yMk5 q (yM h))) 37 0 := Eq.trans ev16 (Eq.trans (Eq.symm (yM_s (h := hL13) (i := 0) rfl)) (Eq.trans (congrFun (congrFun (iL13_1) 37) 0) (Eq.trans (zs_na (by decide) : (zs (zs ((yMk5 q (yM h))) 206 (6 * ((yMk5 q (yM h)) 37 0).toNat) (ySmCA (yMk5 q (yM h)))) 206 (6 * ((yMk5 q (yM h)) 37 0).toNat + 2) (ySmL (yMk5 q (yM h)) (lL13).toNat)) 37 0 = (zs ((yMk5 q (yM h))) 206 (6 * ((yMk5 q (yM h)) 37 0).toNat) (ySmCA (yMk5 q (yM h)))) 37 0) (Eq.trans (zs_na (by decide) : (zs ((yMk5 q (yM h))) 206 (6 * ((yMk5 q (yM h)) 37 0).toNat) (ySmCA (yMk5 q (yM h)))) 37 0 = ((yMk5 q (yM h))) 37 0) rfl))))
                      refine zwW_ro IhL13 (a := 205) (n := 156) (kd := 26) (base := 206) (step := 1) (nx := 142) (by decide +kernel) rfl ⟨by omega, by omega⟩ ?_
                      rw [show ((206 : Nat) : Int) + ((1 : Nat) : Int) * v16 = (206 + v16) by omega]
                      refine zwW_p [(0, 3, 0), (1, 0, 2)] (q := 144) (ls' := [(2, 37), (0, lL13)]) (st' := [(2, 37), (0, 3), (2, (206 + v16))]) (by decide +kernel) rfl ?_
                      refine zwW_gs IhL13 (kd := 13) (bn := 69) (n := 97) (t := 0) (lo := -2147483648) (hi := 2147483647) (nx := 147) (by decide +kernel) ?_
                      intro v17 ev17 lv17 uv17
                      have sv17 : v17 = ((yMk5 q (yM h))) 37 69 := Eq.trans ev17 (Eq.trans (Eq.symm (yM_s (h := hL13) (i := 69) rfl)) (Eq.trans (congrFun (congrFun (iL13_1) 37) 69) (Eq.trans (zs_na (by decide) : (zs (zs ((yMk5 q (yM h))) 206 (6 * ((yMk5 q (yM h)) 37 0).toNat) (ySmCA (yMk5 q (yM h)))) 206 (6 * ((yMk5 q (yM h)) 37 0).toNat + 2) (ySmL (yMk5 q (yM h)) (lL13).toNat)) 37 69 = (zs ((yMk5 q (yM h))) 206 (6 * ((yMk5 q (yM h)) 37 0).toNat) (ySmCA (yMk5 q (yM h)))) 37 69) (Eq.trans (zs_na (by decide) : (zs ((yMk5 q (yM h))) 206 (6 * ((yMk5 q (yM h)) 37 0).toNat) (ySmCA (yMk5 q (yM h)))) 37 69 = ((yMk5 q (yM h))) 37 69) rfl))))
                      refine zwW_as IhL13 (a1 := 206) (a2 := 361) (n := 6) (lo := -2147483648) (hi := 2147483647) (nx := 148) (by decide +kernel) ⟨by omega, by omega⟩ ⟨by decide, by decide⟩ ⟨by omega, by omega⟩ ?_
                      intro h18 eh18 Ih18
                      have th18_37_0 : fld h18 37 0 = fld hL13 37 0 := by rw [eh18]; exact fld_wr (by omega)
                      have th18_37_2 : fld h18 37 2 = fld hL13 37 2 := by rw [eh18]; exact fld_wr (by omega)
                      have Zh18 : yM h18 = (zs (zs (zs ((yMk5 q (yM h))) 206 (6 * ((yMk5 q (yM h)) 37 0).toNat) (ySmCA (yMk5 q (yM h)))) 206 (6 * ((yMk5 q (yM h)) 37 0).toNat + 2) (ySmL (yMk5 q (yM h)) (lL13).toNat)) 206 (6 * v16.toNat + 3) (((yMk5 q (yM h))) 37 69)) := by rw [yM_w2 (a := 206) (w := 6) (v := v16.toNat) (j := 3) (m := 6) (kd := 20) rfl (by omega) (IhL13.s (a1 := 206) (a2 := 361) (by decide +kernel) (by omega) (by omega)) (by omega) (by omega) (by show _ < 936; omega) eh18, (iL13_1), sv17]
                      have Rh18 : zMR ms114 h h18 := RhL13.w (a1 := 206) (a2 := 361) (j1 := 0) (j2 := 6) (by decide +kernel) ⟨by omega, by omega⟩ ⟨by decide, by decide⟩ eh18
                      refine zwW_p [(1, 0, 2)] (q := 149) (ls' := [(2, 37), (0, lL13)]) (st' := [(2, 37)]) (by decide +kernel) rfl ?_
                      refine zwW_gc Ih18 (kd := 13) (bn := 91) (n := 97) (c := 205) (nx := 152) (by decide +kernel) ?_
                      refine zwW_p [(1, 0, 2)] (q := 153) (ls' := [(2, 37), (0, lL13)]) (st' := [(2, 37), (2, 205)]) (by decide +kernel) rfl ?_
                      refine zwW_gs Ih18 (kd := 13) (bn := 0) (n := 97) (t := 0) (lo := 0) (hi := 156) (nx := 156) (by decide +kernel) ?_
                      intro v19 ev19 lv19 uv19
                      have sv19 : v19 = ((yMk5 q (yM h))) 37 0 := Eq.trans ev19 (Eq.trans (Eq.symm (yM_s (h := h18) (i := 0) rfl)) (Eq.trans (congrFun (congrFun Zh18 37) 0) (Eq.trans (zs_na (by decide) : (zs (zs (zs ((yMk5 q (yM h))) 206 (6 * ((yMk5 q (yM h)) 37 0).toNat) (ySmCA (yMk5 q (yM h)))) 206 (6 * ((yMk5 q (yM h)) 37 0).toNat + 2) (ySmL (yMk5 q (yM h)) (lL13).toNat)) 206 (6 * v16.toNat + 3) (((yMk5 q (yM h))) 37 69)) 37 0 = (zs (zs ((yMk5 q (yM h))) 206 (6 * ((yMk5 q (yM h)) 37 0).toNat) (ySmCA (yMk5 q (yM h)))) 206 (6 * ((yMk5 q (yM h)) 37 0).toNat + 2) (ySmL (yMk5 q (yM h)) (lL13).toNat)) 37 0) (Eq.trans (zs_na (by decide) : (zs (zs ((yMk5 q (yM h))) 206 (6 * ((yMk5 q (yM h)) 37 0).toNat) (ySmCA (yMk5 q (yM h)))) 206 (6 * ((yMk5 q (yM h)) 37 0).toNat + 2) (ySmL (yMk5 q (yM h)) (lL13).toNat)) 37 0 = (zs ((yMk5 q (yM h))) 206 (6 * ((yMk5 q (yM h)) 37 0).toNat) (ySmCA (yMk5 q (yM h)))) 37 0) (Eq.trans (zs_na (by decide) : (zs ((yMk5 q (yM h))) 206 (6 * ((yMk5 q (yM h)) 37 0).toNat) (ySmCA (yMk5 q (yM h)))) 37 0 = ((yMk5 q (yM h))) 37 0) rfl)))))
                      refine zwW_ro Ih18 (a := 205) (n := 156) (kd := 26) (base := 206) (step := 1) (nx := 157) (by decide +kernel) rfl ⟨by omega, by omega⟩ ?_
                      rw [show ((206 : Nat) : Int) + ((1 : Nat) : Int) * v19 = (206 + v19) by omega]
                      refine zwW_p [(0, 4, 0), (1, 0, 2)] (q := 159) (ls' := [(2, 37), (0, lL13)]) (st' := [(2, 37), (0, 4), (2, (206 + v19))]) (by decide +kernel) rfl ?_
                      refine zwW_gs Ih18 (kd := 13) (bn := 70) (n := 97) (t := 0) (lo := -2147483648) (hi := 2147483647) (nx := 162) (by decide +kernel) ?_
                      intro v20 ev20 lv20 uv20
                      have sv20 : v20 = ((yMk5 q (yM h))) 37 70 := Eq.trans ev20 (Eq.trans (Eq.symm (yM_s (h := h18) (i := 70) rfl)) (Eq.trans (congrFun (congrFun Zh18 37) 70) (Eq.trans (zs_na (by decide) : (zs (zs (zs ((yMk5 q (yM h))) 206 (6 * ((yMk5 q (yM h)) 37 0).toNat) (ySmCA (yMk5 q (yM h)))) 206 (6 * ((yMk5 q (yM h)) 37 0).toNat + 2) (ySmL (yMk5 q (yM h)) (lL13).toNat)) 206 (6 * v16.toNat + 3) (((yMk5 q (yM h))) 37 69)) 37 70 = (zs (zs ((yMk5 q (yM h))) 206 (6 * ((yMk5 q (yM h)) 37 0).toNat) (ySmCA (yMk5 q (yM h)))) 206 (6 * ((yMk5 q (yM h)) 37 0).toNat + 2) (ySmL (yMk5 q (yM h)) (lL13).toNat)) 37 70) (Eq.trans (zs_na (by decide) : (zs (zs ((yMk5 q (yM h))) 206 (6 * ((yMk5 q (yM h)) 37 0).toNat) (ySmCA (yMk5 q (yM h)))) 206 (6 * ((yMk5 q (yM h)) 37 0).toNat + 2) (ySmL (yMk5 q (yM h)) (lL13).toNat)) 37 70 = (zs ((yMk5 q (yM h))) 206 (6 * ((yMk5 q (yM h)) 37 0).toNat) (ySmCA (yMk5 q (yM h)))) 37 70) (Eq.trans (zs_na (by decide) : (zs ((yMk5 q (yM h))) 206 (6 * ((yMk5 q (yM h)) 37 0).toNat) (ySmCA (yMk5 q (yM h)))) 37 70 = ((yMk5 q (yM h))) 37 70) rfl)))))
                      refine zwW_as Ih18 (a1 := 206) (a2 := 361) (n := 6) (lo := -2147483648) (hi := 2147483647) (nx := 163) (by decide +kernel) ⟨by omega, by omega⟩ ⟨by decide, by decide⟩ ⟨by omega, by omega⟩ ?_
                      intro h21 eh21 Ih21
                      have th21_37_0 : fld h21 37 0 = fld h18 37 0 := by rw [eh21]; exact fld_wr (by omega)
                      have th21_37_2 : fld h21 37 2 = fld h18 37 2 := by rw [eh21]; exact fld_wr (by omega)
                      have Zh21 : yM h21 = (zs (zs (zs (zs ((yMk5 q (yM h))) 206 (6 * ((yMk5 q (yM h)) 37 0).toNat) (ySmCA (yMk5 q (yM h)))) 206 (6 * ((yMk5 q (yM h)) 37 0).toNat + 2) (ySmL (yMk5 q (yM h)) (lL13).toNat)) 206 (6 * v16.toNat + 3) (((yMk5 q (yM h))) 37 69)) 206 (6 * v19.toNat + 4) (((yMk5 q (yM h))) 37 70)) := by rw [yM_w2 (a := 206) (w := 6) (v := v19.toNat) (j := 4) (m := 6) (kd := 20) rfl (by omega) (Ih18.s (a1 := 206) (a2 := 361) (by decide +kernel) (by omega) (by omega)) (by omega) (by omega) (by show _ < 936; omega) eh21, Zh18, sv20]
                      have Rh21 : zMR ms114 h h21 := Rh18.w (a1 := 206) (a2 := 361) (j1 := 0) (j2 := 6) (by decide +kernel) ⟨by omega, by omega⟩ ⟨by decide, by decide⟩ eh21
                      refine zwW_p [(1, 0, 2)] (q := 164) (ls' := [(2, 37), (0, lL13)]) (st' := [(2, 37)]) (by decide +kernel) rfl ?_
                      refine zwW_gc Ih21 (kd := 13) (bn := 91) (n := 97) (c := 205) (nx := 167) (by decide +kernel) ?_
                      refine zwW_p [(1, 0, 2)] (q := 168) (ls' := [(2, 37), (0, lL13)]) (st' := [(2, 37), (2, 205)]) (by decide +kernel) rfl ?_
                      refine zwW_gs Ih21 (kd := 13) (bn := 0) (n := 97) (t := 0) (lo := 0) (hi := 156) (nx := 171) (by decide +kernel) ?_
                      intro v22 ev22 lv22 uv22
                      have sv22 : v22 = ((yMk5 q (yM h))) 37 0 := Eq.trans ev22 (Eq.trans (Eq.symm (yM_s (h := h21) (i := 0) rfl)) (Eq.trans (congrFun (congrFun Zh21 37) 0) (Eq.trans (zs_na (by decide) : (zs (zs (zs (zs ((yMk5 q (yM h))) 206 (6 * ((yMk5 q (yM h)) 37 0).toNat) (ySmCA (yMk5 q (yM h)))) 206 (6 * ((yMk5 q (yM h)) 37 0).toNat + 2) (ySmL (yMk5 q (yM h)) (lL13).toNat)) 206 (6 * v16.toNat + 3) (((yMk5 q (yM h))) 37 69)) 206 (6 * v19.toNat + 4) (((yMk5 q (yM h))) 37 70)) 37 0 = (zs (zs (zs ((yMk5 q (yM h))) 206 (6 * ((yMk5 q (yM h)) 37 0).toNat) (ySmCA (yMk5 q (yM h)))) 206 (6 * ((yMk5 q (yM h)) 37 0).toNat + 2) (ySmL (yMk5 q (yM h)) (lL13).toNat)) 206 (6 * v16.toNat + 3) (((yMk5 q (yM h))) 37 69)) 37 0) (Eq.trans (zs_na (by decide) : (zs (zs (zs ((yMk5 q (yM h))) 206 (6 * ((yMk5 q (yM h)) 37 0).toNat) (ySmCA (yMk5 q (yM h)))) 206 (6 * ((yMk5 q (yM h)) 37 0).toNat + 2) (ySmL (yMk5 q (yM h)) (lL13).toNat)) 206 (6 * v16.toNat + 3) (((yMk5 q (yM h))) 37 69)) 37 0 = (zs (zs ((yMk5 q (yM h))) 206 (6 * ((yMk5 q (yM h)) 37 0).toNat) (ySmCA (yMk5 q (yM h)))) 206 (6 * ((yMk5 q (yM h)) 37 0).toNat + 2) (ySmL (yMk5 q (yM h)) (lL13).toNat)) 37 0) (Eq.trans (zs_na (by decide) : (zs (zs ((yMk5 q (yM h))) 206 (6 * ((yMk5 q (yM h)) 37 0).toNat) (ySmCA (yMk5 q (yM h)))) 206 (6 * ((yMk5 q (yM h)) 37 0).toNat + 2) (ySmL (yMk5 q (yM h)) (lL13).toNat)) 37 0 = (zs ((yMk5 q (yM h))) 206 (6 * ((yMk5 q (yM h)) 37 0).toNat) (ySmCA (yMk5 q (yM h)))) 37 0) (Eq.trans (zs_na (by decide) : (zs ((yMk5 q (yM h))) 206 (6 * ((yMk5 q (yM h)) 37 0).toNat) (ySmCA (yMk5 q (yM h)))) 37 0 = ((yMk5 q (yM h))) 37 0) rfl))))))
                      refine zwW_ro Ih21 (a := 205) (n := 156) (kd := 26) (base := 206) (step := 1) (nx := 172) (by decide +kernel) rfl ⟨by omega, by omega⟩ ?_
                      rw [show ((206 : Nat) : Int) + ((1 : Nat) : Int) * v22 = (206 + v22) by omega]
                      refine zwW_p [(0, 5, 0), (1, 0, 2)] (q := 174) (ls' := [(2, 37), (0, lL13)]) (st' := [(2, 37), (0, 5), (2, (206 + v22))]) (by decide +kernel) rfl ?_
                      refine zwW_gs Ih21 (kd := 13) (bn := 71) (n := 97) (t := 0) (lo := -2147483648) (hi := 2147483647) (nx := 177) (by decide +kernel) ?_
                      intro v23 ev23 lv23 uv23
                      have sv23 : v23 = ((yMk5 q (yM h))) 37 71 := Eq.trans ev23 (Eq.trans (Eq.symm (yM_s (h := h21) (i := 71) rfl)) (Eq.trans (congrFun (congrFun Zh21 37) 71) (Eq.trans (zs_na (by decide) : (zs (zs (zs (zs ((yMk5 q (yM h))) 206 (6 * ((yMk5 q (yM h)) 37 0).toNat) (ySmCA (yMk5 q (yM h)))) 206 (6 * ((yMk5 q (yM h)) 37 0).toNat + 2) (ySmL (yMk5 q (yM h)) (lL13).toNat)) 206 (6 * v16.toNat + 3) (((yMk5 q (yM h))) 37 69)) 206 (6 * v19.toNat + 4) (((yMk5 q (yM h))) 37 70)) 37 71 = (zs (zs (zs ((yMk5 q (yM h))) 206 (6 * ((yMk5 q (yM h)) 37 0).toNat) (ySmCA (yMk5 q (yM h)))) 206 (6 * ((yMk5 q (yM h)) 37 0).toNat + 2) (ySmL (yMk5 q (yM h)) (lL13).toNat)) 206 (6 * v16.toNat + 3) (((yMk5 q (yM h))) 37 69)) 37 71) (Eq.trans (zs_na (by decide) : (zs (zs (zs ((yMk5 q (yM h))) 206 (6 * ((yMk5 q (yM h)) 37 0).toNat) (ySmCA (yMk5 q (yM h)))) 206 (6 * ((yMk5 q (yM h)) 37 0).toNat + 2) (ySmL (yMk5 q (yM h)) (lL13).toNat)) 206 (6 * v16.toNat + 3) (((yMk5 q (yM h))) 37 69)) 37 71 = (zs (zs ((yMk5 q (yM h))) 206 (6 * ((yMk5 q (yM h)) 37 0).toNat) (ySmCA (yMk5 q (yM h)))) 206 (6 * ((yMk5 q (yM h)) 37 0).toNat + 2) (ySmL (yMk5 q (yM h)) (lL13).toNat)) 37 71) (Eq.trans (zs_na (by decide) : (zs (zs ((yMk5 q (yM h))) 206 (6 * ((yMk5 q (yM h)) 37 0).toNat) (ySmCA (yMk5 q (yM h)))) 206 (6 * ((yMk5 q (yM h)) 37 0).toNat + 2) (ySmL (yMk5 q (yM h)) (lL13).toNat)) 37 71 = (zs ((yMk5 q (yM h))) 206 (6 * ((yMk5 q (yM h)) 37 0).toNat) (ySmCA (yMk5 q (yM h)))) 37 71) (Eq.trans (zs_na (by decide) : (zs ((yMk5 q (yM h))) 206 (6 * ((yMk5 q (yM h)) 37 0).toNat) (ySmCA (yMk5 q (yM h)))) 37 71 = ((yMk5 q (yM h))) 37 71) rfl))))))
                      refine zwW_as Ih21 (a1 := 206) (a2 := 361) (n := 6) (lo := -2147483648) (hi := 2147483647) (nx := 178) (by decide +kernel) ⟨by omega, by omega⟩ ⟨by decide, by decide⟩ ⟨by omega, by omega⟩ ?_
                      intro h24 eh24 Ih24
                      have th24_37_0 : fld h24 37 0 = fld h21 37 0 := by rw [eh24]; exact fld_wr (by omega)
                      have th24_37_2 : fld h24 37 2 = fld h21 37 2 := by rw [eh24]; exact fld_wr (by omega)
                      have Zh24 : yM h24 = (zs (zs (zs (zs (zs ((yMk5 q (yM h))) 206 (6 * ((yMk5 q (yM h)) 37 0).toNat) (ySmCA (yMk5 q (yM h)))) 206 (6 * ((yMk5 q (yM h)) 37 0).toNat + 2) (ySmL (yMk5 q (yM h)) (lL13).toNat)) 206 (6 * v16.toNat + 3) (((yMk5 q (yM h))) 37 69)) 206 (6 * v19.toNat + 4) (((yMk5 q (yM h))) 37 70)) 206 (6 * v22.toNat + 5) (((yMk5 q (yM h))) 37 71)) := by rw [yM_w2 (a := 206) (w := 6) (v := v22.toNat) (j := 5) (m := 6) (kd := 20) rfl (by omega) (Ih21.s (a1 := 206) (a2 := 361) (by decide +kernel) (by omega) (by omega)) (by omega) (by omega) (by show _ < 936; omega) eh24, Zh21, sv23]
                      have Rh24 : zMR ms114 h h24 := Rh21.w (a1 := 206) (a2 := 361) (j1 := 0) (j2 := 6) (by decide +kernel) ⟨by omega, by omega⟩ ⟨by decide, by decide⟩ eh24
                      refine zwW_p [(1, 0, 2), (12, 0, 0)] (q := 180) (ls' := [(2, 37), (0, lL13)]) (st' := [(2, 37), (2, 37)]) (by decide +kernel) rfl ?_
                      refine zwW_gs Ih24 (kd := 13) (bn := 0) (n := 97) (t := 0) (lo := 0) (hi := 156) (nx := 183) (by decide +kernel) ?_
                      intro v25 ev25 lv25 uv25
                      have sv25 : v25 = ((yMk5 q (yM h))) 37 0 := Eq.trans ev25 (Eq.trans (Eq.symm (yM_s (h := h24) (i := 0) rfl)) (Eq.trans (congrFun (congrFun Zh24 37) 0) (Eq.trans (zs_na (by decide) : (zs (zs (zs (zs (zs ((yMk5 q (yM h))) 206 (6 * ((yMk5 q (yM h)) 37 0).toNat) (ySmCA (yMk5 q (yM h)))) 206 (6 * ((yMk5 q (yM h)) 37 0).toNat + 2) (ySmL (yMk5 q (yM h)) (lL13).toNat)) 206 (6 * v16.toNat + 3) (((yMk5 q (yM h))) 37 69)) 206 (6 * v19.toNat + 4) (((yMk5 q (yM h))) 37 70)) 206 (6 * v22.toNat + 5) (((yMk5 q (yM h))) 37 71)) 37 0 = (zs (zs (zs (zs ((yMk5 q (yM h))) 206 (6 * ((yMk5 q (yM h)) 37 0).toNat) (ySmCA (yMk5 q (yM h)))) 206 (6 * ((yMk5 q (yM h)) 37 0).toNat + 2) (ySmL (yMk5 q (yM h)) (lL13).toNat)) 206 (6 * v16.toNat + 3) (((yMk5 q (yM h))) 37 69)) 206 (6 * v19.toNat + 4) (((yMk5 q (yM h))) 37 70)) 37 0) (Eq.trans (zs_na (by decide) : (zs (zs (zs (zs ((yMk5 q (yM h))) 206 (6 * ((yMk5 q (yM h)) 37 0).toNat) (ySmCA (yMk5 q (yM h)))) 206 (6 * ((yMk5 q (yM h)) 37 0).toNat + 2) (ySmL (yMk5 q (yM h)) (lL13).toNat)) 206 (6 * v16.toNat + 3) (((yMk5 q (yM h))) 37 69)) 206 (6 * v19.toNat + 4) (((yMk5 q (yM h))) 37 70)) 37 0 = (zs (zs (zs ((yMk5 q (yM h))) 206 (6 * ((yMk5 q (yM h)) 37 0).toNat) (ySmCA (yMk5 q (yM h)))) 206 (6 * ((yMk5 q (yM h)) 37 0).toNat + 2) (ySmL (yMk5 q (yM h)) (lL13).toNat)) 206 (6 * v16.toNat + 3) (((yMk5 q (yM h))) 37 69)) 37 0) (Eq.trans (zs_na (by decide) : (zs (zs (zs ((yMk5 q (yM h))) 206 (6 * ((yMk5 q (yM h)) 37 0).toNat) (ySmCA (yMk5 q (yM h)))) 206 (6 * ((yMk5 q (yM h)) 37 0).toNat + 2) (ySmL (yMk5 q (yM h)) (lL13).toNat)) 206 (6 * v16.toNat + 3) (((yMk5 q (yM h))) 37 69)) 37 0 = (zs (zs ((yMk5 q (yM h))) 206 (6 * ((yMk5 q (yM h)) 37 0).toNat) (ySmCA (yMk5 q (yM h)))) 206 (6 * ((yMk5 q (yM h)) 37 0).toNat + 2) (ySmL (yMk5 q (yM h)) (lL13).toNat)) 37 0) (Eq.trans (zs_na (by decide) : (zs (zs ((yMk5 q (yM h))) 206 (6 * ((yMk5 q (yM h)) 37 0).toNat) (ySmCA (yMk5 q (yM h)))) 206 (6 * ((yMk5 q (yM h)) 37 0).toNat + 2) (ySmL (yMk5 q (yM h)) (lL13).toNat)) 37 0 = (zs ((yMk5 q (yM h))) 206 (6 * ((yMk5 q (yM h)) 37 0).toNat) (ySmCA (yMk5 q (yM h)))) 37 0) (Eq.trans (zs_na (by decide) : (zs ((yMk5 q (yM h))) 206 (6 * ((yMk5 q (yM h)) 37 0).toNat) (ySmCA (yMk5 q (yM h)))) 37 0 = ((yMk5 q (yM h))) 37 0) rfl)))))))
                      refine zwW_p [(0, 1, 0)] (q := 184) (ls' := [(2, 37), (0, lL13)]) (st' := [(0, 1), (0, v25), (2, 37)]) (by decide +kernel) rfl ?_
                      refine zwW_add (nx := 185) (by decide +kernel) ⟨by omega, by omega⟩ ?_
                      refine zwW_ps Ih24 (kd := 13) (bn := 0) (n := 97) (lo := 0) (hi := 156) (nx := 188) (by decide +kernel) ⟨by omega, by omega⟩ ?_
                      intro h26 eh26 Ih26
                      have th26_37_0 : fld h26 37 0 = (v25 + 1) := by rw [eh26]; exact fld_wr_eq (Ih24.s (a1 := 37) (a2 := 37) (k := 13) (n := 97) (by decide +kernel) (by decide) (by decide)) (by decide)
                      have th26_37_2 : fld h26 37 2 = fld h24 37 2 := by rw [eh26]; exact fld_wr (by decide)
                      have Zh26 : yM h26 = (zs (zs (zs (zs (zs (zs ((yMk5 q (yM h))) 206 (6 * ((yMk5 q (yM h)) 37 0).toNat) (ySmCA (yMk5 q (yM h)))) 206 (6 * ((yMk5 q (yM h)) 37 0).toNat + 2) (ySmL (yMk5 q (yM h)) (lL13).toNat)) 206 (6 * v16.toNat + 3) (((yMk5 q (yM h))) 37 69)) 206 (6 * v19.toNat + 4) (((yMk5 q (yM h))) 37 70)) 206 (6 * v22.toNat + 5) (((yMk5 q (yM h))) 37 71)) 37 0 ((((yMk5 q (yM h))) 37 0) + 1)) := by rw [yM_ws (i := 0) (kd := 13) (n := 97) rfl (Ih24.s (a1 := 37) (a2 := 37) (by decide +kernel) (by decide) (by decide)) (by decide) eh26, Zh24, sv25]
                      have Rh26 : zMR ms114 h h26 := Rh24.w (a1 := 37) (a2 := 37) (j1 := 0) (j2 := 1) (by decide +kernel) ⟨by decide, by decide⟩ ⟨by decide, by decide⟩ eh26
                      refine zwW_p [(0, 0, 0)] (q := 189) (ls' := [(2, 37), (0, lL13)]) (st' := [(0, 0)]) (by decide +kernel) rfl ?_
                      have E189 : (zs (zs (zs (zs (zs (zs ((yMk5 q (yM h))) 206 (6 * ((yMk5 q (yM h)) 37 0).toNat) (ySmCA (yMk5 q (yM h)))) 206 (6 * ((yMk5 q (yM h)) 37 0).toNat + 2) (ySmL (yMk5 q (yM h)) (lL13).toNat)) 206 (6 * v16.toNat + 3) (((yMk5 q (yM h))) 37 69)) 206 (6 * v19.toNat + 4) (((yMk5 q (yM h))) 37 70)) 206 (6 * v22.toNat + 5) (((yMk5 q (yM h))) 37 71)) 37 0 ((((yMk5 q (yM h))) 37 0) + 1)) = (zs (yMk6 (yMk5 q (yM h))) 37 0 ((yMk5 q (yM h)) 37 0 + 1)) := by
                        unfold yMk6
                        rw [show (lL13).toNat = ((yMk5 q (yM h)) 37 64).toNat by omega]
                        exact zs_cg (zs_cg (zs_cg (zs_cg rfl (by omega) rfl) (by omega) rfl) (by omega) rfl) rfl (by omega)
                      refine zwW_p [(2, 1, 0)] (q := 190) (ls' := [(2, 37), (0, 0)]) (st' := []) (by decide +kernel) rfl ?_
                      have L27 : ∀ (n0 : Nat) (vL27 : Int) (hL27 : Hp), n0 = ((100 - vL27)).toNat → ((0 ≤ vL27 ∧ vL27 ≤ (yMk5 q (yM h)) 37 1) ∧ fld hL27 37 0 = fld h 37 0 + 1) → (yM hL27 = (yBg1 (zs (yMk6 (yMk5 q (yM h))) 37 0 ((yMk5 q (yM h)) 37 0 + 1)) ((zs (yMk6 (yMk5 q (yM h))) 37 0 ((yMk5 q (yM h)) 37 0 + 1)) 37 0).toNat (vL27).toNat)) → zI hL27 → zMR ms114 h hL27 → zwW sc (7) 114 190 [(2, 37), (0, vL27)] [] hL27 (zwRv (fun g => zI g ∧ zMR ms114 h g ∧ (fld g 37 0 = fld h 37 0 + 1) ∧ (yM g = yWkM q (yM h)))) := by
                        intro n0
                        induction n0 using Nat.strongRecOn with
                        | ind n0 IHL27 =>
                          intro vL27 hL27 hnL27 iL27_0 iL27_1 IhL27 RhL27
                          refine zwW_p [(1, 1, 0), (1, 0, 2)] (q := 192) (ls' := [(2, 37), (0, vL27)]) (st' := [(2, 37), (0, vL27)]) (by decide +kernel) rfl ?_
                          have N192 : (yBg1 (zs (yMk6 (yMk5 q (yM h))) 37 0 ((yMk5 q (yM h)) 37 0 + 1)) ((zs (yMk6 (yMk5 q (yM h))) 37 0 ((yMk5 q (yM h)) 37 0 + 1)) 37 0).toNat (vL27).toNat) 37 1 = (yMk5 q (yM h)) 37 1 := (yBg1_n (by decide) _).trans ((zs_ni (by decide)).trans (yMk6_n (by decide)))
                          have O192 : (yBg1 (zs (yMk6 (yMk5 q (yM h))) 37 0 ((yMk5 q (yM h)) 37 0 + 1)) ((zs (yMk6 (yMk5 q (yM h))) 37 0 ((yMk5 q (yM h)) 37 0 + 1)) 37 0).toNat (vL27).toNat) 37 0 = (zs (yMk6 (yMk5 q (yM h))) 37 0 ((yMk5 q (yM h)) 37 0 + 1)) 37 0 := yBg1_n (by decide) _
                          refine zwW_gs IhL27 (kd := 13) (bn := 1) (n := 97) (t := 0) (lo := 0) (hi := 8) (nx := 195) (by decide +kernel) ?_
                          intro v28 ev28 lv28 uv28
                          have sv28 : v28 = (yBg1 (zs (yMk6 (yMk5 q (yM h))) 37 0 ((yMk5 q (yM h)) 37 0 + 1)) ((zs (yMk6 (yMk5 q (yM h))) 37 0 ((yMk5 q (yM h)) 37 0 + 1)) 37 0).toNat (vL27).toNat) 37 1 := Eq.trans ev28 (Eq.trans (Eq.symm (yM_s (h := hL27) (i := 1) rfl)) (Eq.trans (congrFun (congrFun iL27_1 37) 1) rfl))
                          refine zwic_ge (q := 221) (nx := 198) (by decide +kernel) (fun c29 => ?_) (fun c29 => ?_)
                          · refine zwW_p [(0, 0, 0), (2, 1, 0)] (q := 223) (ls' := [(2, 37), (0, 0)]) (st' := []) (by decide +kernel) rfl ?_
                            have L30 : ∀ (n0 : Nat) (kL30 : Int) (hL30 : Hp), n0 = ((100 - kL30)).toNat → ((0 ≤ kL30 ∧ kL30 ≤ (yMk5 q (yM h)) 37 2) ∧ fld hL30 37 0 = fld h 37 0 + 1) → (yM hL30 = (yBg2 (yBg1 (zs (yMk6 (yMk5 q (yM h))) 37 0 ((yMk5 q (yM h)) 37 0 + 1)) ((zs (yMk6 (yMk5 q (yM h))) 37 0 ((yMk5 q (yM h)) 37 0 + 1)) 37 0).toNat ((zs (yMk6 (yMk5 q (yM h))) 37 0 ((yMk5 q (yM h)) 37 0 + 1)) 37 1).toNat) (kL30).toNat)) → zI hL30 → zMR ms114 h hL30 → zwW sc (7) 114 223 [(2, 37), (0, kL30)] [] hL30 (zwRv (fun g => zI g ∧ zMR ms114 h g ∧ (fld g 37 0 = fld h 37 0 + 1) ∧ (yM g = yWkM q (yM h)))) := by
                              intro n0
                              induction n0 using Nat.strongRecOn with
                              | ind n0 IHL30 =>
                                intro kL30 hL30 hnL30 iL30_0 iL30_1 IhL30 RhL30
                                refine zwW_p [(1, 1, 0), (1, 0, 2)] (q := 225) (ls' := [(2, 37), (0, kL30)]) (st' := [(2, 37), (0, kL30)]) (by decide +kernel) rfl ?_
                                have N225 : (yBg2 (yBg1 (zs (yMk6 (yMk5 q (yM h))) 37 0 ((yMk5 q (yM h)) 37 0 + 1)) ((zs (yMk6 (yMk5 q (yM h))) 37 0 ((yMk5 q (yM h)) 37 0 + 1)) 37 0).toNat ((zs (yMk6 (yMk5 q (yM h))) 37 0 ((yMk5 q (yM h)) 37 0 + 1)) 37 1).toNat) (kL30).toNat) 37 2 = (yMk5 q (yM h)) 37 2 := (yBg2_n (by decide) _).trans ((yBg1_n (by decide) _).trans ((zs_ni (by decide)).trans (yMk6_n (by decide))))
                                refine zwW_gs IhL30 (kd := 13) (bn := 2) (n := 97) (t := 0) (lo := 0) (hi := 20) (nx := 228) (by decide +kernel) ?_
                                intro v31 ev31 lv31 uv31
                                have sv31 : v31 = (yBg2 (yBg1 (zs (yMk6 (yMk5 q (yM h))) 37 0 ((yMk5 q (yM h)) 37 0 + 1)) ((zs (yMk6 (yMk5 q (yM h))) 37 0 ((yMk5 q (yM h)) 37 0 + 1)) 37 0).toNat ((zs (yMk6 (yMk5 q (yM h))) 37 0 ((yMk5 q (yM h)) 37 0 + 1)) 37 1).toNat) (kL30).toNat) 37 2 := Eq.trans ev31 (Eq.trans (Eq.symm (yM_s (h := hL30) (i := 2) rfl)) (Eq.trans (congrFun (congrFun iL30_1 37) 2) rfl))
                                refine zwic_ge (q := 244) (nx := 231) (by decide +kernel) (fun c32 => ?_) (fun c32 => ?_)
                                · refine zwW_retv (nx := 245) (a := 0) (b := 0) (by decide +kernel) ?_
                                  exact ⟨IhL30, RhL30, by omega, by refine Eq.trans iL30_1 ?_; unfold yWkM yBgA; rw [show ((zs (yMk6 (yMk5 q (yM h))) 37 0 ((yMk5 q (yM h)) 37 0 + 1)) 37 2).toNat = (kL30).toNat by rw [zs_ni (by decide), yMk6_n (by decide)]; omega]⟩
                                · refine zwW_p [(1, 0, 2)] (q := 232) (ls' := [(2, 37), (0, kL30)]) (st' := [(2, 37)]) (by decide +kernel) rfl ?_
                                  refine zwW_gc IhL30 (kd := 13) (bn := 33) (n := 97) (c := 92) (nx := 235) (by decide +kernel) ?_
                                  refine zwW_p [(1, 1, 0), (0, 0, 0)] (q := 237) (ls' := [(2, 37), (0, kL30)]) (st' := [(0, 0), (0, kL30), (2, 92)]) (by decide +kernel) rfl ?_
                                  refine zwW_as IhL30 (a1 := 92) (a2 := 92) (n := 20) (lo := -2147483648) (hi := 2147483647) (nx := 238) (by decide +kernel) ⟨by decide, by decide⟩ ⟨by omega, by omega⟩ ⟨by decide, by decide⟩ ?_
                                  intro h33 eh33 Ih33
                                  have th33_37_0 : fld h33 37 0 = fld hL30 37 0 := by rw [eh33]; exact fld_wr (by omega)
                                  have th33_37_2 : fld h33 37 2 = fld hL30 37 2 := by rw [eh33]; exact fld_wr (by omega)
                                  have Zh33 : yM h33 = (zs (yBg2 (yBg1 (zs (yMk6 (yMk5 q (yM h))) 37 0 ((yMk5 q (yM h)) 37 0 + 1)) ((zs (yMk6 (yMk5 q (yM h))) 37 0 ((yMk5 q (yM h)) 37 0 + 1)) 37 0).toNat ((zs (yMk6 (yMk5 q (yM h))) 37 0 ((yMk5 q (yM h)) 37 0 + 1)) 37 1).toNat) (kL30).toNat) 92 kL30.toNat 0) := by rw [yM_w (a := 92) (n := 20) (i := kL30.toNat) (kd := 20) rfl (IhL30.s (a1 := 92) (a2 := 92) (by decide +kernel) (by decide) (by decide)) (by omega) eh33, iL30_1]
                                  have Rh33 : zMR ms114 h h33 := RhL30.w (a1 := 92) (a2 := 92) (j1 := 0) (j2 := 20) (by decide +kernel) ⟨by decide, by decide⟩ ⟨by omega, by omega⟩ eh33
                                  refine zwW_inc (i := 1) (c := 1) (x := kL30) (nx := 241) (by decide +kernel) rfl ⟨by omega, by omega⟩ (ls' := [(2, 37), (0, (kL30 + 1))]) rfl ?_
                                  refine zwW_p [(24, 223, 0)] (q := 223) (ls' := [(2, 37), (0, (kL30 + 1))]) (st' := []) (by decide +kernel) rfl ?_
                                  exact IHL30 ((100 - (kL30 + 1))).toNat (by omega) (kL30 + 1) h33 rfl (by omega) (by rw [show (kL30 + 1).toNat = (kL30).toNat + 1 by omega, yBg2_s]; exact Zh33) Ih33 Rh33
                            exact L30 _ 0 hL27 rfl (by omega) (iL27_1.trans (by rw [show ((zs (yMk6 (yMk5 q (yM h))) 37 0 ((yMk5 q (yM h)) 37 0 + 1)) 37 1).toNat = (vL27).toNat by rw [zs_ni (by decide), yMk6_n (by decide)]; omega]; rfl)) IhL27 RhL27
                          · refine zwW_p [(1, 0, 2)] (q := 199) (ls' := [(2, 37), (0, vL27)]) (st' := [(2, 37)]) (by decide +kernel) rfl ?_
                            refine zwW_gc IhL27 (kd := 13) (bn := 5) (n := 97) (c := 56) (nx := 202) (by decide +kernel) ?_
                            refine zwW_p [(1, 1, 0)] (q := 203) (ls' := [(2, 37), (0, vL27)]) (st' := [(0, vL27), (2, 56)]) (by decide +kernel) rfl ?_
                            refine zwW_ro IhL27 (a := 56) (n := 8) (kd := 26) (base := 57) (step := 1) (nx := 204) (by decide +kernel) rfl ⟨by omega, by omega⟩ ?_
                            rw [show ((57 : Nat) : Int) + ((1 : Nat) : Int) * vL27 = (57 + vL27) by omega]
                            refine zwW_p [(1, 0, 2)] (q := 205) (ls' := [(2, 37), (0, vL27)]) (st' := [(2, 37), (2, (57 + vL27))]) (by decide +kernel) rfl ?_
                            refine zwW_gs IhL27 (kd := 13) (bn := 0) (n := 97) (t := 0) (lo := 0) (hi := 156) (nx := 208) (by decide +kernel) ?_
                            intro v34 ev34 lv34 uv34
                            have sv34 : v34 = (yBg1 (zs (yMk6 (yMk5 q (yM h))) 37 0 ((yMk5 q (yM h)) 37 0 + 1)) ((zs (yMk6 (yMk5 q (yM h))) 37 0 ((yMk5 q (yM h)) 37 0 + 1)) 37 0).toNat (vL27).toNat) 37 0 := Eq.trans ev34 (Eq.trans (Eq.symm (yM_s (h := hL27) (i := 0) rfl)) (Eq.trans (congrFun (congrFun iL27_1 37) 0) rfl))
                            refine zwW_p [(1, 0, 2)] (q := 209) (ls' := [(2, 37), (0, vL27)]) (st' := [(2, 37), (0, v34), (2, (57 + vL27))]) (by decide +kernel) rfl ?_
                            refine zwW_gc IhL27 (kd := 13) (bn := 12) (n := 97) (c := 71) (nx := 212) (by decide +kernel) ?_
                            refine zwW_p [(1, 1, 0)] (q := 213) (ls' := [(2, 37), (0, vL27)]) (st' := [(0, vL27), (2, 71), (0, v34), (2, (57 + vL27))]) (by decide +kernel) rfl ?_
                            refine zwW_al IhL27 (a1 := 71) (a2 := 71) (kd := 20) (n := 8) (t := 0) (lo := -2147483648) (hi := 2147483647) (nx := 214) (by decide +kernel) ⟨by decide, by decide⟩ ⟨by omega, by omega⟩ ?_
                            intro v35 ev35 lv35 uv35
                            have sv35 : v35 = (yBg1 (zs (yMk6 (yMk5 q (yM h))) 37 0 ((yMk5 q (yM h)) 37 0 + 1)) ((zs (yMk6 (yMk5 q (yM h))) 37 0 ((yMk5 q (yM h)) 37 0 + 1)) 37 0).toNat (vL27).toNat) 71 vL27.toNat := Eq.trans ev35 (Eq.trans (Eq.symm (yM_p (h := hL27) (a := 71) (n := 8) (i := vL27.toNat) rfl (by omega))) (Eq.trans (congrFun (congrFun iL27_1 71) vL27.toNat) rfl))
                            refine zwW_as IhL27 (a1 := 57) (a2 := 64) (n := 157) (lo := -2147483648) (hi := 2147483647) (nx := 215) (by decide +kernel) ⟨by omega, by omega⟩ ⟨by omega, by omega⟩ ⟨by omega, by omega⟩ ?_
                            intro h36 eh36 Ih36
                            have th36_37_0 : fld h36 37 0 = fld hL27 37 0 := by rw [eh36]; exact fld_wr (by omega)
                            have th36_37_2 : fld h36 37 2 = fld hL27 37 2 := by rw [eh36]; exact fld_wr (by omega)
                            have Zh36 : yM h36 = (zs (yBg1 (zs (yMk6 (yMk5 q (yM h))) 37 0 ((yMk5 q (yM h)) 37 0 + 1)) ((zs (yMk6 (yMk5 q (yM h))) 37 0 ((yMk5 q (yM h)) 37 0 + 1)) 37 0).toNat (vL27).toNat) 57 (157 * vL27.toNat + v34.toNat) ((yBg1 (zs (yMk6 (yMk5 q (yM h))) 37 0 ((yMk5 q (yM h)) 37 0 + 1)) ((zs (yMk6 (yMk5 q (yM h))) 37 0 ((yMk5 q (yM h)) 37 0 + 1)) 37 0).toNat (vL27).toNat) 71 vL27.toNat)) := by rw [yM_w2 (a := 57) (w := 157) (v := vL27.toNat) (j := v34.toNat) (m := 157) (kd := 20) rfl (by omega) (IhL27.s (a1 := 57) (a2 := 64) (by decide +kernel) (by omega) (by omega)) (by omega) (by omega) (by show _ < 1256; omega) eh36, iL27_1, sv35, sv34]
                            have Rh36 : zMR ms114 h h36 := RhL27.w (a1 := 57) (a2 := 64) (j1 := 0) (j2 := 157) (by decide +kernel) ⟨by omega, by omega⟩ ⟨by omega, by omega⟩ eh36
                            refine zwW_inc (i := 1) (c := 1) (x := vL27) (nx := 218) (by decide +kernel) rfl ⟨by omega, by omega⟩ (ls' := [(2, 37), (0, (vL27 + 1))]) rfl ?_
                            refine zwW_p [(24, 190, 0)] (q := 190) (ls' := [(2, 37), (0, (vL27 + 1))]) (st' := []) (by decide +kernel) rfl ?_
                            exact IHL27 ((100 - (vL27 + 1))).toNat (by omega) (vL27 + 1) h36 rfl (by omega) (by rw [show (vL27 + 1).toNat = (vL27).toNat + 1 by omega, yBg1_s]; exact Zh36.trans (zs_cg rfl (by omega) rfl)) Ih36 Rh36
                      exact L27 _ 0 h26 rfl (by omega) (Zh26.trans E189) Ih26 Rh26
                    · refine zwW_p [(1, 0, 2)] (q := 108) (ls' := [(2, 37), (0, lL13)]) (st' := [(2, 37)]) (by decide +kernel) rfl ?_
                      refine zwW_gc IhL13 (kd := 13) (bn := 91) (n := 97) (c := 205) (nx := 111) (by decide +kernel) ?_
                      refine zwW_p [(1, 0, 2)] (q := 112) (ls' := [(2, 37), (0, lL13)]) (st' := [(2, 37), (2, 205)]) (by decide +kernel) rfl ?_
                      refine zwW_gs IhL13 (kd := 13) (bn := 0) (n := 97) (t := 0) (lo := 0) (hi := 156) (nx := 115) (by decide +kernel) ?_
                      intro v37 ev37 lv37 uv37
                      have sv37 : v37 = ((yMk5 q (yM h))) 37 0 := Eq.trans ev37 (Eq.trans (Eq.symm (yM_s (h := hL13) (i := 0) rfl)) (Eq.trans (congrFun (congrFun (iL13_1) 37) 0) (Eq.trans (zs_na (by decide) : (zs (zs ((yMk5 q (yM h))) 206 (6 * ((yMk5 q (yM h)) 37 0).toNat) (ySmCA (yMk5 q (yM h)))) 206 (6 * ((yMk5 q (yM h)) 37 0).toNat + 2) (ySmL (yMk5 q (yM h)) (lL13).toNat)) 37 0 = (zs ((yMk5 q (yM h))) 206 (6 * ((yMk5 q (yM h)) 37 0).toNat) (ySmCA (yMk5 q (yM h)))) 37 0) (Eq.trans (zs_na (by decide) : (zs ((yMk5 q (yM h))) 206 (6 * ((yMk5 q (yM h)) 37 0).toNat) (ySmCA (yMk5 q (yM h)))) 37 0 = ((yMk5 q (yM h))) 37 0) rfl))))
                      refine zwW_ro IhL13 (a := 205) (n := 156) (kd := 26) (base := 206) (step := 1) (nx := 116) (by decide +kernel) rfl ⟨by omega, by omega⟩ ?_
                      rw [show ((206 : Nat) : Int) + ((1 : Nat) : Int) * v37 = (206 + v37) by omega]
                      refine zwW_p [(0, 2, 0), (14, 0, 0)] (q := 118) (ls' := [(2, 37), (0, lL13)]) (st' := [(0, 2), (2, (206 + v37)), (0, 2), (2, (206 + v37))]) (by decide +kernel) rfl ?_
                      refine zwW_al IhL13 (a1 := 206) (a2 := 361) (kd := 20) (n := 6) (t := 0) (lo := -2147483648) (hi := 2147483647) (nx := 119) (by decide +kernel) ⟨by omega, by omega⟩ ⟨by decide, by decide⟩ ?_
                      intro v38 ev38 lv38 uv38
                      have sv38 : v38 = (zs (zs ((yMk5 q (yM h))) 206 (6 * ((yMk5 q (yM h)) 37 0).toNat) (ySmCA (yMk5 q (yM h)))) 206 (6 * ((yMk5 q (yM h)) 37 0).toNat + 2) (ySmL (yMk5 q (yM h)) (lL13).toNat)) 206 (6 * v37.toNat + 2) := Eq.trans (show v38 = yM hL13 206 (6 * v37.toNat + 2) by rw [yM_2 (a := 206) (w := 6) (v := v37.toNat) (j := 2) rfl (by omega) (by show _ < 936; omega), ev38]; congr 1; omega) (Eq.trans (congrFun (congrFun (iL13_1) 206) (6 * v37.toNat + 2)) rfl)
                      refine zwW_p [(1, 0, 2)] (q := 120) (ls' := [(2, 37), (0, lL13)]) (st' := [(2, 37), (0, v38), (0, 2), (2, (206 + v37))]) (by decide +kernel) rfl ?_
                      refine zwW_gc IhL13 (kd := 13) (bn := 63) (n := 97) (c := 175) (nx := 123) (by decide +kernel) ?_
                      refine zwW_p [(1, 1, 0)] (q := 124) (ls' := [(2, 37), (0, lL13)]) (st' := [(0, lL13), (2, 175), (0, v38), (0, 2), (2, (206 + v37))]) (by decide +kernel) rfl ?_
                      refine zwW_al IhL13 (a1 := 175) (a2 := 175) (kd := 20) (n := 300) (t := 0) (lo := -2147483648) (hi := 2147483647) (nx := 125) (by decide +kernel) ⟨by decide, by decide⟩ ⟨by omega, by omega⟩ ?_
                      intro v39 ev39 lv39 uv39
                      have sv39 : v39 = ((yMk5 q (yM h))) 175 lL13.toNat := Eq.trans ev39 (Eq.trans (Eq.symm (yM_p (h := hL13) (a := 175) (n := 300) (i := lL13.toNat) rfl (by omega))) (Eq.trans (congrFun (congrFun (iL13_1) 175) lL13.toNat) (Eq.trans (zs_na (by decide) : (zs (zs ((yMk5 q (yM h))) 206 (6 * ((yMk5 q (yM h)) 37 0).toNat) (ySmCA (yMk5 q (yM h)))) 206 (6 * ((yMk5 q (yM h)) 37 0).toNat + 2) (ySmL (yMk5 q (yM h)) (lL13).toNat)) 175 lL13.toNat = (zs ((yMk5 q (yM h))) 206 (6 * ((yMk5 q (yM h)) 37 0).toNat) (ySmCA (yMk5 q (yM h)))) 175 lL13.toNat) (Eq.trans (zs_na (by decide) : (zs ((yMk5 q (yM h))) 206 (6 * ((yMk5 q (yM h)) 37 0).toNat) (ySmCA (yMk5 q (yM h)))) 175 lL13.toNat = ((yMk5 q (yM h))) 175 lL13.toNat) rfl))))
                      refine zwW_adw (nx := 126) (by decide +kernel) ?_
                      intro v40 ev40 lv40 uv40
                      have Ev40 : v40 = w32 (((zs (zs ((yMk5 q (yM h))) 206 (6 * ((yMk5 q (yM h)) 37 0).toNat) (ySmCA (yMk5 q (yM h)))) 206 (6 * ((yMk5 q (yM h)) 37 0).toNat + 2) (ySmL (yMk5 q (yM h)) (lL13).toNat)) 206 (6 * v37.toNat + 2)) + (((yMk5 q (yM h))) 175 lL13.toNat)) := by rw [ev40, sv38, sv39]
                      refine zwW_as IhL13 (a1 := 206) (a2 := 361) (n := 6) (lo := -2147483648) (hi := 2147483647) (nx := 127) (by decide +kernel) ⟨by omega, by omega⟩ ⟨by decide, by decide⟩ ⟨by omega, by omega⟩ ?_
                      intro h41 eh41 Ih41
                      have th41_37_0 : fld h41 37 0 = fld hL13 37 0 := by rw [eh41]; exact fld_wr (by omega)
                      have th41_37_2 : fld h41 37 2 = fld hL13 37 2 := by rw [eh41]; exact fld_wr (by omega)
                      have Zh41 : yM h41 = (zs (zs (zs ((yMk5 q (yM h))) 206 (6 * ((yMk5 q (yM h)) 37 0).toNat) (ySmCA (yMk5 q (yM h)))) 206 (6 * ((yMk5 q (yM h)) 37 0).toNat + 2) (ySmL (yMk5 q (yM h)) (lL13).toNat)) 206 (6 * v37.toNat + 2) (w32 (((zs (zs ((yMk5 q (yM h))) 206 (6 * ((yMk5 q (yM h)) 37 0).toNat) (ySmCA (yMk5 q (yM h)))) 206 (6 * ((yMk5 q (yM h)) 37 0).toNat + 2) (ySmL (yMk5 q (yM h)) (lL13).toNat)) 206 (6 * v37.toNat + 2)) + (((yMk5 q (yM h))) 175 lL13.toNat)))) := by rw [yM_w2 (a := 206) (w := 6) (v := v37.toNat) (j := 2) (m := 6) (kd := 20) rfl (by omega) (IhL13.s (a1 := 206) (a2 := 361) (by decide +kernel) (by omega) (by omega)) (by omega) (by omega) (by show _ < 936; omega) eh41, (iL13_1), Ev40]
                      have Rh41 : zMR ms114 h h41 := RhL13.w (a1 := 206) (a2 := 361) (j1 := 0) (j2 := 6) (by decide +kernel) ⟨by omega, by omega⟩ ⟨by decide, by decide⟩ eh41
                      refine zwW_inc (i := 1) (c := 1) (x := lL13) (nx := 130) (by decide +kernel) rfl ⟨by omega, by omega⟩ (ls' := [(2, 37), (0, (lL13 + 1))]) rfl ?_
                      refine zwW_p [(24, 99, 0)] (q := 99) (ls' := [(2, 37), (0, (lL13 + 1))]) (st' := []) (by decide +kernel) rfl ?_
                      exact IHL13 ((1000 - (lL13 + 1))).toNat (by omega) (lL13 + 1) h41 rfl (by omega) (Zh41.trans (zs_acc (by omega) (by rw [show (lL13 + 1).toNat = (lL13).toNat + 1 by omega]; exact ySmL_s))) Ih41 Rh41
                exact L13 _ 0 hL10 rfl (by omega) ((iL10_1).trans (by rw [show (vL10).toNat = ((yMk5 q (yM h)) 37 1).toNat by omega]; exact (zs_self ((zs_ni (by omega)).trans (yMk5_z ZR (Or.inr (by rw [M0]))))).symm)) IhL10 RhL10
              · refine zwW_p [(1, 0, 2)] (q := 72) (ls' := [(2, 37), (0, vL10)]) (st' := [(2, 37)]) (by decide +kernel) rfl ?_
                refine zwW_gc IhL10 (kd := 13) (bn := 91) (n := 97) (c := 205) (nx := 75) (by decide +kernel) ?_
                refine zwW_p [(1, 0, 2)] (q := 76) (ls' := [(2, 37), (0, vL10)]) (st' := [(2, 37), (2, 205)]) (by decide +kernel) rfl ?_
                refine zwW_gs IhL10 (kd := 13) (bn := 0) (n := 97) (t := 0) (lo := 0) (hi := 156) (nx := 79) (by decide +kernel) ?_
                intro v42 ev42 lv42 uv42
                have sv42 : v42 = ((yMk5 q (yM h))) 37 0 := Eq.trans ev42 (Eq.trans (Eq.symm (yM_s (h := hL10) (i := 0) rfl)) (Eq.trans (congrFun (congrFun (iL10_1) 37) 0) (Eq.trans (zs_na (by decide) : (zs ((yMk5 q (yM h))) 206 (6 * ((yMk5 q (yM h)) 37 0).toNat) (ySmC (yMk5 q (yM h)) (vL10).toNat)) 37 0 = ((yMk5 q (yM h))) 37 0) rfl)))
                refine zwW_ro IhL10 (a := 205) (n := 156) (kd := 26) (base := 206) (step := 1) (nx := 80) (by decide +kernel) rfl ⟨by omega, by omega⟩ ?_
                rw [show ((206 : Nat) : Int) + ((1 : Nat) : Int) * v42 = (206 + v42) by omega]
                refine zwW_p [(0, 0, 0), (14, 0, 0)] (q := 82) (ls' := [(2, 37), (0, vL10)]) (st' := [(0, 0), (2, (206 + v42)), (0, 0), (2, (206 + v42))]) (by decide +kernel) rfl ?_
                refine zwW_al IhL10 (a1 := 206) (a2 := 361) (kd := 20) (n := 6) (t := 0) (lo := -2147483648) (hi := 2147483647) (nx := 83) (by decide +kernel) ⟨by omega, by omega⟩ ⟨by decide, by decide⟩ ?_
                intro v43 ev43 lv43 uv43
                have sv43 : v43 = (zs ((yMk5 q (yM h))) 206 (6 * ((yMk5 q (yM h)) 37 0).toNat) (ySmC (yMk5 q (yM h)) (vL10).toNat)) 206 (6 * v42.toNat + 0) := Eq.trans (show v43 = yM hL10 206 (6 * v42.toNat + 0) by rw [yM_2 (a := 206) (w := 6) (v := v42.toNat) (j := 0) rfl (by omega) (by show _ < 936; omega), ev43]; congr 1; omega) (Eq.trans (congrFun (congrFun (iL10_1) 206) (6 * v42.toNat + 0)) rfl)
                refine zwW_p [(1, 0, 2)] (q := 84) (ls' := [(2, 37), (0, vL10)]) (st' := [(2, 37), (0, v43), (0, 0), (2, (206 + v42))]) (by decide +kernel) rfl ?_
                refine zwW_gc IhL10 (kd := 13) (bn := 7) (n := 97) (c := 66) (nx := 87) (by decide +kernel) ?_
                refine zwW_p [(1, 1, 0)] (q := 88) (ls' := [(2, 37), (0, vL10)]) (st' := [(0, vL10), (2, 66), (0, v43), (0, 0), (2, (206 + v42))]) (by decide +kernel) rfl ?_
                refine zwW_al IhL10 (a1 := 66) (a2 := 66) (kd := 20) (n := 8) (t := 0) (lo := -2147483648) (hi := 2147483647) (nx := 89) (by decide +kernel) ⟨by decide, by decide⟩ ⟨by omega, by omega⟩ ?_
                intro v44 ev44 lv44 uv44
                have sv44 : v44 = ((yMk5 q (yM h))) 66 vL10.toNat := Eq.trans ev44 (Eq.trans (Eq.symm (yM_p (h := hL10) (a := 66) (n := 8) (i := vL10.toNat) rfl (by omega))) (Eq.trans (congrFun (congrFun (iL10_1) 66) vL10.toNat) (Eq.trans (zs_na (by decide) : (zs ((yMk5 q (yM h))) 206 (6 * ((yMk5 q (yM h)) 37 0).toNat) (ySmC (yMk5 q (yM h)) (vL10).toNat)) 66 vL10.toNat = ((yMk5 q (yM h))) 66 vL10.toNat) rfl)))
                refine zwW_adw (nx := 90) (by decide +kernel) ?_
                intro v45 ev45 lv45 uv45
                have Ev45 : v45 = w32 (((zs ((yMk5 q (yM h))) 206 (6 * ((yMk5 q (yM h)) 37 0).toNat) (ySmC (yMk5 q (yM h)) (vL10).toNat)) 206 (6 * v42.toNat + 0)) + (((yMk5 q (yM h))) 66 vL10.toNat)) := by rw [ev45, sv43, sv44]
                refine zwW_as IhL10 (a1 := 206) (a2 := 361) (n := 6) (lo := -2147483648) (hi := 2147483647) (nx := 91) (by decide +kernel) ⟨by omega, by omega⟩ ⟨by decide, by decide⟩ ⟨by omega, by omega⟩ ?_
                intro h46 eh46 Ih46
                have th46_37_0 : fld h46 37 0 = fld hL10 37 0 := by rw [eh46]; exact fld_wr (by omega)
                have th46_37_2 : fld h46 37 2 = fld hL10 37 2 := by rw [eh46]; exact fld_wr (by omega)
                have Zh46 : yM h46 = (zs (zs ((yMk5 q (yM h))) 206 (6 * ((yMk5 q (yM h)) 37 0).toNat) (ySmC (yMk5 q (yM h)) (vL10).toNat)) 206 (6 * v42.toNat + 0) (w32 (((zs ((yMk5 q (yM h))) 206 (6 * ((yMk5 q (yM h)) 37 0).toNat) (ySmC (yMk5 q (yM h)) (vL10).toNat)) 206 (6 * v42.toNat + 0)) + (((yMk5 q (yM h))) 66 vL10.toNat)))) := by rw [yM_w2 (a := 206) (w := 6) (v := v42.toNat) (j := 0) (m := 6) (kd := 20) rfl (by omega) (IhL10.s (a1 := 206) (a2 := 361) (by decide +kernel) (by omega) (by omega)) (by omega) (by omega) (by show _ < 936; omega) eh46, (iL10_1), Ev45]
                have Rh46 : zMR ms114 h h46 := RhL10.w (a1 := 206) (a2 := 361) (j1 := 0) (j2 := 6) (by decide +kernel) ⟨by omega, by omega⟩ ⟨by decide, by decide⟩ eh46
                refine zwW_inc (i := 1) (c := 1) (x := vL10) (nx := 94) (by decide +kernel) rfl ⟨by omega, by omega⟩ (ls' := [(2, 37), (0, (vL10 + 1))]) rfl ?_
                refine zwW_p [(24, 63, 0)] (q := 63) (ls' := [(2, 37), (0, (vL10 + 1))]) (st' := []) (by decide +kernel) rfl ?_
                exact IHL10 ((100 - (vL10 + 1))).toNat (by omega) (vL10 + 1) h46 rfl (by omega) (Zh46.trans (zs_acc (by omega) (by rw [show (vL10 + 1).toNat = (vL10).toNat + 1 by omega]; exact ySmC_s))) Ih46 Rh46
          exact L10 _ 0 h9 rfl (by omega) ((show yM h9 = (yMk5 q (yM h)) from Zh9).trans (zs_self (yMk5_z ZR (Or.inl (by rw [M0])))).symm) Ih9 Rh9
        · refine zwW_p [(1, 0, 2)] (q := 54) (ls' := [(2, 37), (0, kL3)]) (st' := [(2, 37)]) (by decide +kernel) rfl ?_
          refine zwW_cmv IhL3 (op := 60) (k' := 196) (n := 0) (kd := 13) (m := 97) (nx := 57) (r := 37) (tl := []) (st' := []) (by decide +kernel) rfl (by decide +kernel) rfl (m196_z hL3 IhL3 q iL3_0 (by rw [(iL3_2.trans E41)]; exact OK1.bya (q := q))) ?_
          rintro h48 ⟨Ih48, Qh48, f47⟩
          have Rh48 : zMR ms114 h h48 := RhL3.tr Qh48 (by decide +kernel)
          have Vh48 : mRq q h48 := iL3_0.fr Qh48 (by decide +kernel)
          have th48_37_0 : fld h48 37 0 = fld hL3 37 0 := Qh48.f (a1 := 37) (a2 := 37) (j1 := 0) (j2 := 1) (by decide +kernel) ⟨by decide, by decide⟩ ⟨by decide, by decide⟩
          have th48_37_2 : fld h48 37 2 = fld hL3 37 2 := Qh48.f (a1 := 37) (a2 := 37) (j1 := 2) (j2 := 3) (by decide +kernel) ⟨by decide, by decide⟩ ⟨by decide, by decide⟩
          have Zh48 : yM h48 = (ySea q (yByA q (yLyM (yM h)))) := by rw [f47, (iL3_2.trans E41)]
          have E57 : (ySea q (yByA q (yLyM (yM h)))) = (if yByA q (yLyM (yM h)) 37 0 % 13 = 12 then ySea q (yByA q (yLyM (yM h))) else yByA q (yLyM (yM h))) := by
            first
            | exact (if_neg (by omega)).symm
            | exact (if_pos (by omega)).symm
          refine zwW_p [(1, 0, 2)] (q := 58) (ls' := [(2, 37), (0, kL3)]) (st' := [(2, 37)]) (by decide +kernel) rfl ?_
          refine zwW_cmv Ih48 (op := 60) (k' := 197) (n := 0) (kd := 13) (m := 97) (nx := 61) (r := 37) (tl := []) (st' := []) (by decide +kernel) rfl (by decide +kernel) rfl (m197_z h48 Ih48) ?_
          rintro h50 ⟨Ih50, Qh50, f49⟩
          have Rh50 : zMR ms114 h h50 := Rh48.tr Qh50 (by decide +kernel)
          have Vh50 : mRq q h50 := Vh48.fr Qh50 (by decide +kernel)
          have th50_37_0 : fld h50 37 0 = fld h48 37 0 := Qh50.f (a1 := 37) (a2 := 37) (j1 := 0) (j2 := 1) (by decide +kernel) ⟨by decide, by decide⟩ ⟨by decide, by decide⟩
          have th50_37_2 : fld h50 37 2 = fld h48 37 2 := Qh50.f (a1 := 37) (a2 := 37) (j1 := 2) (j2 := 3) (by decide +kernel) ⟨by decide, by decide⟩ ⟨by decide, by decide⟩
          have Zh50 : yM h50 = (yWrA (if yByA q (yLyM (yM h)) 37 0 % 13 = 12 then ySea q (yByA q (yLyM (yM h))) else yByA q (yLyM (yM h)))) := by rw [f49, (Zh48.trans E57)]
          refine zwW_p [(0, 0, 0)] (q := 62) (ls' := [(2, 37), (0, kL3)]) (st' := [(0, 0)]) (by decide +kernel) rfl ?_
          refine zwW_p [(2, 1, 0)] (q := 63) (ls' := [(2, 37), (0, 0)]) (st' := []) (by decide +kernel) rfl ?_
          have L51 : ∀ (n0 : Nat) (vL51 : Int) (hL51 : Hp), n0 = ((100 - vL51)).toNat → ((0 ≤ vL51 ∧ vL51 ≤ (yMk5 q (yM h)) 37 1) ∧ fld hL51 37 0 = fld h 37 0) → (yM hL51 = (zs (yMk5 q (yM h)) 206 (6 * ((yMk5 q (yM h)) 37 0).toNat) (ySmC (yMk5 q (yM h)) (vL51).toNat))) → zI hL51 → zMR ms114 h hL51 → zwW sc (7) 114 63 [(2, 37), (0, vL51)] [] hL51 (zwRv (fun g => zI g ∧ zMR ms114 h g ∧ (fld g 37 0 = fld h 37 0 + 1) ∧ (yM g = yWkM q (yM h)))) := by
            intro n0
            induction n0 using Nat.strongRecOn with
            | ind n0 IHL51 =>
              intro vL51 hL51 hnL51 iL51_0 iL51_1 IhL51 RhL51
              refine zwW_p [(1, 1, 0), (1, 0, 2)] (q := 65) (ls' := [(2, 37), (0, vL51)]) (st' := [(2, 37), (0, vL51)]) (by decide +kernel) rfl ?_
              refine zwW_gs IhL51 (kd := 13) (bn := 1) (n := 97) (t := 0) (lo := 0) (hi := 8) (nx := 68) (by decide +kernel) ?_
              intro v52 ev52 lv52 uv52
              have sv52 : v52 = ((yMk5 q (yM h))) 37 1 := Eq.trans ev52 (Eq.trans (Eq.symm (yM_s (h := hL51) (i := 1) rfl)) (Eq.trans (congrFun (congrFun (iL51_1) 37) 1) (Eq.trans (zs_na (by decide) : (zs ((yMk5 q (yM h))) 206 (6 * ((yMk5 q (yM h)) 37 0).toNat) (ySmC (yMk5 q (yM h)) (vL51).toNat)) 37 1 = ((yMk5 q (yM h))) 37 1) rfl)))
              refine zwic_ge (q := 97) (nx := 71) (by decide +kernel) (fun c53 => ?_) (fun c53 => ?_)
              · refine zwW_p [(0, 0, 0), (2, 1, 0)] (q := 99) (ls' := [(2, 37), (0, 0)]) (st' := []) (by decide +kernel) rfl ?_
                have L54 : ∀ (n0 : Nat) (lL54 : Int) (hL54 : Hp), n0 = ((1000 - lL54)).toNat → ((0 ≤ lL54 ∧ lL54 ≤ (yMk5 q (yM h)) 37 64) ∧ fld hL54 37 0 = fld h 37 0) → (yM hL54 = (zs (zs (yMk5 q (yM h)) 206 (6 * ((yMk5 q (yM h)) 37 0).toNat) (ySmCA (yMk5 q (yM h)))) 206 (6 * ((yMk5 q (yM h)) 37 0).toNat + 2) (ySmL (yMk5 q (yM h)) (lL54).toNat))) → zI hL54 → zMR ms114 h hL54 → zwW sc (7) 114 99 [(2, 37), (0, lL54)] [] hL54 (zwRv (fun g => zI g ∧ zMR ms114 h g ∧ (fld g 37 0 = fld h 37 0 + 1) ∧ (yM g = yWkM q (yM h)))) := by
                  intro n0
                  induction n0 using Nat.strongRecOn with
                  | ind n0 IHL54 =>
                    intro lL54 hL54 hnL54 iL54_0 iL54_1 IhL54 RhL54
                    refine zwW_p [(1, 1, 0), (1, 0, 2)] (q := 101) (ls' := [(2, 37), (0, lL54)]) (st' := [(2, 37), (0, lL54)]) (by decide +kernel) rfl ?_
                    refine zwW_gs IhL54 (kd := 13) (bn := 64) (n := 97) (t := 0) (lo := 0) (hi := 300) (nx := 104) (by decide +kernel) ?_
                    intro v55 ev55 lv55 uv55
                    have sv55 : v55 = ((yMk5 q (yM h))) 37 64 := Eq.trans ev55 (Eq.trans (Eq.symm (yM_s (h := hL54) (i := 64) rfl)) (Eq.trans (congrFun (congrFun (iL54_1) 37) 64) (Eq.trans (zs_na (by decide) : (zs (zs ((yMk5 q (yM h))) 206 (6 * ((yMk5 q (yM h)) 37 0).toNat) (ySmCA (yMk5 q (yM h)))) 206 (6 * ((yMk5 q (yM h)) 37 0).toNat + 2) (ySmL (yMk5 q (yM h)) (lL54).toNat)) 37 64 = (zs ((yMk5 q (yM h))) 206 (6 * ((yMk5 q (yM h)) 37 0).toNat) (ySmCA (yMk5 q (yM h)))) 37 64) (Eq.trans (zs_na (by decide) : (zs ((yMk5 q (yM h))) 206 (6 * ((yMk5 q (yM h)) 37 0).toNat) (ySmCA (yMk5 q (yM h)))) 37 64 = ((yMk5 q (yM h))) 37 64) rfl))))
                    refine zwic_ge (q := 133) (nx := 107) (by decide +kernel) (fun c56 => ?_) (fun c56 => ?_)
                    · refine zwW_p [(1, 0, 2)] (q := 134) (ls' := [(2, 37), (0, lL54)]) (st' := [(2, 37)]) (by decide +kernel) rfl ?_
                      refine zwW_gc IhL54 (kd := 13) (bn := 91) (n := 97) (c := 205) (nx := 137) (by decide +kernel) ?_
                      refine zwW_p [(1, 0, 2)] (q := 138) (ls' := [(2, 37), (0, lL54)]) (st' := [(2, 37), (2, 205)]) (by decide +kernel) rfl ?_
                      refine zwW_gs IhL54 (kd := 13) (bn := 0) (n := 97) (t := 0) (lo := 0) (hi := 156) (nx := 141) (by decide +kernel) ?_
                      intro v57 ev57 lv57 uv57
                      have sv57 : v57 = ((yMk5 q (yM h))) 37 0 := Eq.trans ev57 (Eq.trans (Eq.symm (yM_s (h := hL54) (i := 0) rfl)) (Eq.trans (congrFun (congrFun (iL54_1) 37) 0) (Eq.trans (zs_na (by decide) : (zs (zs ((yMk5 q (yM h))) 206 (6 * ((yMk5 q (yM h)) 37 0).toNat) (ySmCA (yMk5 q (yM h)))) 206 (6 * ((yMk5 q (yM h)) 37 0).toNat + 2) (ySmL (yMk5 q (yM h)) (lL54).toNat)) 37 0 = (zs ((yMk5 q (yM h))) 206 (6 * ((yMk5 q (yM h)) 37 0).toNat) (ySmCA (yMk5 q (yM h)))) 37 0) (Eq.trans (zs_na (by decide) : (zs ((yMk5 q (yM h))) 206 (6 * ((yMk5 q (yM h)) 37 0).toNat) (ySmCA (yMk5 q (yM h)))) 37 0 = ((yMk5 q (yM h))) 37 0) rfl))))
                      refine zwW_ro IhL54 (a := 205) (n := 156) (kd := 26) (base := 206) (step := 1) (nx := 142) (by decide +kernel) rfl ⟨by omega, by omega⟩ ?_
                      rw [show ((206 : Nat) : Int) + ((1 : Nat) : Int) * v57 = (206 + v57) by omega]
                      refine zwW_p [(0, 3, 0), (1, 0, 2)] (q := 144) (ls' := [(2, 37), (0, lL54)]) (st' := [(2, 37), (0, 3), (2, (206 + v57))]) (by decide +kernel) rfl ?_
                      refine zwW_gs IhL54 (kd := 13) (bn := 69) (n := 97) (t := 0) (lo := -2147483648) (hi := 2147483647) (nx := 147) (by decide +kernel) ?_
                      intro v58 ev58 lv58 uv58
                      have sv58 : v58 = ((yMk5 q (yM h))) 37 69 := Eq.trans ev58 (Eq.trans (Eq.symm (yM_s (h := hL54) (i := 69) rfl)) (Eq.trans (congrFun (congrFun (iL54_1) 37) 69) (Eq.trans (zs_na (by decide) : (zs (zs ((yMk5 q (yM h))) 206 (6 * ((yMk5 q (yM h)) 37 0).toNat) (ySmCA (yMk5 q (yM h)))) 206 (6 * ((yMk5 q (yM h)) 37 0).toNat + 2) (ySmL (yMk5 q (yM h)) (lL54).toNat)) 37 69 = (zs ((yMk5 q (yM h))) 206 (6 * ((yMk5 q (yM h)) 37 0).toNat) (ySmCA (yMk5 q (yM h)))) 37 69) (Eq.trans (zs_na (by decide) : (zs ((yMk5 q (yM h))) 206 (6 * ((yMk5 q (yM h)) 37 0).toNat) (ySmCA (yMk5 q (yM h)))) 37 69 = ((yMk5 q (yM h))) 37 69) rfl))))
                      refine zwW_as IhL54 (a1 := 206) (a2 := 361) (n := 6) (lo := -2147483648) (hi := 2147483647) (nx := 148) (by decide +kernel) ⟨by omega, by omega⟩ ⟨by decide, by decide⟩ ⟨by omega, by omega⟩ ?_
                      intro h59 eh59 Ih59
                      have th59_37_0 : fld h59 37 0 = fld hL54 37 0 := by rw [eh59]; exact fld_wr (by omega)
                      have th59_37_2 : fld h59 37 2 = fld hL54 37 2 := by rw [eh59]; exact fld_wr (by omega)
                      have Zh59 : yM h59 = (zs (zs (zs ((yMk5 q (yM h))) 206 (6 * ((yMk5 q (yM h)) 37 0).toNat) (ySmCA (yMk5 q (yM h)))) 206 (6 * ((yMk5 q (yM h)) 37 0).toNat + 2) (ySmL (yMk5 q (yM h)) (lL54).toNat)) 206 (6 * v57.toNat + 3) (((yMk5 q (yM h))) 37 69)) := by rw [yM_w2 (a := 206) (w := 6) (v := v57.toNat) (j := 3) (m := 6) (kd := 20) rfl (by omega) (IhL54.s (a1 := 206) (a2 := 361) (by decide +kernel) (by omega) (by omega)) (by omega) (by omega) (by show _ < 936; omega) eh59, (iL54_1), sv58]
                      have Rh59 : zMR ms114 h h59 := RhL54.w (a1 := 206) (a2 := 361) (j1 := 0) (j2 := 6) (by decide +kernel) ⟨by omega, by omega⟩ ⟨by decide, by decide⟩ eh59
                      refine zwW_p [(1, 0, 2)] (q := 149) (ls' := [(2, 37), (0, lL54)]) (st' := [(2, 37)]) (by decide +kernel) rfl ?_
                      refine zwW_gc Ih59 (kd := 13) (bn := 91) (n := 97) (c := 205) (nx := 152) (by decide +kernel) ?_
                      refine zwW_p [(1, 0, 2)] (q := 153) (ls' := [(2, 37), (0, lL54)]) (st' := [(2, 37), (2, 205)]) (by decide +kernel) rfl ?_
                      refine zwW_gs Ih59 (kd := 13) (bn := 0) (n := 97) (t := 0) (lo := 0) (hi := 156) (nx := 156) (by decide +kernel) ?_
                      intro v60 ev60 lv60 uv60
                      have sv60 : v60 = ((yMk5 q (yM h))) 37 0 := Eq.trans ev60 (Eq.trans (Eq.symm (yM_s (h := h59) (i := 0) rfl)) (Eq.trans (congrFun (congrFun Zh59 37) 0) (Eq.trans (zs_na (by decide) : (zs (zs (zs ((yMk5 q (yM h))) 206 (6 * ((yMk5 q (yM h)) 37 0).toNat) (ySmCA (yMk5 q (yM h)))) 206 (6 * ((yMk5 q (yM h)) 37 0).toNat + 2) (ySmL (yMk5 q (yM h)) (lL54).toNat)) 206 (6 * v57.toNat + 3) (((yMk5 q (yM h))) 37 69)) 37 0 = (zs (zs ((yMk5 q (yM h))) 206 (6 * ((yMk5 q (yM h)) 37 0).toNat) (ySmCA (yMk5 q (yM h)))) 206 (6 * ((yMk5 q (yM h)) 37 0).toNat + 2) (ySmL (yMk5 q (yM h)) (lL54).toNat)) 37 0) (Eq.trans (zs_na (by decide) : (zs (zs ((yMk5 q (yM h))) 206 (6 * ((yMk5 q (yM h)) 37 0).toNat) (ySmCA (yMk5 q (yM h)))) 206 (6 * ((yMk5 q (yM h)) 37 0).toNat + 2) (ySmL (yMk5 q (yM h)) (lL54).toNat)) 37 0 = (zs ((yMk5 q (yM h))) 206 (6 * ((yMk5 q (yM h)) 37 0).toNat) (ySmCA (yMk5 q (yM h)))) 37 0) (Eq.trans (zs_na (by decide) : (zs ((yMk5 q (yM h))) 206 (6 * ((yMk5 q (yM h)) 37 0).toNat) (ySmCA (yMk5 q (yM h)))) 37 0 = ((yMk5 q (yM h))) 37 0) rfl)))))
                      refine zwW_ro Ih59 (a := 205) (n := 156) (kd := 26) (base := 206) (step := 1) (nx := 157) (by decide +kernel) rfl ⟨by omega, by omega⟩ ?_
                      rw [show ((206 : Nat) : Int) + ((1 : Nat) : Int) * v60 = (206 + v60) by omega]
                      refine zwW_p [(0, 4, 0), (1, 0, 2)] (q := 159) (ls' := [(2, 37), (0, lL54)]) (st' := [(2, 37), (0, 4), (2, (206 + v60))]) (by decide +kernel) rfl ?_
                      refine zwW_gs Ih59 (kd := 13) (bn := 70) (n := 97) (t := 0) (lo := -2147483648) (hi := 2147483647) (nx := 162) (by decide +kernel) ?_
                      intro v61 ev61 lv61 uv61
                      have sv61 : v61 = ((yMk5 q (yM h))) 37 70 := Eq.trans ev61 (Eq.trans (Eq.symm (yM_s (h := h59) (i := 70) rfl)) (Eq.trans (congrFun (congrFun Zh59 37) 70) (Eq.trans (zs_na (by decide) : (zs (zs (zs ((yMk5 q (yM h))) 206 (6 * ((yMk5 q (yM h)) 37 0).toNat) (ySmCA (yMk5 q (yM h)))) 206 (6 * ((yMk5 q (yM h)) 37 0).toNat + 2) (ySmL (yMk5 q (yM h)) (lL54).toNat)) 206 (6 * v57.toNat + 3) (((yMk5 q (yM h))) 37 69)) 37 70 = (zs (zs ((yMk5 q (yM h))) 206 (6 * ((yMk5 q (yM h)) 37 0).toNat) (ySmCA (yMk5 q (yM h)))) 206 (6 * ((yMk5 q (yM h)) 37 0).toNat + 2) (ySmL (yMk5 q (yM h)) (lL54).toNat)) 37 70) (Eq.trans (zs_na (by decide) : (zs (zs ((yMk5 q (yM h))) 206 (6 * ((yMk5 q (yM h)) 37 0).toNat) (ySmCA (yMk5 q (yM h)))) 206 (6 * ((yMk5 q (yM h)) 37 0).toNat + 2) (ySmL (yMk5 q (yM h)) (lL54).toNat)) 37 70 = (zs ((yMk5 q (yM h))) 206 (6 * ((yMk5 q (yM h)) 37 0).toNat) (ySmCA (yMk5 q (yM h)))) 37 70) (Eq.trans (zs_na (by decide) : (zs ((yMk5 q (yM h))) 206 (6 * ((yMk5 q (yM h)) 37 0).toNat) (ySmCA (yMk5 q (yM h)))) 37 70 = ((yMk5 q (yM h))) 37 70) rfl)))))
                      refine zwW_as Ih59 (a1 := 206) (a2 := 361) (n := 6) (lo := -2147483648) (hi := 2147483647) (nx := 163) (by decide +kernel) ⟨by omega, by omega⟩ ⟨by decide, by decide⟩ ⟨by omega, by omega⟩ ?_
                      intro h62 eh62 Ih62
                      have th62_37_0 : fld h62 37 0 = fld h59 37 0 := by rw [eh62]; exact fld_wr (by omega)
                      have th62_37_2 : fld h62 37 2 = fld h59 37 2 := by rw [eh62]; exact fld_wr (by omega)
                      have Zh62 : yM h62 = (zs (zs (zs (zs ((yMk5 q (yM h))) 206 (6 * ((yMk5 q (yM h)) 37 0).toNat) (ySmCA (yMk5 q (yM h)))) 206 (6 * ((yMk5 q (yM h)) 37 0).toNat + 2) (ySmL (yMk5 q (yM h)) (lL54).toNat)) 206 (6 * v57.toNat + 3) (((yMk5 q (yM h))) 37 69)) 206 (6 * v60.toNat + 4) (((yMk5 q (yM h))) 37 70)) := by rw [yM_w2 (a := 206) (w := 6) (v := v60.toNat) (j := 4) (m := 6) (kd := 20) rfl (by omega) (Ih59.s (a1 := 206) (a2 := 361) (by decide +kernel) (by omega) (by omega)) (by omega) (by omega) (by show _ < 936; omega) eh62, Zh59, sv61]
                      have Rh62 : zMR ms114 h h62 := Rh59.w (a1 := 206) (a2 := 361) (j1 := 0) (j2 := 6) (by decide +kernel) ⟨by omega, by omega⟩ ⟨by decide, by decide⟩ eh62
                      refine zwW_p [(1, 0, 2)] (q := 164) (ls' := [(2, 37), (0, lL54)]) (st' := [(2, 37)]) (by decide +kernel) rfl ?_
                      refine zwW_gc Ih62 (kd := 13) (bn := 91) (n := 97) (c := 205) (nx := 167) (by decide +kernel) ?_
                      refine zwW_p [(1, 0, 2)] (q := 168) (ls' := [(2, 37), (0, lL54)]) (st' := [(2, 37), (2, 205)]) (by decide +kernel) rfl ?_
                      refine zwW_gs Ih62 (kd := 13) (bn := 0) (n := 97) (t := 0) (lo := 0) (hi := 156) (nx := 171) (by decide +kernel) ?_
                      intro v63 ev63 lv63 uv63
                      have sv63 : v63 = ((yMk5 q (yM h))) 37 0 := Eq.trans ev63 (Eq.trans (Eq.symm (yM_s (h := h62) (i := 0) rfl)) (Eq.trans (congrFun (congrFun Zh62 37) 0) (Eq.trans (zs_na (by decide) : (zs (zs (zs (zs ((yMk5 q (yM h))) 206 (6 * ((yMk5 q (yM h)) 37 0).toNat) (ySmCA (yMk5 q (yM h)))) 206 (6 * ((yMk5 q (yM h)) 37 0).toNat + 2) (ySmL (yMk5 q (yM h)) (lL54).toNat)) 206 (6 * v57.toNat + 3) (((yMk5 q (yM h))) 37 69)) 206 (6 * v60.toNat + 4) (((yMk5 q (yM h))) 37 70)) 37 0 = (zs (zs (zs ((yMk5 q (yM h))) 206 (6 * ((yMk5 q (yM h)) 37 0).toNat) (ySmCA (yMk5 q (yM h)))) 206 (6 * ((yMk5 q (yM h)) 37 0).toNat + 2) (ySmL (yMk5 q (yM h)) (lL54).toNat)) 206 (6 * v57.toNat + 3) (((yMk5 q (yM h))) 37 69)) 37 0) (Eq.trans (zs_na (by decide) : (zs (zs (zs ((yMk5 q (yM h))) 206 (6 * ((yMk5 q (yM h)) 37 0).toNat) (ySmCA (yMk5 q (yM h)))) 206 (6 * ((yMk5 q (yM h)) 37 0).toNat + 2) (ySmL (yMk5 q (yM h)) (lL54).toNat)) 206 (6 * v57.toNat + 3) (((yMk5 q (yM h))) 37 69)) 37 0 = (zs (zs ((yMk5 q (yM h))) 206 (6 * ((yMk5 q (yM h)) 37 0).toNat) (ySmCA (yMk5 q (yM h)))) 206 (6 * ((yMk5 q (yM h)) 37 0).toNat + 2) (ySmL (yMk5 q (yM h)) (lL54).toNat)) 37 0) (Eq.trans (zs_na (by decide) : (zs (zs ((yMk5 q (yM h))) 206 (6 * ((yMk5 q (yM h)) 37 0).toNat) (ySmCA (yMk5 q (yM h)))) 206 (6 * ((yMk5 q (yM h)) 37 0).toNat + 2) (ySmL (yMk5 q (yM h)) (lL54).toNat)) 37 0 = (zs ((yMk5 q (yM h))) 206 (6 * ((yMk5 q (yM h)) 37 0).toNat) (ySmCA (yMk5 q (yM h)))) 37 0) (Eq.trans (zs_na (by decide) : (zs ((yMk5 q (yM h))) 206 (6 * ((yMk5 q (yM h)) 37 0).toNat) (ySmCA (yMk5 q (yM h)))) 37 0 = ((yMk5 q (yM h))) 37 0) rfl))))))
                      refine zwW_ro Ih62 (a := 205) (n := 156) (kd := 26) (base := 206) (step := 1) (nx := 172) (by decide +kernel) rfl ⟨by omega, by omega⟩ ?_
                      rw [show ((206 : Nat) : Int) + ((1 : Nat) : Int) * v63 = (206 + v63) by omega]
                      refine zwW_p [(0, 5, 0), (1, 0, 2)] (q := 174) (ls' := [(2, 37), (0, lL54)]) (st' := [(2, 37), (0, 5), (2, (206 + v63))]) (by decide +kernel) rfl ?_
                      refine zwW_gs Ih62 (kd := 13) (bn := 71) (n := 97) (t := 0) (lo := -2147483648) (hi := 2147483647) (nx := 177) (by decide +kernel) ?_
                      intro v64 ev64 lv64 uv64
                      have sv64 : v64 = ((yMk5 q (yM h))) 37 71 := Eq.trans ev64 (Eq.trans (Eq.symm (yM_s (h := h62) (i := 71) rfl)) (Eq.trans (congrFun (congrFun Zh62 37) 71) (Eq.trans (zs_na (by decide) : (zs (zs (zs (zs ((yMk5 q (yM h))) 206 (6 * ((yMk5 q (yM h)) 37 0).toNat) (ySmCA (yMk5 q (yM h)))) 206 (6 * ((yMk5 q (yM h)) 37 0).toNat + 2) (ySmL (yMk5 q (yM h)) (lL54).toNat)) 206 (6 * v57.toNat + 3) (((yMk5 q (yM h))) 37 69)) 206 (6 * v60.toNat + 4) (((yMk5 q (yM h))) 37 70)) 37 71 = (zs (zs (zs ((yMk5 q (yM h))) 206 (6 * ((yMk5 q (yM h)) 37 0).toNat) (ySmCA (yMk5 q (yM h)))) 206 (6 * ((yMk5 q (yM h)) 37 0).toNat + 2) (ySmL (yMk5 q (yM h)) (lL54).toNat)) 206 (6 * v57.toNat + 3) (((yMk5 q (yM h))) 37 69)) 37 71) (Eq.trans (zs_na (by decide) : (zs (zs (zs ((yMk5 q (yM h))) 206 (6 * ((yMk5 q (yM h)) 37 0).toNat) (ySmCA (yMk5 q (yM h)))) 206 (6 * ((yMk5 q (yM h)) 37 0).toNat + 2) (ySmL (yMk5 q (yM h)) (lL54).toNat)) 206 (6 * v57.toNat + 3) (((yMk5 q (yM h))) 37 69)) 37 71 = (zs (zs ((yMk5 q (yM h))) 206 (6 * ((yMk5 q (yM h)) 37 0).toNat) (ySmCA (yMk5 q (yM h)))) 206 (6 * ((yMk5 q (yM h)) 37 0).toNat + 2) (ySmL (yMk5 q (yM h)) (lL54).toNat)) 37 71) (Eq.trans (zs_na (by decide) : (zs (zs ((yMk5 q (yM h))) 206 (6 * ((yMk5 q (yM h)) 37 0).toNat) (ySmCA (yMk5 q (yM h)))) 206 (6 * ((yMk5 q (yM h)) 37 0).toNat + 2) (ySmL (yMk5 q (yM h)) (lL54).toNat)) 37 71 = (zs ((yMk5 q (yM h))) 206 (6 * ((yMk5 q (yM h)) 37 0).toNat) (ySmCA (yMk5 q (yM h)))) 37 71) (Eq.trans (zs_na (by decide) : (zs ((yMk5 q (yM h))) 206 (6 * ((yMk5 q (yM h)) 37 0).toNat) (ySmCA (yMk5 q (yM h)))) 37 71 = ((yMk5 q (yM h))) 37 71) rfl))))))
                      refine zwW_as Ih62 (a1 := 206) (a2 := 361) (n := 6) (lo := -2147483648) (hi := 2147483647) (nx := 178) (by decide +kernel) ⟨by omega, by omega⟩ ⟨by decide, by decide⟩ ⟨by omega, by omega⟩ ?_
                      intro h65 eh65 Ih65
                      have th65_37_0 : fld h65 37 0 = fld h62 37 0 := by rw [eh65]; exact fld_wr (by omega)
                      have th65_37_2 : fld h65 37 2 = fld h62 37 2 := by rw [eh65]; exact fld_wr (by omega)
                      have Zh65 : yM h65 = (zs (zs (zs (zs (zs ((yMk5 q (yM h))) 206 (6 * ((yMk5 q (yM h)) 37 0).toNat) (ySmCA (yMk5 q (yM h)))) 206 (6 * ((yMk5 q (yM h)) 37 0).toNat + 2) (ySmL (yMk5 q (yM h)) (lL54).toNat)) 206 (6 * v57.toNat + 3) (((yMk5 q (yM h))) 37 69)) 206 (6 * v60.toNat + 4) (((yMk5 q (yM h))) 37 70)) 206 (6 * v63.toNat + 5) (((yMk5 q (yM h))) 37 71)) := by rw [yM_w2 (a := 206) (w := 6) (v := v63.toNat) (j := 5) (m := 6) (kd := 20) rfl (by omega) (Ih62.s (a1 := 206) (a2 := 361) (by decide +kernel) (by omega) (by omega)) (by omega) (by omega) (by show _ < 936; omega) eh65, Zh62, sv64]
                      have Rh65 : zMR ms114 h h65 := Rh62.w (a1 := 206) (a2 := 361) (j1 := 0) (j2 := 6) (by decide +kernel) ⟨by omega, by omega⟩ ⟨by decide, by decide⟩ eh65
                      refine zwW_p [(1, 0, 2), (12, 0, 0)] (q := 180) (ls' := [(2, 37), (0, lL54)]) (st' := [(2, 37), (2, 37)]) (by decide +kernel) rfl ?_
                      refine zwW_gs Ih65 (kd := 13) (bn := 0) (n := 97) (t := 0) (lo := 0) (hi := 156) (nx := 183) (by decide +kernel) ?_
                      intro v66 ev66 lv66 uv66
                      have sv66 : v66 = ((yMk5 q (yM h))) 37 0 := Eq.trans ev66 (Eq.trans (Eq.symm (yM_s (h := h65) (i := 0) rfl)) (Eq.trans (congrFun (congrFun Zh65 37) 0) (Eq.trans (zs_na (by decide) : (zs (zs (zs (zs (zs ((yMk5 q (yM h))) 206 (6 * ((yMk5 q (yM h)) 37 0).toNat) (ySmCA (yMk5 q (yM h)))) 206 (6 * ((yMk5 q (yM h)) 37 0).toNat + 2) (ySmL (yMk5 q (yM h)) (lL54).toNat)) 206 (6 * v57.toNat + 3) (((yMk5 q (yM h))) 37 69)) 206 (6 * v60.toNat + 4) (((yMk5 q (yM h))) 37 70)) 206 (6 * v63.toNat + 5) (((yMk5 q (yM h))) 37 71)) 37 0 = (zs (zs (zs (zs ((yMk5 q (yM h))) 206 (6 * ((yMk5 q (yM h)) 37 0).toNat) (ySmCA (yMk5 q (yM h)))) 206 (6 * ((yMk5 q (yM h)) 37 0).toNat + 2) (ySmL (yMk5 q (yM h)) (lL54).toNat)) 206 (6 * v57.toNat + 3) (((yMk5 q (yM h))) 37 69)) 206 (6 * v60.toNat + 4) (((yMk5 q (yM h))) 37 70)) 37 0) (Eq.trans (zs_na (by decide) : (zs (zs (zs (zs ((yMk5 q (yM h))) 206 (6 * ((yMk5 q (yM h)) 37 0).toNat) (ySmCA (yMk5 q (yM h)))) 206 (6 * ((yMk5 q (yM h)) 37 0).toNat + 2) (ySmL (yMk5 q (yM h)) (lL54).toNat)) 206 (6 * v57.toNat + 3) (((yMk5 q (yM h))) 37 69)) 206 (6 * v60.toNat + 4) (((yMk5 q (yM h))) 37 70)) 37 0 = (zs (zs (zs ((yMk5 q (yM h))) 206 (6 * ((yMk5 q (yM h)) 37 0).toNat) (ySmCA (yMk5 q (yM h)))) 206 (6 * ((yMk5 q (yM h)) 37 0).toNat + 2) (ySmL (yMk5 q (yM h)) (lL54).toNat)) 206 (6 * v57.toNat + 3) (((yMk5 q (yM h))) 37 69)) 37 0) (Eq.trans (zs_na (by decide) : (zs (zs (zs ((yMk5 q (yM h))) 206 (6 * ((yMk5 q (yM h)) 37 0).toNat) (ySmCA (yMk5 q (yM h)))) 206 (6 * ((yMk5 q (yM h)) 37 0).toNat + 2) (ySmL (yMk5 q (yM h)) (lL54).toNat)) 206 (6 * v57.toNat + 3) (((yMk5 q (yM h))) 37 69)) 37 0 = (zs (zs ((yMk5 q (yM h))) 206 (6 * ((yMk5 q (yM h)) 37 0).toNat) (ySmCA (yMk5 q (yM h)))) 206 (6 * ((yMk5 q (yM h)) 37 0).toNat + 2) (ySmL (yMk5 q (yM h)) (lL54).toNat)) 37 0) (Eq.trans (zs_na (by decide) : (zs (zs ((yMk5 q (yM h))) 206 (6 * ((yMk5 q (yM h)) 37 0).toNat) (ySmCA (yMk5 q (yM h)))) 206 (6 * ((yMk5 q (yM h)) 37 0).toNat + 2) (ySmL (yMk5 q (yM h)) (lL54).toNat)) 37 0 = (zs ((yMk5 q (yM h))) 206 (6 * ((yMk5 q (yM h)) 37 0).toNat) (ySmCA (yMk5 q (yM h)))) 37 0) (Eq.trans (zs_na (by decide) : (zs ((yMk5 q (yM h))) 206 (6 * ((yMk5 q (yM h)) 37 0).toNat) (ySmCA (yMk5 q (yM h)))) 37 0 = ((yMk5 q (yM h))) 37 0) rfl)))))))
                      refine zwW_p [(0, 1, 0)] (q := 184) (ls' := [(2, 37), (0, lL54)]) (st' := [(0, 1), (0, v66), (2, 37)]) (by decide +kernel) rfl ?_
                      refine zwW_add (nx := 185) (by decide +kernel) ⟨by omega, by omega⟩ ?_
                      refine zwW_ps Ih65 (kd := 13) (bn := 0) (n := 97) (lo := 0) (hi := 156) (nx := 188) (by decide +kernel) ⟨by omega, by omega⟩ ?_
                      intro h67 eh67 Ih67
                      have th67_37_0 : fld h67 37 0 = (v66 + 1) := by rw [eh67]; exact fld_wr_eq (Ih65.s (a1 := 37) (a2 := 37) (k := 13) (n := 97) (by decide +kernel) (by decide) (by decide)) (by decide)
                      have th67_37_2 : fld h67 37 2 = fld h65 37 2 := by rw [eh67]; exact fld_wr (by decide)
                      have Zh67 : yM h67 = (zs (zs (zs (zs (zs (zs ((yMk5 q (yM h))) 206 (6 * ((yMk5 q (yM h)) 37 0).toNat) (ySmCA (yMk5 q (yM h)))) 206 (6 * ((yMk5 q (yM h)) 37 0).toNat + 2) (ySmL (yMk5 q (yM h)) (lL54).toNat)) 206 (6 * v57.toNat + 3) (((yMk5 q (yM h))) 37 69)) 206 (6 * v60.toNat + 4) (((yMk5 q (yM h))) 37 70)) 206 (6 * v63.toNat + 5) (((yMk5 q (yM h))) 37 71)) 37 0 ((((yMk5 q (yM h))) 37 0) + 1)) := by rw [yM_ws (i := 0) (kd := 13) (n := 97) rfl (Ih65.s (a1 := 37) (a2 := 37) (by decide +kernel) (by decide) (by decide)) (by decide) eh67, Zh65, sv66]
                      have Rh67 : zMR ms114 h h67 := Rh65.w (a1 := 37) (a2 := 37) (j1 := 0) (j2 := 1) (by decide +kernel) ⟨by decide, by decide⟩ ⟨by decide, by decide⟩ eh67
                      refine zwW_p [(0, 0, 0)] (q := 189) (ls' := [(2, 37), (0, lL54)]) (st' := [(0, 0)]) (by decide +kernel) rfl ?_
                      have E189 : (zs (zs (zs (zs (zs (zs ((yMk5 q (yM h))) 206 (6 * ((yMk5 q (yM h)) 37 0).toNat) (ySmCA (yMk5 q (yM h)))) 206 (6 * ((yMk5 q (yM h)) 37 0).toNat + 2) (ySmL (yMk5 q (yM h)) (lL54).toNat)) 206 (6 * v57.toNat + 3) (((yMk5 q (yM h))) 37 69)) 206 (6 * v60.toNat + 4) (((yMk5 q (yM h))) 37 70)) 206 (6 * v63.toNat + 5) (((yMk5 q (yM h))) 37 71)) 37 0 ((((yMk5 q (yM h))) 37 0) + 1)) = (zs (yMk6 (yMk5 q (yM h))) 37 0 ((yMk5 q (yM h)) 37 0 + 1)) := by
                        unfold yMk6
                        rw [show (lL54).toNat = ((yMk5 q (yM h)) 37 64).toNat by omega]
                        exact zs_cg (zs_cg (zs_cg (zs_cg rfl (by omega) rfl) (by omega) rfl) (by omega) rfl) rfl (by omega)
                      refine zwW_p [(2, 1, 0)] (q := 190) (ls' := [(2, 37), (0, 0)]) (st' := []) (by decide +kernel) rfl ?_
                      have L68 : ∀ (n0 : Nat) (vL68 : Int) (hL68 : Hp), n0 = ((100 - vL68)).toNat → ((0 ≤ vL68 ∧ vL68 ≤ (yMk5 q (yM h)) 37 1) ∧ fld hL68 37 0 = fld h 37 0 + 1) → (yM hL68 = (yBg1 (zs (yMk6 (yMk5 q (yM h))) 37 0 ((yMk5 q (yM h)) 37 0 + 1)) ((zs (yMk6 (yMk5 q (yM h))) 37 0 ((yMk5 q (yM h)) 37 0 + 1)) 37 0).toNat (vL68).toNat)) → zI hL68 → zMR ms114 h hL68 → zwW sc (7) 114 190 [(2, 37), (0, vL68)] [] hL68 (zwRv (fun g => zI g ∧ zMR ms114 h g ∧ (fld g 37 0 = fld h 37 0 + 1) ∧ (yM g = yWkM q (yM h)))) := by
                        intro n0
                        induction n0 using Nat.strongRecOn with
                        | ind n0 IHL68 =>
                          intro vL68 hL68 hnL68 iL68_0 iL68_1 IhL68 RhL68
                          refine zwW_p [(1, 1, 0), (1, 0, 2)] (q := 192) (ls' := [(2, 37), (0, vL68)]) (st' := [(2, 37), (0, vL68)]) (by decide +kernel) rfl ?_
                          have N192 : (yBg1 (zs (yMk6 (yMk5 q (yM h))) 37 0 ((yMk5 q (yM h)) 37 0 + 1)) ((zs (yMk6 (yMk5 q (yM h))) 37 0 ((yMk5 q (yM h)) 37 0 + 1)) 37 0).toNat (vL68).toNat) 37 1 = (yMk5 q (yM h)) 37 1 := (yBg1_n (by decide) _).trans ((zs_ni (by decide)).trans (yMk6_n (by decide)))
                          have O192 : (yBg1 (zs (yMk6 (yMk5 q (yM h))) 37 0 ((yMk5 q (yM h)) 37 0 + 1)) ((zs (yMk6 (yMk5 q (yM h))) 37 0 ((yMk5 q (yM h)) 37 0 + 1)) 37 0).toNat (vL68).toNat) 37 0 = (zs (yMk6 (yMk5 q (yM h))) 37 0 ((yMk5 q (yM h)) 37 0 + 1)) 37 0 := yBg1_n (by decide) _
                          refine zwW_gs IhL68 (kd := 13) (bn := 1) (n := 97) (t := 0) (lo := 0) (hi := 8) (nx := 195) (by decide +kernel) ?_
                          intro v69 ev69 lv69 uv69
                          have sv69 : v69 = (yBg1 (zs (yMk6 (yMk5 q (yM h))) 37 0 ((yMk5 q (yM h)) 37 0 + 1)) ((zs (yMk6 (yMk5 q (yM h))) 37 0 ((yMk5 q (yM h)) 37 0 + 1)) 37 0).toNat (vL68).toNat) 37 1 := Eq.trans ev69 (Eq.trans (Eq.symm (yM_s (h := hL68) (i := 1) rfl)) (Eq.trans (congrFun (congrFun iL68_1 37) 1) rfl))
                          refine zwic_ge (q := 221) (nx := 198) (by decide +kernel) (fun c70 => ?_) (fun c70 => ?_)
                          · refine zwW_p [(0, 0, 0), (2, 1, 0)] (q := 223) (ls' := [(2, 37), (0, 0)]) (st' := []) (by decide +kernel) rfl ?_
                            have L71 : ∀ (n0 : Nat) (kL71 : Int) (hL71 : Hp), n0 = ((100 - kL71)).toNat → ((0 ≤ kL71 ∧ kL71 ≤ (yMk5 q (yM h)) 37 2) ∧ fld hL71 37 0 = fld h 37 0 + 1) → (yM hL71 = (yBg2 (yBg1 (zs (yMk6 (yMk5 q (yM h))) 37 0 ((yMk5 q (yM h)) 37 0 + 1)) ((zs (yMk6 (yMk5 q (yM h))) 37 0 ((yMk5 q (yM h)) 37 0 + 1)) 37 0).toNat ((zs (yMk6 (yMk5 q (yM h))) 37 0 ((yMk5 q (yM h)) 37 0 + 1)) 37 1).toNat) (kL71).toNat)) → zI hL71 → zMR ms114 h hL71 → zwW sc (7) 114 223 [(2, 37), (0, kL71)] [] hL71 (zwRv (fun g => zI g ∧ zMR ms114 h g ∧ (fld g 37 0 = fld h 37 0 + 1) ∧ (yM g = yWkM q (yM h)))) := by
                              intro n0
                              induction n0 using Nat.strongRecOn with
                              | ind n0 IHL71 =>
                                intro kL71 hL71 hnL71 iL71_0 iL71_1 IhL71 RhL71
                                refine zwW_p [(1, 1, 0), (1, 0, 2)] (q := 225) (ls' := [(2, 37), (0, kL71)]) (st' := [(2, 37), (0, kL71)]) (by decide +kernel) rfl ?_
                                have N225 : (yBg2 (yBg1 (zs (yMk6 (yMk5 q (yM h))) 37 0 ((yMk5 q (yM h)) 37 0 + 1)) ((zs (yMk6 (yMk5 q (yM h))) 37 0 ((yMk5 q (yM h)) 37 0 + 1)) 37 0).toNat ((zs (yMk6 (yMk5 q (yM h))) 37 0 ((yMk5 q (yM h)) 37 0 + 1)) 37 1).toNat) (kL71).toNat) 37 2 = (yMk5 q (yM h)) 37 2 := (yBg2_n (by decide) _).trans ((yBg1_n (by decide) _).trans ((zs_ni (by decide)).trans (yMk6_n (by decide))))
                                refine zwW_gs IhL71 (kd := 13) (bn := 2) (n := 97) (t := 0) (lo := 0) (hi := 20) (nx := 228) (by decide +kernel) ?_
                                intro v72 ev72 lv72 uv72
                                have sv72 : v72 = (yBg2 (yBg1 (zs (yMk6 (yMk5 q (yM h))) 37 0 ((yMk5 q (yM h)) 37 0 + 1)) ((zs (yMk6 (yMk5 q (yM h))) 37 0 ((yMk5 q (yM h)) 37 0 + 1)) 37 0).toNat ((zs (yMk6 (yMk5 q (yM h))) 37 0 ((yMk5 q (yM h)) 37 0 + 1)) 37 1).toNat) (kL71).toNat) 37 2 := Eq.trans ev72 (Eq.trans (Eq.symm (yM_s (h := hL71) (i := 2) rfl)) (Eq.trans (congrFun (congrFun iL71_1 37) 2) rfl))
                                refine zwic_ge (q := 244) (nx := 231) (by decide +kernel) (fun c73 => ?_) (fun c73 => ?_)
                                · refine zwW_retv (nx := 245) (a := 0) (b := 0) (by decide +kernel) ?_
                                  exact ⟨IhL71, RhL71, by omega, by refine Eq.trans iL71_1 ?_; unfold yWkM yBgA; rw [show ((zs (yMk6 (yMk5 q (yM h))) 37 0 ((yMk5 q (yM h)) 37 0 + 1)) 37 2).toNat = (kL71).toNat by rw [zs_ni (by decide), yMk6_n (by decide)]; omega]⟩
                                · refine zwW_p [(1, 0, 2)] (q := 232) (ls' := [(2, 37), (0, kL71)]) (st' := [(2, 37)]) (by decide +kernel) rfl ?_
                                  refine zwW_gc IhL71 (kd := 13) (bn := 33) (n := 97) (c := 92) (nx := 235) (by decide +kernel) ?_
                                  refine zwW_p [(1, 1, 0), (0, 0, 0)] (q := 237) (ls' := [(2, 37), (0, kL71)]) (st' := [(0, 0), (0, kL71), (2, 92)]) (by decide +kernel) rfl ?_
                                  refine zwW_as IhL71 (a1 := 92) (a2 := 92) (n := 20) (lo := -2147483648) (hi := 2147483647) (nx := 238) (by decide +kernel) ⟨by decide, by decide⟩ ⟨by omega, by omega⟩ ⟨by decide, by decide⟩ ?_
                                  intro h74 eh74 Ih74
                                  have th74_37_0 : fld h74 37 0 = fld hL71 37 0 := by rw [eh74]; exact fld_wr (by omega)
                                  have th74_37_2 : fld h74 37 2 = fld hL71 37 2 := by rw [eh74]; exact fld_wr (by omega)
                                  have Zh74 : yM h74 = (zs (yBg2 (yBg1 (zs (yMk6 (yMk5 q (yM h))) 37 0 ((yMk5 q (yM h)) 37 0 + 1)) ((zs (yMk6 (yMk5 q (yM h))) 37 0 ((yMk5 q (yM h)) 37 0 + 1)) 37 0).toNat ((zs (yMk6 (yMk5 q (yM h))) 37 0 ((yMk5 q (yM h)) 37 0 + 1)) 37 1).toNat) (kL71).toNat) 92 kL71.toNat 0) := by rw [yM_w (a := 92) (n := 20) (i := kL71.toNat) (kd := 20) rfl (IhL71.s (a1 := 92) (a2 := 92) (by decide +kernel) (by decide) (by decide)) (by omega) eh74, iL71_1]
                                  have Rh74 : zMR ms114 h h74 := RhL71.w (a1 := 92) (a2 := 92) (j1 := 0) (j2 := 20) (by decide +kernel) ⟨by decide, by decide⟩ ⟨by omega, by omega⟩ eh74
                                  refine zwW_inc (i := 1) (c := 1) (x := kL71) (nx := 241) (by decide +kernel) rfl ⟨by omega, by omega⟩ (ls' := [(2, 37), (0, (kL71 + 1))]) rfl ?_
                                  refine zwW_p [(24, 223, 0)] (q := 223) (ls' := [(2, 37), (0, (kL71 + 1))]) (st' := []) (by decide +kernel) rfl ?_
                                  exact IHL71 ((100 - (kL71 + 1))).toNat (by omega) (kL71 + 1) h74 rfl (by omega) (by rw [show (kL71 + 1).toNat = (kL71).toNat + 1 by omega, yBg2_s]; exact Zh74) Ih74 Rh74
                            exact L71 _ 0 hL68 rfl (by omega) (iL68_1.trans (by rw [show ((zs (yMk6 (yMk5 q (yM h))) 37 0 ((yMk5 q (yM h)) 37 0 + 1)) 37 1).toNat = (vL68).toNat by rw [zs_ni (by decide), yMk6_n (by decide)]; omega]; rfl)) IhL68 RhL68
                          · refine zwW_p [(1, 0, 2)] (q := 199) (ls' := [(2, 37), (0, vL68)]) (st' := [(2, 37)]) (by decide +kernel) rfl ?_
                            refine zwW_gc IhL68 (kd := 13) (bn := 5) (n := 97) (c := 56) (nx := 202) (by decide +kernel) ?_
                            refine zwW_p [(1, 1, 0)] (q := 203) (ls' := [(2, 37), (0, vL68)]) (st' := [(0, vL68), (2, 56)]) (by decide +kernel) rfl ?_
                            refine zwW_ro IhL68 (a := 56) (n := 8) (kd := 26) (base := 57) (step := 1) (nx := 204) (by decide +kernel) rfl ⟨by omega, by omega⟩ ?_
                            rw [show ((57 : Nat) : Int) + ((1 : Nat) : Int) * vL68 = (57 + vL68) by omega]
                            refine zwW_p [(1, 0, 2)] (q := 205) (ls' := [(2, 37), (0, vL68)]) (st' := [(2, 37), (2, (57 + vL68))]) (by decide +kernel) rfl ?_
                            refine zwW_gs IhL68 (kd := 13) (bn := 0) (n := 97) (t := 0) (lo := 0) (hi := 156) (nx := 208) (by decide +kernel) ?_
                            intro v75 ev75 lv75 uv75
                            have sv75 : v75 = (yBg1 (zs (yMk6 (yMk5 q (yM h))) 37 0 ((yMk5 q (yM h)) 37 0 + 1)) ((zs (yMk6 (yMk5 q (yM h))) 37 0 ((yMk5 q (yM h)) 37 0 + 1)) 37 0).toNat (vL68).toNat) 37 0 := Eq.trans ev75 (Eq.trans (Eq.symm (yM_s (h := hL68) (i := 0) rfl)) (Eq.trans (congrFun (congrFun iL68_1 37) 0) rfl))
                            refine zwW_p [(1, 0, 2)] (q := 209) (ls' := [(2, 37), (0, vL68)]) (st' := [(2, 37), (0, v75), (2, (57 + vL68))]) (by decide +kernel) rfl ?_
                            refine zwW_gc IhL68 (kd := 13) (bn := 12) (n := 97) (c := 71) (nx := 212) (by decide +kernel) ?_
                            refine zwW_p [(1, 1, 0)] (q := 213) (ls' := [(2, 37), (0, vL68)]) (st' := [(0, vL68), (2, 71), (0, v75), (2, (57 + vL68))]) (by decide +kernel) rfl ?_
                            refine zwW_al IhL68 (a1 := 71) (a2 := 71) (kd := 20) (n := 8) (t := 0) (lo := -2147483648) (hi := 2147483647) (nx := 214) (by decide +kernel) ⟨by decide, by decide⟩ ⟨by omega, by omega⟩ ?_
                            intro v76 ev76 lv76 uv76
                            have sv76 : v76 = (yBg1 (zs (yMk6 (yMk5 q (yM h))) 37 0 ((yMk5 q (yM h)) 37 0 + 1)) ((zs (yMk6 (yMk5 q (yM h))) 37 0 ((yMk5 q (yM h)) 37 0 + 1)) 37 0).toNat (vL68).toNat) 71 vL68.toNat := Eq.trans ev76 (Eq.trans (Eq.symm (yM_p (h := hL68) (a := 71) (n := 8) (i := vL68.toNat) rfl (by omega))) (Eq.trans (congrFun (congrFun iL68_1 71) vL68.toNat) rfl))
                            refine zwW_as IhL68 (a1 := 57) (a2 := 64) (n := 157) (lo := -2147483648) (hi := 2147483647) (nx := 215) (by decide +kernel) ⟨by omega, by omega⟩ ⟨by omega, by omega⟩ ⟨by omega, by omega⟩ ?_
                            intro h77 eh77 Ih77
                            have th77_37_0 : fld h77 37 0 = fld hL68 37 0 := by rw [eh77]; exact fld_wr (by omega)
                            have th77_37_2 : fld h77 37 2 = fld hL68 37 2 := by rw [eh77]; exact fld_wr (by omega)
                            have Zh77 : yM h77 = (zs (yBg1 (zs (yMk6 (yMk5 q (yM h))) 37 0 ((yMk5 q (yM h)) 37 0 + 1)) ((zs (yMk6 (yMk5 q (yM h))) 37 0 ((yMk5 q (yM h)) 37 0 + 1)) 37 0).toNat (vL68).toNat) 57 (157 * vL68.toNat + v75.toNat) ((yBg1 (zs (yMk6 (yMk5 q (yM h))) 37 0 ((yMk5 q (yM h)) 37 0 + 1)) ((zs (yMk6 (yMk5 q (yM h))) 37 0 ((yMk5 q (yM h)) 37 0 + 1)) 37 0).toNat (vL68).toNat) 71 vL68.toNat)) := by rw [yM_w2 (a := 57) (w := 157) (v := vL68.toNat) (j := v75.toNat) (m := 157) (kd := 20) rfl (by omega) (IhL68.s (a1 := 57) (a2 := 64) (by decide +kernel) (by omega) (by omega)) (by omega) (by omega) (by show _ < 1256; omega) eh77, iL68_1, sv76, sv75]
                            have Rh77 : zMR ms114 h h77 := RhL68.w (a1 := 57) (a2 := 64) (j1 := 0) (j2 := 157) (by decide +kernel) ⟨by omega, by omega⟩ ⟨by omega, by omega⟩ eh77
                            refine zwW_inc (i := 1) (c := 1) (x := vL68) (nx := 218) (by decide +kernel) rfl ⟨by omega, by omega⟩ (ls' := [(2, 37), (0, (vL68 + 1))]) rfl ?_
                            refine zwW_p [(24, 190, 0)] (q := 190) (ls' := [(2, 37), (0, (vL68 + 1))]) (st' := []) (by decide +kernel) rfl ?_
                            exact IHL68 ((100 - (vL68 + 1))).toNat (by omega) (vL68 + 1) h77 rfl (by omega) (by rw [show (vL68 + 1).toNat = (vL68).toNat + 1 by omega, yBg1_s]; exact Zh77.trans (zs_cg rfl (by omega) rfl)) Ih77 Rh77
                      exact L68 _ 0 h67 rfl (by omega) (Zh67.trans E189) Ih67 Rh67
                    · refine zwW_p [(1, 0, 2)] (q := 108) (ls' := [(2, 37), (0, lL54)]) (st' := [(2, 37)]) (by decide +kernel) rfl ?_
                      refine zwW_gc IhL54 (kd := 13) (bn := 91) (n := 97) (c := 205) (nx := 111) (by decide +kernel) ?_
                      refine zwW_p [(1, 0, 2)] (q := 112) (ls' := [(2, 37), (0, lL54)]) (st' := [(2, 37), (2, 205)]) (by decide +kernel) rfl ?_
                      refine zwW_gs IhL54 (kd := 13) (bn := 0) (n := 97) (t := 0) (lo := 0) (hi := 156) (nx := 115) (by decide +kernel) ?_
                      intro v78 ev78 lv78 uv78
                      have sv78 : v78 = ((yMk5 q (yM h))) 37 0 := Eq.trans ev78 (Eq.trans (Eq.symm (yM_s (h := hL54) (i := 0) rfl)) (Eq.trans (congrFun (congrFun (iL54_1) 37) 0) (Eq.trans (zs_na (by decide) : (zs (zs ((yMk5 q (yM h))) 206 (6 * ((yMk5 q (yM h)) 37 0).toNat) (ySmCA (yMk5 q (yM h)))) 206 (6 * ((yMk5 q (yM h)) 37 0).toNat + 2) (ySmL (yMk5 q (yM h)) (lL54).toNat)) 37 0 = (zs ((yMk5 q (yM h))) 206 (6 * ((yMk5 q (yM h)) 37 0).toNat) (ySmCA (yMk5 q (yM h)))) 37 0) (Eq.trans (zs_na (by decide) : (zs ((yMk5 q (yM h))) 206 (6 * ((yMk5 q (yM h)) 37 0).toNat) (ySmCA (yMk5 q (yM h)))) 37 0 = ((yMk5 q (yM h))) 37 0) rfl))))
                      refine zwW_ro IhL54 (a := 205) (n := 156) (kd := 26) (base := 206) (step := 1) (nx := 116) (by decide +kernel) rfl ⟨by omega, by omega⟩ ?_
                      rw [show ((206 : Nat) : Int) + ((1 : Nat) : Int) * v78 = (206 + v78) by omega]
                      refine zwW_p [(0, 2, 0), (14, 0, 0)] (q := 118) (ls' := [(2, 37), (0, lL54)]) (st' := [(0, 2), (2, (206 + v78)), (0, 2), (2, (206 + v78))]) (by decide +kernel) rfl ?_
                      refine zwW_al IhL54 (a1 := 206) (a2 := 361) (kd := 20) (n := 6) (t := 0) (lo := -2147483648) (hi := 2147483647) (nx := 119) (by decide +kernel) ⟨by omega, by omega⟩ ⟨by decide, by decide⟩ ?_
                      intro v79 ev79 lv79 uv79
                      have sv79 : v79 = (zs (zs ((yMk5 q (yM h))) 206 (6 * ((yMk5 q (yM h)) 37 0).toNat) (ySmCA (yMk5 q (yM h)))) 206 (6 * ((yMk5 q (yM h)) 37 0).toNat + 2) (ySmL (yMk5 q (yM h)) (lL54).toNat)) 206 (6 * v78.toNat + 2) := Eq.trans (show v79 = yM hL54 206 (6 * v78.toNat + 2) by rw [yM_2 (a := 206) (w := 6) (v := v78.toNat) (j := 2) rfl (by omega) (by show _ < 936; omega), ev79]; congr 1; omega) (Eq.trans (congrFun (congrFun (iL54_1) 206) (6 * v78.toNat + 2)) rfl)
                      refine zwW_p [(1, 0, 2)] (q := 120) (ls' := [(2, 37), (0, lL54)]) (st' := [(2, 37), (0, v79), (0, 2), (2, (206 + v78))]) (by decide +kernel) rfl ?_
                      refine zwW_gc IhL54 (kd := 13) (bn := 63) (n := 97) (c := 175) (nx := 123) (by decide +kernel) ?_
                      refine zwW_p [(1, 1, 0)] (q := 124) (ls' := [(2, 37), (0, lL54)]) (st' := [(0, lL54), (2, 175), (0, v79), (0, 2), (2, (206 + v78))]) (by decide +kernel) rfl ?_
                      refine zwW_al IhL54 (a1 := 175) (a2 := 175) (kd := 20) (n := 300) (t := 0) (lo := -2147483648) (hi := 2147483647) (nx := 125) (by decide +kernel) ⟨by decide, by decide⟩ ⟨by omega, by omega⟩ ?_
                      intro v80 ev80 lv80 uv80
                      have sv80 : v80 = ((yMk5 q (yM h))) 175 lL54.toNat := Eq.trans ev80 (Eq.trans (Eq.symm (yM_p (h := hL54) (a := 175) (n := 300) (i := lL54.toNat) rfl (by omega))) (Eq.trans (congrFun (congrFun (iL54_1) 175) lL54.toNat) (Eq.trans (zs_na (by decide) : (zs (zs ((yMk5 q (yM h))) 206 (6 * ((yMk5 q (yM h)) 37 0).toNat) (ySmCA (yMk5 q (yM h)))) 206 (6 * ((yMk5 q (yM h)) 37 0).toNat + 2) (ySmL (yMk5 q (yM h)) (lL54).toNat)) 175 lL54.toNat = (zs ((yMk5 q (yM h))) 206 (6 * ((yMk5 q (yM h)) 37 0).toNat) (ySmCA (yMk5 q (yM h)))) 175 lL54.toNat) (Eq.trans (zs_na (by decide) : (zs ((yMk5 q (yM h))) 206 (6 * ((yMk5 q (yM h)) 37 0).toNat) (ySmCA (yMk5 q (yM h)))) 175 lL54.toNat = ((yMk5 q (yM h))) 175 lL54.toNat) rfl))))
                      refine zwW_adw (nx := 126) (by decide +kernel) ?_
                      intro v81 ev81 lv81 uv81
                      have Ev81 : v81 = w32 (((zs (zs ((yMk5 q (yM h))) 206 (6 * ((yMk5 q (yM h)) 37 0).toNat) (ySmCA (yMk5 q (yM h)))) 206 (6 * ((yMk5 q (yM h)) 37 0).toNat + 2) (ySmL (yMk5 q (yM h)) (lL54).toNat)) 206 (6 * v78.toNat + 2)) + (((yMk5 q (yM h))) 175 lL54.toNat)) := by rw [ev81, sv79, sv80]
                      refine zwW_as IhL54 (a1 := 206) (a2 := 361) (n := 6) (lo := -2147483648) (hi := 2147483647) (nx := 127) (by decide +kernel) ⟨by omega, by omega⟩ ⟨by decide, by decide⟩ ⟨by omega, by omega⟩ ?_
                      intro h82 eh82 Ih82
                      have th82_37_0 : fld h82 37 0 = fld hL54 37 0 := by rw [eh82]; exact fld_wr (by omega)
                      have th82_37_2 : fld h82 37 2 = fld hL54 37 2 := by rw [eh82]; exact fld_wr (by omega)
                      have Zh82 : yM h82 = (zs (zs (zs ((yMk5 q (yM h))) 206 (6 * ((yMk5 q (yM h)) 37 0).toNat) (ySmCA (yMk5 q (yM h)))) 206 (6 * ((yMk5 q (yM h)) 37 0).toNat + 2) (ySmL (yMk5 q (yM h)) (lL54).toNat)) 206 (6 * v78.toNat + 2) (w32 (((zs (zs ((yMk5 q (yM h))) 206 (6 * ((yMk5 q (yM h)) 37 0).toNat) (ySmCA (yMk5 q (yM h)))) 206 (6 * ((yMk5 q (yM h)) 37 0).toNat + 2) (ySmL (yMk5 q (yM h)) (lL54).toNat)) 206 (6 * v78.toNat + 2)) + (((yMk5 q (yM h))) 175 lL54.toNat)))) := by rw [yM_w2 (a := 206) (w := 6) (v := v78.toNat) (j := 2) (m := 6) (kd := 20) rfl (by omega) (IhL54.s (a1 := 206) (a2 := 361) (by decide +kernel) (by omega) (by omega)) (by omega) (by omega) (by show _ < 936; omega) eh82, (iL54_1), Ev81]
                      have Rh82 : zMR ms114 h h82 := RhL54.w (a1 := 206) (a2 := 361) (j1 := 0) (j2 := 6) (by decide +kernel) ⟨by omega, by omega⟩ ⟨by decide, by decide⟩ eh82
                      refine zwW_inc (i := 1) (c := 1) (x := lL54) (nx := 130) (by decide +kernel) rfl ⟨by omega, by omega⟩ (ls' := [(2, 37), (0, (lL54 + 1))]) rfl ?_
                      refine zwW_p [(24, 99, 0)] (q := 99) (ls' := [(2, 37), (0, (lL54 + 1))]) (st' := []) (by decide +kernel) rfl ?_
                      exact IHL54 ((1000 - (lL54 + 1))).toNat (by omega) (lL54 + 1) h82 rfl (by omega) (Zh82.trans (zs_acc (by omega) (by rw [show (lL54 + 1).toNat = (lL54).toNat + 1 by omega]; exact ySmL_s))) Ih82 Rh82
                exact L54 _ 0 hL51 rfl (by omega) ((iL51_1).trans (by rw [show (vL51).toNat = ((yMk5 q (yM h)) 37 1).toNat by omega]; exact (zs_self ((zs_ni (by omega)).trans (yMk5_z ZR (Or.inr (by rw [M0]))))).symm)) IhL51 RhL51
              · refine zwW_p [(1, 0, 2)] (q := 72) (ls' := [(2, 37), (0, vL51)]) (st' := [(2, 37)]) (by decide +kernel) rfl ?_
                refine zwW_gc IhL51 (kd := 13) (bn := 91) (n := 97) (c := 205) (nx := 75) (by decide +kernel) ?_
                refine zwW_p [(1, 0, 2)] (q := 76) (ls' := [(2, 37), (0, vL51)]) (st' := [(2, 37), (2, 205)]) (by decide +kernel) rfl ?_
                refine zwW_gs IhL51 (kd := 13) (bn := 0) (n := 97) (t := 0) (lo := 0) (hi := 156) (nx := 79) (by decide +kernel) ?_
                intro v83 ev83 lv83 uv83
                have sv83 : v83 = ((yMk5 q (yM h))) 37 0 := Eq.trans ev83 (Eq.trans (Eq.symm (yM_s (h := hL51) (i := 0) rfl)) (Eq.trans (congrFun (congrFun (iL51_1) 37) 0) (Eq.trans (zs_na (by decide) : (zs ((yMk5 q (yM h))) 206 (6 * ((yMk5 q (yM h)) 37 0).toNat) (ySmC (yMk5 q (yM h)) (vL51).toNat)) 37 0 = ((yMk5 q (yM h))) 37 0) rfl)))
                refine zwW_ro IhL51 (a := 205) (n := 156) (kd := 26) (base := 206) (step := 1) (nx := 80) (by decide +kernel) rfl ⟨by omega, by omega⟩ ?_
                rw [show ((206 : Nat) : Int) + ((1 : Nat) : Int) * v83 = (206 + v83) by omega]
                refine zwW_p [(0, 0, 0), (14, 0, 0)] (q := 82) (ls' := [(2, 37), (0, vL51)]) (st' := [(0, 0), (2, (206 + v83)), (0, 0), (2, (206 + v83))]) (by decide +kernel) rfl ?_
                refine zwW_al IhL51 (a1 := 206) (a2 := 361) (kd := 20) (n := 6) (t := 0) (lo := -2147483648) (hi := 2147483647) (nx := 83) (by decide +kernel) ⟨by omega, by omega⟩ ⟨by decide, by decide⟩ ?_
                intro v84 ev84 lv84 uv84
                have sv84 : v84 = (zs ((yMk5 q (yM h))) 206 (6 * ((yMk5 q (yM h)) 37 0).toNat) (ySmC (yMk5 q (yM h)) (vL51).toNat)) 206 (6 * v83.toNat + 0) := Eq.trans (show v84 = yM hL51 206 (6 * v83.toNat + 0) by rw [yM_2 (a := 206) (w := 6) (v := v83.toNat) (j := 0) rfl (by omega) (by show _ < 936; omega), ev84]; congr 1; omega) (Eq.trans (congrFun (congrFun (iL51_1) 206) (6 * v83.toNat + 0)) rfl)
                refine zwW_p [(1, 0, 2)] (q := 84) (ls' := [(2, 37), (0, vL51)]) (st' := [(2, 37), (0, v84), (0, 0), (2, (206 + v83))]) (by decide +kernel) rfl ?_
                refine zwW_gc IhL51 (kd := 13) (bn := 7) (n := 97) (c := 66) (nx := 87) (by decide +kernel) ?_
                refine zwW_p [(1, 1, 0)] (q := 88) (ls' := [(2, 37), (0, vL51)]) (st' := [(0, vL51), (2, 66), (0, v84), (0, 0), (2, (206 + v83))]) (by decide +kernel) rfl ?_
                refine zwW_al IhL51 (a1 := 66) (a2 := 66) (kd := 20) (n := 8) (t := 0) (lo := -2147483648) (hi := 2147483647) (nx := 89) (by decide +kernel) ⟨by decide, by decide⟩ ⟨by omega, by omega⟩ ?_
                intro v85 ev85 lv85 uv85
                have sv85 : v85 = ((yMk5 q (yM h))) 66 vL51.toNat := Eq.trans ev85 (Eq.trans (Eq.symm (yM_p (h := hL51) (a := 66) (n := 8) (i := vL51.toNat) rfl (by omega))) (Eq.trans (congrFun (congrFun (iL51_1) 66) vL51.toNat) (Eq.trans (zs_na (by decide) : (zs ((yMk5 q (yM h))) 206 (6 * ((yMk5 q (yM h)) 37 0).toNat) (ySmC (yMk5 q (yM h)) (vL51).toNat)) 66 vL51.toNat = ((yMk5 q (yM h))) 66 vL51.toNat) rfl)))
                refine zwW_adw (nx := 90) (by decide +kernel) ?_
                intro v86 ev86 lv86 uv86
                have Ev86 : v86 = w32 (((zs ((yMk5 q (yM h))) 206 (6 * ((yMk5 q (yM h)) 37 0).toNat) (ySmC (yMk5 q (yM h)) (vL51).toNat)) 206 (6 * v83.toNat + 0)) + (((yMk5 q (yM h))) 66 vL51.toNat)) := by rw [ev86, sv84, sv85]
                refine zwW_as IhL51 (a1 := 206) (a2 := 361) (n := 6) (lo := -2147483648) (hi := 2147483647) (nx := 91) (by decide +kernel) ⟨by omega, by omega⟩ ⟨by decide, by decide⟩ ⟨by omega, by omega⟩ ?_
                intro h87 eh87 Ih87
                have th87_37_0 : fld h87 37 0 = fld hL51 37 0 := by rw [eh87]; exact fld_wr (by omega)
                have th87_37_2 : fld h87 37 2 = fld hL51 37 2 := by rw [eh87]; exact fld_wr (by omega)
                have Zh87 : yM h87 = (zs (zs ((yMk5 q (yM h))) 206 (6 * ((yMk5 q (yM h)) 37 0).toNat) (ySmC (yMk5 q (yM h)) (vL51).toNat)) 206 (6 * v83.toNat + 0) (w32 (((zs ((yMk5 q (yM h))) 206 (6 * ((yMk5 q (yM h)) 37 0).toNat) (ySmC (yMk5 q (yM h)) (vL51).toNat)) 206 (6 * v83.toNat + 0)) + (((yMk5 q (yM h))) 66 vL51.toNat)))) := by rw [yM_w2 (a := 206) (w := 6) (v := v83.toNat) (j := 0) (m := 6) (kd := 20) rfl (by omega) (IhL51.s (a1 := 206) (a2 := 361) (by decide +kernel) (by omega) (by omega)) (by omega) (by omega) (by show _ < 936; omega) eh87, (iL51_1), Ev86]
                have Rh87 : zMR ms114 h h87 := RhL51.w (a1 := 206) (a2 := 361) (j1 := 0) (j2 := 6) (by decide +kernel) ⟨by omega, by omega⟩ ⟨by decide, by decide⟩ eh87
                refine zwW_inc (i := 1) (c := 1) (x := vL51) (nx := 94) (by decide +kernel) rfl ⟨by omega, by omega⟩ (ls' := [(2, 37), (0, (vL51 + 1))]) rfl ?_
                refine zwW_p [(24, 63, 0)] (q := 63) (ls' := [(2, 37), (0, (vL51 + 1))]) (st' := []) (by decide +kernel) rfl ?_
                exact IHL51 ((100 - (vL51 + 1))).toNat (by omega) (vL51 + 1) h87 rfl (by omega) (Zh87.trans (zs_acc (by omega) (by rw [show (vL51 + 1).toNat = (vL51).toNat + 1 by omega]; exact ySmC_s))) Ih87 Rh87
          exact L51 _ 0 h50 rfl (by omega) ((show yM h50 = (yMk5 q (yM h)) from Zh50).trans (zs_self (yMk5_z ZR (Or.inl (by rw [M0])))).symm) Ih50 Rh50
      · refine zwW_p [(1, 0, 2)] (q := 15) (ls' := [(2, 37), (0, kL3)]) (st' := [(2, 37)]) (by decide +kernel) rfl ?_
        refine zwW_gs IhL3 (kd := 13) (bn := 0) (n := 97) (t := 0) (lo := 0) (hi := 156) (nx := 18) (by decide +kernel) ?_
        intro v88 ev88 lv88 uv88
        have sv88 : v88 = (yBys q (yLyM (yM h)) (kL3).toNat) 37 0 := Eq.trans ev88 (Eq.trans (Eq.symm (yM_s (h := hL3) (i := 0) rfl)) (Eq.trans (congrFun (congrFun iL3_2 37) 0) rfl))
        refine zwW_p [(1, 0, 2)] (q := 19) (ls' := [(2, 37), (0, kL3)]) (st' := [(2, 37), (0, v88)]) (by decide +kernel) rfl ?_
        refine zwW_gc IhL3 (kd := 13) (bn := 24) (n := 97) (c := 83) (nx := 22) (by decide +kernel) ?_
        refine zwW_p [(1, 1, 0)] (q := 23) (ls' := [(2, 37), (0, kL3)]) (st' := [(0, kL3), (2, 83), (0, v88)]) (by decide +kernel) rfl ?_
        refine zwW_al IhL3 (a1 := 83) (a2 := 83) (kd := 20) (n := 20) (t := 0) (lo := 0) (hi := 9) (nx := 24) (by decide +kernel) ⟨by decide, by decide⟩ ⟨by omega, by omega⟩ ?_
        intro v89 ev89 lv89 uv89
        have sv89 : v89 = (yBys q (yLyM (yM h)) (kL3).toNat) 83 kL3.toNat := Eq.trans ev89 (Eq.trans (Eq.symm (yM_p (h := hL3) (a := 83) (n := 20) (i := kL3.toNat) rfl (by omega))) (Eq.trans (congrFun (congrFun iL3_2 83) kL3.toNat) rfl))
        refine zwW_add (nx := 25) (by decide +kernel) ⟨by omega, by omega⟩ ?_
        refine zwW_p [(0, 4, 0)] (q := 26) (ls' := [(2, 37), (0, kL3)]) (st' := [(0, 4), (0, (v88 + v89))]) (by decide +kernel) rfl ?_
        refine zwW_rem (nx := 27) (by decide +kernel) (by omega) (by omega) ?_
        refine zwif_ne (q := 35) (nx := 30) (by decide +kernel) (fun c90 => ?_) (fun c90 => ?_)
        · refine zwW_inc (i := 1) (c := 1) (x := kL3) (nx := 38) (by decide +kernel) rfl ⟨by omega, by omega⟩ (ls' := [(2, 37), (0, (kL3 + 1))]) rfl ?_
          refine zwW_p [(24, 6, 0)] (q := 6) (ls' := [(2, 37), (0, (kL3 + 1))]) (st' := []) (by decide +kernel) rfl ?_
          exact IHL3 ((100 - (kL3 + 1))).toNat (by omega) (kL3 + 1) hL3 rfl (iL3_0) (by omega) (by rw [show (kL3 + 1).toNat = (kL3).toNat + 1 by omega, yBys_s]; first | (rw [if_neg (by omega)]; exact iL3_2) | (rw [if_pos (by omega)]; exact iL3_2)) IhL3 RhL3
        · refine zwW_p [(1, 0, 2), (1, 1, 0)] (q := 32) (ls' := [(2, 37), (0, kL3)]) (st' := [(0, kL3), (2, 37)]) (by decide +kernel) rfl ?_
          refine zwW_cmv IhL3 (op := 60) (k' := 195) (n := 1) (kd := 13) (m := 97) (nx := 35) (r := 37) (tl := [(0, kL3)]) (st' := []) (by decide +kernel) rfl (by decide +kernel) rfl (m195_z hL3 IhL3 kL3 q (by omega) (by omega) (by omega) iL3_0 (by rw [iL3_2]; exact OK1.bys _)) ?_
          rintro h92 ⟨Ih92, Qh92, f91⟩
          have Rh92 : zMR ms114 h h92 := RhL3.tr Qh92 (by decide +kernel)
          have Vh92 : mRq q h92 := iL3_0.fr Qh92 (by decide +kernel)
          have th92_37_0 : fld h92 37 0 = fld hL3 37 0 := Qh92.f (a1 := 37) (a2 := 37) (j1 := 0) (j2 := 1) (by decide +kernel) ⟨by decide, by decide⟩ ⟨by decide, by decide⟩
          have th92_37_2 : fld h92 37 2 = fld hL3 37 2 := Qh92.f (a1 := 37) (a2 := 37) (j1 := 2) (j2 := 3) (by decide +kernel) ⟨by decide, by decide⟩ ⟨by decide, by decide⟩
          have Zh92 : yM h92 = (yByh q (yBys q (yLyM (yM h)) (kL3).toNat) kL3.toNat) := by rw [f91, iL3_2]
          refine zwW_inc (i := 1) (c := 1) (x := kL3) (nx := 38) (by decide +kernel) rfl ⟨by omega, by omega⟩ (ls' := [(2, 37), (0, (kL3 + 1))]) rfl ?_
          refine zwW_p [(24, 6, 0)] (q := 6) (ls' := [(2, 37), (0, (kL3 + 1))]) (st' := []) (by decide +kernel) rfl ?_
          exact IHL3 ((100 - (kL3 + 1))).toNat (by omega) (kL3 + 1) h92 rfl (Vh92) (by omega) (by rw [show (kL3 + 1).toNat = (kL3).toNat + 1 by omega, yBys_s]; first | (rw [if_neg (by omega)]; exact Zh92) | (rw [if_pos (by omega)]; exact Zh92)) Ih92 Rh92
  exact L3 _ 0 h2 rfl (Vh2) (by omega) (Zh2) Ih2 Rh2
