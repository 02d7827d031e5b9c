/-! contracts of the class -/
def msx113_z : Zms := [(1, 1, 0, 1), (1, 1, 1, 2), (4, 4, 0, 3), (17, 17, 0, 13), (18, 18, 0, 400), (34, 34, 2, 3), (35, 35, 0, 936), (36, 36, 0, 8), (1004, 1004, 6, 7), (1004, 1004, 8, 9), (1004, 1004, 9, 10), (1004, 1004, 10, 11), (1004, 1004, 14, 15), (1004, 1004, 15, 16), (1004, 1004, 18, 19), (1011, 1011, 3, 4), (1011, 1011, 4, 5), (1011, 1011, 5, 6), (1011, 1011, 6, 7), (1011, 1011, 7, 8), (1011, 1011, 9, 10), (1011, 1011, 10, 11), (1011, 1011, 13, 14), (1011, 1011, 14, 15), (1011, 1011, 15, 16), (1020, 1020, 0, 100000)]
-- WheelLand.endWeek()V
theorem x113_z {sc : List Int} (h : Hp) (C : CI h) (q : qT) (J : yR h) (V : zRq q h) (ok : yOK (yC h)) (B0 : zBs (yC h)) (H65 : zH65 (yC h)) (W : zLw h) (PD : zPd h) (p1 : fld h 1 0 < 156) (hl : h.length ≤ 999920000) : zwC sc 8 113 [(2, 1)] h (zwRv (fun g => CI g ∧ zXR msx113_z (0) (0) h g ∧ (fld g 1 0 = fld h 1 0 + 1) ∧ (zRq q g) ∧ (yC g = yWkC q (yC h)) ∧ (yR g))) := by
  refine zwC_of (D := 7) 2 (by decide +kernel) rfl (ls := [(2, 1), (9, 0)]) rfl ?_
  have X : zXR msx113_z 0 0 h h := zXR.rf _ _
  have u0 : yC h 37 0 = fld h 1 0 := rfl
  have u1 : yC h 37 1 = fld h 2 2 := rfl
  have u2 : yC h 37 2 = fld h 3 2 := rfl
  have u64 : yC h 37 64 = fld h 4 2 := rfl
  have u71 : yC h 37 71 = fld h 34 2 := rfl
  refine zwW_p [(1, 0, 2)] (q := 1) (ls' := [(2, 1), (9, 0)]) (st' := [(2, 1)]) (by decide +kernel) rfl ?_
  refine zwW_cm C.1 (op := 60) (k' := 185) (n := 0) (kd := 12) (m := 13) (nx := 4) (r := 1) (tl := []) (st' := []) (by decide +kernel) rfl (by decide +kernel) rfl (x185_z h C J B0 (by omega)) ?_
  rintro v5 h6 ⟨Ch6, Qh6, f1, f2, f3, f4⟩
  have sv5 : v5 = yToA (yC h) := by rw [f2]
  have Zh6 : yC h6 = (yLyA (yC h)) := by rw [f3]
  have Xh6 : zXR msx113_z (0) (0) h h6 := X.tr (c2 := 0) (s2 := 0) Qh6 (by decide +kernel) (by decide) (by decide)
  have th6_1_0 : fld h6 1 0 = fld h 1 0 := Qh6.f (a1 := 1) (a2 := 1) (j1 := 0) (j2 := 1) (by decide +kernel) ⟨by decide, by decide⟩ ⟨by decide, by decide⟩ ⟨by decide, by decide⟩
  have Vh6 : zRq q h6 := V.fr C Qh6 (by decide +kernel)
  have Wh6 : zLw h6 := W.fr Qh6 (by decide +kernel)
  have PDh6 : zPd h6 := PD.fr C Qh6 (by decide +kernel)
  refine zwW_p [(2, 1, 0), (1, 0, 2)] (q := 6) (ls' := [(2, 1), (0, v5)]) (st' := [(2, 1)]) (by decide +kernel) rfl ?_
  refine zwW_cmv Ch6.1 (op := 60) (k' := 186) (n := 0) (kd := 12) (m := 13) (nx := 9) (r := 1) (tl := []) (st' := []) (by decide +kernel) rfl (by decide +kernel) rfl (x186_z h6 Ch6 q f4 Vh6 (by rw [Zh6]; exact ok.lya B0 H65)) ?_
  rintro h9 ⟨Ch9, Qh9, f7, f8⟩
  have Zh9 : yC h9 = (yByA q (yLyA (yC h))) := by rw [f7, Zh6]
  have Xh9 : zXR msx113_z (0) (0) h h9 := Xh6.tr (c2 := 0) (s2 := 0) Qh9 (by decide +kernel) (by decide) (by decide)
  have th9_1_0 : fld h9 1 0 = fld h6 1 0 := Qh9.f (a1 := 1) (a2 := 1) (j1 := 0) (j2 := 1) (by decide +kernel) ⟨by decide, by decide⟩ ⟨by decide, by decide⟩ ⟨by decide, by decide⟩
  have Vh9 : zRq q h9 := Vh6.fr Ch6 Qh9 (by decide +kernel)
  have Wh9 : zLw h9 := Wh6.fr Qh9 (by decide +kernel)
  have PDh9 : zPd h9 := PDh6.fr Ch6 Qh9 (by decide +kernel)
  refine zwW_p [(1, 0, 2)] (q := 10) (ls' := [(2, 1), (0, v5)]) (st' := [(2, 1)]) (by decide +kernel) rfl ?_
  refine zwW_cmv Ch9.1 (op := 60) (k' := 187) (n := 0) (kd := 12) (m := 13) (nx := 13) (r := 1) (tl := []) (st' := []) (by decide +kernel) rfl (by decide +kernel) rfl (x187_z h9 Ch9 f8 Wh9) ?_
  rintro h12 ⟨Ch12, Qh12, f10, f11⟩
  have Zh12 : yC h12 = (yWrA (yByA q (yLyA (yC h)))) := by rw [f10, Zh9]
  have Xh12 : zXR msx113_z (0) (0) h h12 := Xh9.tr (c2 := 0) (s2 := 0) Qh12 (by decide +kernel) (by decide) (by decide)
  have th12_1_0 : fld h12 1 0 = fld h9 1 0 := Qh12.f (a1 := 1) (a2 := 1) (j1 := 0) (j2 := 1) (by decide +kernel) ⟨by decide, by decide⟩ ⟨by decide, by decide⟩ ⟨by decide, by decide⟩
  have Vh12 : zRq q h12 := Vh9.fr Ch9 Qh12 (by decide +kernel)
  have Wh12 : zLw h12 := Wh9.fr Qh12 (by decide +kernel)
  have PDh12 : zPd h12 := PDh9.fr Ch9 Qh12 (by decide +kernel)
  refine zwW_p [(1, 0, 2)] (q := 14) (ls' := [(2, 1), (0, v5)]) (st' := [(2, 1)]) (by decide +kernel) rfl ?_
  refine zwW_gs Ch12.1 (kd := 12) (bn := 0) (n := 13) (t := 0) (lo := 0) (hi := 156) (nx := 17) (by decide +kernel) ?_
  intro v13 ev13 lv13 uv13
  have sv13 : v13 = (yWrA (yByA q (yLyA (yC h)))) 37 0 := Eq.trans ev13 (Eq.trans (Eq.symm (yC_s (h := h12) (i := 0) rfl)) (Eq.trans (congrFun (congrFun Zh12 37) 0) rfl))
  refine zwW_p [(0, 13, 0)] (q := 19) (ls' := [(2, 1), (0, v5)]) (st' := [(0, 13), (0, v13)]) (by decide +kernel) rfl ?_
  refine zwW_rem (nx := 20) (by decide +kernel) (by omega) (by omega) ?_
  refine zwW_p [(0, 12, 0)] (q := 22) (ls' := [(2, 1), (0, v5)]) (st' := [(0, 12), (0, (v13 % 13))]) (by decide +kernel) rfl ?_
  refine zwic_ne (q := 33) (nx := 25) (by decide +kernel) (fun c14 => ?_) (fun c14 => ?_)
  · have E33 : (yWrA (yByA q (yLyA (yC h)))) = yWk5 q (yC h) := by
      unfold yWk5
      first
      | (rw [if_neg (show ¬(yWk3 q (yC h) 37 0 % 13 = 12) by rw [show yWk3 q (yC h) 37 0 = v13 from sv13.symm]; omega)]; rfl)
      | (rw [if_pos (show yWk3 q (yC h) 37 0 % 13 = 12 by rw [show yWk3 q (yC h) 37 0 = v13 from sv13.symm]; omega)]; rfl)
    refine zwW_p [(1, 0, 2)] (q := 34) (ls' := [(2, 1), (0, v5)]) (st' := [(2, 1)]) (by decide +kernel) rfl ?_
    refine zwW_gc Ch12.1 (kd := 12) (bn := 11) (n := 13) (c := 34) (nx := 37) (by decide +kernel) ?_
    refine zwW_p [(1, 0, 2)] (q := 38) (ls' := [(2, 1), (0, v5)]) (st' := [(2, 1), (2, 34)]) (by decide +kernel) rfl ?_
    refine zwW_gs Ch12.1 (kd := 12) (bn := 0) (n := 13) (t := 0) (lo := 0) (hi := 156) (nx := 41) (by decide +kernel) ?_
    intro v15 ev15 lv15 uv15
    have sv15 : v15 = (yWk5 q (yC h)) 37 0 := Eq.trans ev15 (Eq.trans (Eq.symm (yC_s (h := h12) (i := 0) rfl)) (Eq.trans (congrFun (congrFun (Zh12.trans E33) 37) 0) rfl))
    refine zwW_p [(1, 0, 2)] (q := 42) (ls' := [(2, 1), (0, v5)]) (st' := [(2, 1), (0, v15), (2, 34)]) (by decide +kernel) rfl ?_
    refine zwW_cm Ch12.1 (op := 60) (k' := 190) (n := 0) (kd := 12) (m := 13) (nx := 45) (r := 1) (tl := []) (st' := [(0, v15), (2, 34)]) (by decide +kernel) rfl (by decide +kernel) rfl (x190_z h12 Ch12 f11) ?_
    rintro v16 _ ⟨rfl, f17, f18⟩
    have sv16 : v16 = ySmCA (yWk5 q (yC h)) := by rw [f18, (Zh12.trans E33)]
    refine zwW_p [(1, 1, 0), (1, 0, 2)] (q := 47) (ls' := [(2, 1), (0, v5)]) (st' := [(2, 1), (0, v5), (0, v16), (0, v15), (2, 34)]) (by decide +kernel) rfl ?_
    refine zwW_cm Ch12.1 (op := 60) (k' := 191) (n := 0) (kd := 12) (m := 13) (nx := 50) (r := 1) (tl := []) (st' := [(0, v5), (0, v16), (0, v15), (2, 34)]) (by decide +kernel) rfl (by decide +kernel) rfl (x191_z h12 Ch12 f11) ?_
    rintro v19 _ ⟨rfl, f20, f21⟩
    have sv19 : v19 = ySmLA (yWk5 q (yC h)) := by rw [f21, (Zh12.trans E33)]
    refine zwW_cmv Ch12.1 (op := 60) (k' := 192) (n := 4) (kd := 5) (m := 4) (nx := 53) (r := 34) (tl := [(0, v15), (0, v16), (0, v5), (0, v19)]) (st' := []) (by decide +kernel) rfl (by decide +kernel) rfl (x192_z h12 Ch12 v15 v16 v5 v19 (by omega) (by omega) (by omega) (by omega) f11 ⟨by omega, by omega⟩) ?_
    rintro h24 ⟨Ch24, Qh24, f22, f23⟩
    have Zh24 : yC h24 = (yClo (yWk5 q (yC h)) (((yWk5 q (yC h)) 37 0).toNat) (ySmCA (yWk5 q (yC h))) (yToA (yC h)) (ySmLA (yWk5 q (yC h)))) := by rw [f22, (Zh12.trans E33), sv15, sv16, sv5, sv19]
    have Xh24 : zXR msx113_z (0) (0) h h24 := Xh12.tr (c2 := 0) (s2 := 0) Qh24 (by decide +kernel) (by decide) (by decide)
    have th24_1_0 : fld h24 1 0 = fld h12 1 0 := Qh24.f (a1 := 1) (a2 := 1) (j1 := 0) (j2 := 1) (by decide +kernel) ⟨by decide, by decide⟩ ⟨by decide, by decide⟩ ⟨by decide, by decide⟩
    have Vh24 : zRq q h24 := Vh12.fr Ch12 Qh24 (by decide +kernel)
    have Wh24 : zLw h24 := Wh12.fr Qh24 (by decide +kernel)
    have PDh24 : zPd h24 := PDh12.fr Ch12 Qh24 (by decide +kernel)
    refine zwW_p [(1, 0, 2), (12, 0, 0)] (q := 55) (ls' := [(2, 1), (0, v5)]) (st' := [(2, 1), (2, 1)]) (by decide +kernel) rfl ?_
    refine zwW_gs Ch24.1 (kd := 12) (bn := 0) (n := 13) (t := 0) (lo := 0) (hi := 156) (nx := 58) (by decide +kernel) ?_
    intro v25 ev25 lv25 uv25
    have sv25 : v25 = (yClo (yWk5 q (yC h)) (((yWk5 q (yC h)) 37 0).toNat) (ySmCA (yWk5 q (yC h))) (yToA (yC h)) (ySmLA (yWk5 q (yC h)))) 37 0 := Eq.trans ev25 (Eq.trans (Eq.symm (yC_s (h := h24) (i := 0) rfl)) (Eq.trans (congrFun (congrFun Zh24 37) 0) rfl))
    refine zwW_p [(0, 1, 0)] (q := 59) (ls' := [(2, 1), (0, v5)]) (st' := [(0, 1), (0, v25), (2, 1)]) (by decide +kernel) rfl ?_
    refine zwW_add (nx := 60) (by decide +kernel) ⟨by omega, by omega⟩ ?_
    have C60 := Ch24
    have Z60 := Zh24
    have N60 : (yClo (yWk5 q (yC h)) (((yWk5 q (yC h)) 37 0).toNat) (ySmCA (yWk5 q (yC h))) (yToA (yC h)) (ySmLA (yWk5 q (yC h)))) 37 1 = fld h24 2 2 := by rw [← Zh24]; rfl
    have T60 := sv25
    rw [yClo_0] at T60
    refine zwW_ps Ch24.1 (kd := 12) (bn := 0) (n := 13) (lo := 0) (hi := 156) (nx := 63) (by decide +kernel) ⟨by omega, by omega⟩ ?_
    intro h26 eh26 Ih26
    have Ch26 : CI h26 := Ch24.wc eh26 Ih26 (by decide) (by decide)
    have Qh26 : zXR [(1, 1, 0, 1)] 0 0 h24 h26 := zXR.wc eh26 rfl ⟨by decide, by decide, Or.inl (by decide)⟩ ⟨by decide, by decide⟩
    have Zh26 : yC h26 = (yC h26) := rfl
    have Xh26 : zXR msx113_z (0) (0) h h26 := Xh24.tr (c2 := 0) (s2 := 0) Qh26 (by decide +kernel) (by decide) (by decide)
    have Jh26 : yR h26 := f23.fr Ch24 Qh26 (by decide +kernel)
    have Vh26 : zRq q h26 := Vh24.fr Ch24 Qh26 (by decide +kernel)
    have Wh26 : zLw h26 := Wh24.fr Qh26 (by decide +kernel)
    have PDh26 : zPd h26 := PDh24.fr Ch24 Qh26 (by decide +kernel)
    have th26_1_0 : fld h26 1 0 = (v25 + 1) := by rw [eh26]; exact fld_wr_eq (Ch24.1.s (a1 := 1) (a2 := 1) (k := 12) (n := 13) (by decide +kernel) (by decide) (by decide)) (by decide)
    have G63 := yC_nowz C60 (C60.1.s (a1 := 1) (a2 := 1) (k := 12) (n := 13) (by decide +kernel) (by decide) (by decide)) (by decide) eh26 (by omega)
    rw [Z60, T60] at G63
    refine zwW_p [(1, 0, 2)] (q := 64) (ls' := [(2, 1), (0, v5)]) (st' := [(2, 1)]) (by decide +kernel) rfl ?_
    have V64 := Vh26
    have C64 := Ch26
    refine zwW_cmv Ch26.1 (op := 60) (k' := 193) (n := 0) (kd := 12) (m := 13) (nx := 67) (r := 1) (tl := []) (st' := []) (by decide +kernel) rfl (by decide +kernel) rfl (x193_z h26 Ch26 Jh26 PDh26) ?_
    rintro h30 ⟨Ch30, Qh30, f27, f28, f29⟩
    have Zh30 : yC h30 = (yBgA (yC h26)) := by rw [f28, Zh26]
    have Xh30 : zXR msx113_z (0) (0) h h30 := Xh26.tr (c2 := 0) (s2 := 0) Qh30 (by decide +kernel) (by decide) (by decide)
    have th30_1_0 : fld h30 1 0 = fld h26 1 0 := Qh30.f (a1 := 1) (a2 := 1) (j1 := 0) (j2 := 1) (by decide +kernel) ⟨by decide, by decide⟩ ⟨by decide, by decide⟩ ⟨by decide, by decide⟩
    have Wh30 : zLw h30 := Wh26.fr Qh30 (by decide +kernel)
    have PDh30 : zPd h30 := PDh26.fr Ch26 Qh30 (by decide +kernel)
    have VN : zRq q h30 := V64.go C64 Qh30 f27 (by decide +kernel)
    refine zwW_retv (nx := 68) (a := 0) (b := 0) (by decide +kernel) ?_
    exact ⟨Ch30, Xh30.le (by decide) (by decide), by omega, by exact VN, by exact Zh30.trans (yBgA_o G63 (by rw [zs_eq]) (by rw [zs_ni (by decide), N60])), by exact f29⟩
  · refine zwW_p [(1, 0, 2)] (q := 26) (ls' := [(2, 1), (0, v5)]) (st' := [(2, 1)]) (by decide +kernel) rfl ?_
    refine zwW_cmv Ch12.1 (op := 60) (k' := 188) (n := 0) (kd := 12) (m := 13) (nx := 29) (r := 1) (tl := []) (st' := []) (by decide +kernel) rfl (by decide +kernel) rfl (x188_z h12 Ch12 q f11 Vh12 (by rw [Zh12]; exact ((ok.lya B0 H65).bya (q := q)).wra)) ?_
    rintro h33 ⟨Ch33, Qh33, f31, f32⟩
    have Zh33 : yC h33 = (yDuA q (yWrA (yByA q (yLyA (yC h))))) := by rw [f31, Zh12]
    have Xh33 : zXR msx113_z (0) (0) h h33 := Xh12.tr (c2 := 0) (s2 := 0) Qh33 (by decide +kernel) (by decide) (by decide)
    have th33_1_0 : fld h33 1 0 = fld h12 1 0 := Qh33.f (a1 := 1) (a2 := 1) (j1 := 0) (j2 := 1) (by decide +kernel) ⟨by decide, by decide⟩ ⟨by decide, by decide⟩ ⟨by decide, by decide⟩
    have Vh33 : zRq q h33 := Vh12.fr Ch12 Qh33 (by decide +kernel)
    have Wh33 : zLw h33 := Wh12.fr Qh33 (by decide +kernel)
    have PDh33 : zPd h33 := PDh12.fr Ch12 Qh33 (by decide +kernel)
    refine zwW_p [(1, 0, 2)] (q := 30) (ls' := [(2, 1), (0, v5)]) (st' := [(2, 1)]) (by decide +kernel) rfl ?_
    refine zwW_cmv Ch33.1 (op := 60) (k' := 189) (n := 0) (kd := 12) (m := 13) (nx := 33) (r := 1) (tl := []) (st' := []) (by decide +kernel) rfl (by decide +kernel) rfl (x189_z h33 Ch33 f32 (by rw [Zh33]; exact (((ok.lya B0 H65).bya (q := q)).wra).dua)) ?_
    rintro h36 ⟨Ch36, Qh36, f34, f35⟩
    have Zh36 : yC h36 = (yMlA (yDuA q (yWrA (yByA q (yLyA (yC h)))))) := by rw [f34, Zh33]
    have Xh36 : zXR msx113_z (0) (0) h h36 := Xh33.tr (c2 := 0) (s2 := 0) Qh36 (by decide +kernel) (by decide) (by decide)
    have th36_1_0 : fld h36 1 0 = fld h33 1 0 := Qh36.f (a1 := 1) (a2 := 1) (j1 := 0) (j2 := 1) (by decide +kernel) ⟨by decide, by decide⟩ ⟨by decide, by decide⟩ ⟨by decide, by decide⟩
    have Vh36 : zRq q h36 := Vh33.fr Ch33 Qh36 (by decide +kernel)
    have Wh36 : zLw h36 := Wh33.fr Qh36 (by decide +kernel)
    have PDh36 : zPd h36 := PDh33.fr Ch33 Qh36 (by decide +kernel)
    have E33 : (yMlA (yDuA q (yWrA (yByA q (yLyA (yC h)))))) = yWk5 q (yC h) := by
      unfold yWk5
      first
      | (rw [if_neg (show ¬(yWk3 q (yC h) 37 0 % 13 = 12) by rw [show yWk3 q (yC h) 37 0 = v13 from sv13.symm]; omega)]; rfl)
      | (rw [if_pos (show yWk3 q (yC h) 37 0 % 13 = 12 by rw [show yWk3 q (yC h) 37 0 = v13 from sv13.symm]; omega)]; rfl)
    refine zwW_p [(1, 0, 2)] (q := 34) (ls' := [(2, 1), (0, v5)]) (st' := [(2, 1)]) (by decide +kernel) rfl ?_
    refine zwW_gc Ch36.1 (kd := 12) (bn := 11) (n := 13) (c := 34) (nx := 37) (by decide +kernel) ?_
    refine zwW_p [(1, 0, 2)] (q := 38) (ls' := [(2, 1), (0, v5)]) (st' := [(2, 1), (2, 34)]) (by decide +kernel) rfl ?_
    refine zwW_gs Ch36.1 (kd := 12) (bn := 0) (n := 13) (t := 0) (lo := 0) (hi := 156) (nx := 41) (by decide +kernel) ?_
    intro v37 ev37 lv37 uv37
    have sv37 : v37 = (yWk5 q (yC h)) 37 0 := Eq.trans ev37 (Eq.trans (Eq.symm (yC_s (h := h36) (i := 0) rfl)) (Eq.trans (congrFun (congrFun (Zh36.trans E33) 37) 0) rfl))
    refine zwW_p [(1, 0, 2)] (q := 42) (ls' := [(2, 1), (0, v5)]) (st' := [(2, 1), (0, v37), (2, 34)]) (by decide +kernel) rfl ?_
    refine zwW_cm Ch36.1 (op := 60) (k' := 190) (n := 0) (kd := 12) (m := 13) (nx := 45) (r := 1) (tl := []) (st' := [(0, v37), (2, 34)]) (by decide +kernel) rfl (by decide +kernel) rfl (x190_z h36 Ch36 f35) ?_
    rintro v38 _ ⟨rfl, f39, f40⟩
    have sv38 : v38 = ySmCA (yWk5 q (yC h)) := by rw [f40, (Zh36.trans E33)]
    refine zwW_p [(1, 1, 0), (1, 0, 2)] (q := 47) (ls' := [(2, 1), (0, v5)]) (st' := [(2, 1), (0, v5), (0, v38), (0, v37), (2, 34)]) (by decide +kernel) rfl ?_
    refine zwW_cm Ch36.1 (op := 60) (k' := 191) (n := 0) (kd := 12) (m := 13) (nx := 50) (r := 1) (tl := []) (st' := [(0, v5), (0, v38), (0, v37), (2, 34)]) (by decide +kernel) rfl (by decide +kernel) rfl (x191_z h36 Ch36 f35) ?_
    rintro v41 _ ⟨rfl, f42, f43⟩
    have sv41 : v41 = ySmLA (yWk5 q (yC h)) := by rw [f43, (Zh36.trans E33)]
    refine zwW_cmv Ch36.1 (op := 60) (k' := 192) (n := 4) (kd := 5) (m := 4) (nx := 53) (r := 34) (tl := [(0, v37), (0, v38), (0, v5), (0, v41)]) (st' := []) (by decide +kernel) rfl (by decide +kernel) rfl (x192_z h36 Ch36 v37 v38 v5 v41 (by omega) (by omega) (by omega) (by omega) f35 ⟨by omega, by omega⟩) ?_
    rintro h46 ⟨Ch46, Qh46, f44, f45⟩
    have Zh46 : yC h46 = (yClo (yWk5 q (yC h)) (((yWk5 q (yC h)) 37 0).toNat) (ySmCA (yWk5 q (yC h))) (yToA (yC h)) (ySmLA (yWk5 q (yC h)))) := by rw [f44, (Zh36.trans E33), sv37, sv38, sv5, sv41]
    have Xh46 : zXR msx113_z (0) (0) h h46 := Xh36.tr (c2 := 0) (s2 := 0) Qh46 (by decide +kernel) (by decide) (by decide)
    have th46_1_0 : fld h46 1 0 = fld h36 1 0 := Qh46.f (a1 := 1) (a2 := 1) (j1 := 0) (j2 := 1) (by decide +kernel) ⟨by decide, by decide⟩ ⟨by decide, by decide⟩ ⟨by decide, by decide⟩
    have Vh46 : zRq q h46 := Vh36.fr Ch36 Qh46 (by decide +kernel)
    have Wh46 : zLw h46 := Wh36.fr Qh46 (by decide +kernel)
    have PDh46 : zPd h46 := PDh36.fr Ch36 Qh46 (by decide +kernel)
    refine zwW_p [(1, 0, 2), (12, 0, 0)] (q := 55) (ls' := [(2, 1), (0, v5)]) (st' := [(2, 1), (2, 1)]) (by decide +kernel) rfl ?_
    refine zwW_gs Ch46.1 (kd := 12) (bn := 0) (n := 13) (t := 0) (lo := 0) (hi := 156) (nx := 58) (by decide +kernel) ?_
    intro v47 ev47 lv47 uv47
    have sv47 : v47 = (yClo (yWk5 q (yC h)) (((yWk5 q (yC h)) 37 0).toNat) (ySmCA (yWk5 q (yC h))) (yToA (yC h)) (ySmLA (yWk5 q (yC h)))) 37 0 := Eq.trans ev47 (Eq.trans (Eq.symm (yC_s (h := h46) (i := 0) rfl)) (Eq.trans (congrFun (congrFun Zh46 37) 0) rfl))
    refine zwW_p [(0, 1, 0)] (q := 59) (ls' := [(2, 1), (0, v5)]) (st' := [(0, 1), (0, v47), (2, 1)]) (by decide +kernel) rfl ?_
    refine zwW_add (nx := 60) (by decide +kernel) ⟨by omega, by omega⟩ ?_
    have C60 := Ch46
    have Z60 := Zh46
    have N60 : (yClo (yWk5 q (yC h)) (((yWk5 q (yC h)) 37 0).toNat) (ySmCA (yWk5 q (yC h))) (yToA (yC h)) (ySmLA (yWk5 q (yC h)))) 37 1 = fld h46 2 2 := by rw [← Zh46]; rfl
    have T60 := sv47
    rw [yClo_0] at T60
    refine zwW_ps Ch46.1 (kd := 12) (bn := 0) (n := 13) (lo := 0) (hi := 156) (nx := 63) (by decide +kernel) ⟨by omega, by omega⟩ ?_
    intro h48 eh48 Ih48
    have Ch48 : CI h48 := Ch46.wc eh48 Ih48 (by decide) (by decide)
    have Qh48 : zXR [(1, 1, 0, 1)] 0 0 h46 h48 := zXR.wc eh48 rfl ⟨by decide, by decide, Or.inl (by decide)⟩ ⟨by decide, by decide⟩
    have Zh48 : yC h48 = (yC h48) := rfl
    have Xh48 : zXR msx113_z (0) (0) h h48 := Xh46.tr (c2 := 0) (s2 := 0) Qh48 (by decide +kernel) (by decide) (by decide)
    have Jh48 : yR h48 := f45.fr Ch46 Qh48 (by decide +kernel)
    have Vh48 : zRq q h48 := Vh46.fr Ch46 Qh48 (by decide +kernel)
    have Wh48 : zLw h48 := Wh46.fr Qh48 (by decide +kernel)
    have PDh48 : zPd h48 := PDh46.fr Ch46 Qh48 (by decide +kernel)
    have th48_1_0 : fld h48 1 0 = (v47 + 1) := by rw [eh48]; exact fld_wr_eq (Ch46.1.s (a1 := 1) (a2 := 1) (k := 12) (n := 13) (by decide +kernel) (by decide) (by decide)) (by decide)
    have G63 := yC_nowz C60 (C60.1.s (a1 := 1) (a2 := 1) (k := 12) (n := 13) (by decide +kernel) (by decide) (by decide)) (by decide) eh48 (by omega)
    rw [Z60, T60] at G63
    refine zwW_p [(1, 0, 2)] (q := 64) (ls' := [(2, 1), (0, v5)]) (st' := [(2, 1)]) (by decide +kernel) rfl ?_
    have V64 := Vh48
    have C64 := Ch48
    refine zwW_cmv Ch48.1 (op := 60) (k' := 193) (n := 0) (kd := 12) (m := 13) (nx := 67) (r := 1) (tl := []) (st' := []) (by decide +kernel) rfl (by decide +kernel) rfl (x193_z h48 Ch48 Jh48 PDh48) ?_
    rintro h52 ⟨Ch52, Qh52, f49, f50, f51⟩
    have Zh52 : yC h52 = (yBgA (yC h48)) := by rw [f50, Zh48]
    have Xh52 : zXR msx113_z (0) (0) h h52 := Xh48.tr (c2 := 0) (s2 := 0) Qh52 (by decide +kernel) (by decide) (by decide)
    have th52_1_0 : fld h52 1 0 = fld h48 1 0 := Qh52.f (a1 := 1) (a2 := 1) (j1 := 0) (j2 := 1) (by decide +kernel) ⟨by decide, by decide⟩ ⟨by decide, by decide⟩ ⟨by decide, by decide⟩
    have Wh52 : zLw h52 := Wh48.fr Qh52 (by decide +kernel)
    have PDh52 : zPd h52 := PDh48.fr Ch48 Qh52 (by decide +kernel)
    have VN : zRq q h52 := V64.go C64 Qh52 f49 (by decide +kernel)
    refine zwW_retv (nx := 68) (a := 0) (b := 0) (by decide +kernel) ?_
    exact ⟨Ch52, Xh52.le (by decide) (by decide), by omega, by exact VN, by exact Zh52.trans (yBgA_o G63 (by rw [zs_eq]) (by rw [zs_ni (by decide), N60])), by exact f51⟩
