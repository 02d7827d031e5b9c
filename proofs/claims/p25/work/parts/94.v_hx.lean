/-! joined: 94.v_hx 94.va_hx 94.vb_hx 94.vc_mh 94.w_hm 94.wa_hm 94.wb_hm 94.x_lf -/
section
/-! contracts of the class -/
def msx134_h : Zms := [(17, 17, 0, 13), (18, 18, 0, 400)]
-- WheelLand.askOfWeaving(ILWheelLand$House;LWheelLand$Lot;I)I
theorem x134_h {sc : List Int} (h : Hp) (C : CI h) (a r y b : Int) (q : qT) (q_a : -2147483648 ≤ a ∧ a ≤ 2147483647) (G_r : gH h r) (G_y : gL h y) (q_b : -2147483648 ≤ b ∧ b ≤ 2147483647) (J : yR h) (k : Nat) (P_r : r = zv h 3 k ∧ (k : Int) < fld h 3 2) (l : Nat) (P_y : y = zv h 4 l ∧ (l : Int) < fld h 4 2) (V : zRq q h) (ok : yOK (yC h)) (PF8 : yF8 (yC h)) (pa : 0 ≤ a ∧ a ≤ 4) (pb : 0 ≤ b ∧ b ≤ 4000) : zwC sc 4 134 [(2, 1), (0, a), (2, r), (2, y), (0, b)] h (zwRt 0 (fun x g => CI g ∧ zXR msx134_h (0) (0) h g ∧ (-2147483648 ≤ x ∧ x ≤ 2147483647) ∧ (-1000000 ≤ x ∧ x ≤ 1000000) ∧ (x = yWask q (yC h) a k l b) ∧ (yR g))) := by
  refine zwC_of (D := 3) 5 (by decide +kernel) rfl (ls := [(2, 1), (0, a), (2, r), (2, y), (0, b)]) rfl ?_
  have lw_r := G_r.1
  have lw_y := G_y.1
  have X : zXR msx134_h 0 0 h h := zXR.rf _ _
  have u0 : yC h 37 0 = fld h 1 0 := rfl
  have u1 : yC h 37 1 = fld h 2 2 := rfl
  have u2 : yC h 37 2 = fld h 3 2 := rfl
  have u64 : yC h 37 64 = fld h 4 2 := rfl
  have WNS := eNs_wm ok PF8 (k := k) (l := l) (x := b) (by have := P_r.2; omega) (by have := P_y.2; omega) pb
  have B134 : eNum (q a (yC h 37 0) (yWN (yC h) k l b)) := by
    by_cases z : a < 3
    · exact V.num WNS ⟨pa.1, z⟩
    · exact (V.bit WNS (by first | omega | exact ⟨by omega, by omega⟩)).num
  unfold eNum at B134
  refine zwW_p [(1, 0, 2)] (q := 1) (ls' := [(2, 1), (0, a), (2, r), (2, y), (0, b)]) (st' := [(2, 1)]) (by decide +kernel) rfl ?_
  refine zwW_gc C.1 (kd := 12) (bn := 8) (n := 13) (c := 13) (nx := 4) (by decide +kernel) ?_
  refine zwW_p [(1, 0, 2)] (q := 5) (ls' := [(2, 1), (0, a), (2, r), (2, y), (0, b)]) (st' := [(2, 1), (2, 13)]) (by decide +kernel) rfl ?_
  refine zwW_gs C.1 (kd := 12) (bn := 0) (n := 13) (t := 0) (lo := 0) (hi := 156) (nx := 8) (by decide +kernel) ?_
  intro v1 ev1 lv1 uv1
  have sv1 : v1 = (yC h) 37 0 := Eq.trans ev1 (Eq.trans (Eq.symm (yC_s (h := h) (i := 0) rfl)) (Eq.trans (congrFun (congrFun (rfl : yC h = yC h) 37) 0) rfl))
  refine zwW_cmv C.1 (op := 60) (k' := 166) (n := 1) (kd := 9) (m := 6) (nx := 11) (r := 13) (tl := [(0, v1)]) (st' := []) (by decide +kernel) rfl (by decide +kernel) rfl (x166_n h C v1 (by omega) (by omega)) ?_
  rintro h3 ⟨Ch3, Qh3, f2⟩
  have Zh3 : yC h3 = (yC h) := (yC_fr C Qh3 (by decide +kernel) (C.1.b (a1 := 37) (a2 := 37) (j1 := 86) (j2 := 87) (lo := 0) (hi := 6) (by decide +kernel) (r := 37) (j := 86) (by decide) (by decide) (by decide) (by decide)).2).trans (rfl : yC h = yC h)
  have Xh3 : zXR msx134_h (0) (0) h h3 := X.tr (c2 := 0) (s2 := 0) Qh3 (by decide +kernel) (by decide) (by decide)
  have Gh3_0 : gH h3 r := G_r.x Qh3
  have Gh3_1 : gL h3 y := G_y.x Qh3
  have Jh3 : yR h3 := J.fr C Qh3 (by decide +kernel)
  have pr_h3 : r = zv h3 3 k ∧ ((k : Nat) : Int) < fld h3 3 2 := zpv C Qh3 (A := 3) (by decide) (by decide +kernel) P_r
  have py_h3 : y = zv h3 4 l ∧ ((l : Nat) : Int) < fld h3 4 2 := zpv C Qh3 (A := 4) (by decide) (by decide +kernel) P_y
  have Vh3 : zRq q h3 := V.fr C Qh3 (by decide +kernel)
  have G8 : n13 17 h3 (yNm0 (yC h 37 0)) := f2.cg (by rw [sv1])
  refine zwW_p [(1, 0, 2)] (q := 12) (ls' := [(2, 1), (0, a), (2, r), (2, y), (0, b)]) (st' := [(2, 1)]) (by decide +kernel) rfl ?_
  refine zwW_gc Ch3.1 (kd := 12) (bn := 8) (n := 13) (c := 13) (nx := 15) (by decide +kernel) ?_
  refine zwW_p [(1, 3, 2)] (q := 16) (ls' := [(2, 1), (0, a), (2, r), (2, y), (0, b)]) (st' := [(2, y), (2, 13)]) (by decide +kernel) rfl ?_
  refine zwW_get (kd := 6) (bn := 1) (t := 2) (n := 7) (nx := 19) (by decide +kernel) Gh3_1.2.1 rfl ?_
  obtain ⟨v4, ev4⟩ : ∃ z, z = fld h3 y 1 := ⟨_, rfl⟩
  rw [← ev4]
  have Gv4 : gH h3 v4 := by rw [ev4]; exact Gh3_1.2.2
  have lv4 := Gv4.1
  have qv4 : yC h3 170 l = (yC h) 170 l := Eq.trans (congrFun (congrFun Zh3 170) l) rfl
  have wv4 := Jh3.r (a := 170) (A := 4) (j := 1) (B := 3) (i := l) rfl py_h3.2
  rw [qv4] at wv4
  have pv4 : v4 = zv h3 3 (((yC h) 170 l).toNat) ∧ ((((yC h) 170 l).toNat : Nat) : Int) < fld h3 3 2 := ⟨by rw [ev4, py_h3.1]; exact wv4.2.2, wv4.2.1⟩
  refine zwW_p [(1, 0, 2)] (q := 20) (ls' := [(2, 1), (0, a), (2, r), (2, y), (0, b)]) (st' := [(2, 1), (2, v4), (2, 13)]) (by decide +kernel) rfl ?_
  refine zwW_gs Ch3.1 (kd := 12) (bn := 0) (n := 13) (t := 0) (lo := 0) (hi := 156) (nx := 23) (by decide +kernel) ?_
  intro v5 ev5 lv5 uv5
  have sv5 : v5 = (yC h) 37 0 := Eq.trans ev5 (Eq.trans (Eq.symm (yC_s (h := h3) (i := 0) rfl)) (Eq.trans (congrFun (congrFun Zh3 37) 0) rfl))
  refine zwW_cs (k' := 162) (n := 1) (nx := 26) (as := [(0, v5)]) (st' := [(2, v4), (2, 13)]) (by decide +kernel) rfl (x162 h3 Ch3 v5 (by omega) (by omega)) rfl ?_
  rintro v6 _ ⟨rfl, f7, f8, f9⟩
  have Z26 := Zh3
  refine zwW_cmv Ch3.1 (op := 60) (k' := 167) (n := 2) (kd := 9) (m := 6) (nx := 29) (r := 13) (tl := [(2, v4), (0, v6)]) (st' := []) (by decide +kernel) rfl (by decide +kernel) rfl (x167_z h3 Ch3 v4 v6 (yNm0 (yC h 37 0)) Gv4 (by omega) Jh3 (((yC h) 170 l).toNat) pv4 (by rw [Zh3]; exact ok) G8 (by rw [Zh3]; omega)) ?_
  rintro h12 ⟨Ch12, Qh12, f10, f11⟩
  have Zh12 : yC h12 = (yC h) := (yC_fr Ch3 Qh12 (by decide +kernel) (Ch3.1.b (a1 := 37) (a2 := 37) (j1 := 86) (j2 := 87) (lo := 0) (hi := 6) (by decide +kernel) (r := 37) (j := 86) (by decide) (by decide) (by decide) (by decide)).2).trans Zh3
  have Xh12 : zXR msx134_h (0) (0) h h12 := Xh3.tr (c2 := 0) (s2 := 0) Qh12 (by decide +kernel) (by decide) (by decide)
  have Gh12_0 : gH h12 r := Gh3_0.x Qh12
  have Gh12_1 : gL h12 y := Gh3_1.x Qh12
  have pr_h12 : r = zv h12 3 k ∧ ((k : Nat) : Int) < fld h12 3 2 := zpv Ch3 Qh12 (A := 3) (by decide) (by decide +kernel) pr_h3
  have py_h12 : y = zv h12 4 l ∧ ((l : Nat) : Int) < fld h12 4 2 := zpv Ch3 Qh12 (A := 4) (by decide) (by decide +kernel) py_h3
  have Vh12 : zRq q h12 := Vh3.fr Ch3 Qh12 (by decide +kernel)
  have G26 : n13 17 h12 (yNmH (yC h) (yC h 170 l).toNat (yNm0 (yC h 37 0))) := by
    have z := f10
    rw [Z26] at z
    exact z
  refine zwW_p [(1, 0, 2)] (q := 30) (ls' := [(2, 1), (0, a), (2, r), (2, y), (0, b)]) (st' := [(2, 1)]) (by decide +kernel) rfl ?_
  refine zwW_gc Ch12.1 (kd := 12) (bn := 8) (n := 13) (c := 13) (nx := 33) (by decide +kernel) ?_
  refine zwW_p [(1, 2, 2)] (q := 34) (ls' := [(2, 1), (0, a), (2, r), (2, y), (0, b)]) (st' := [(2, r), (2, 13)]) (by decide +kernel) rfl ?_
  refine zwX_gi Ch12 (kd := 4) (bn := 4) (n := 19) (nx := 37) (by decide +kernel) Gh12_0.2.1 Gh12_0.1 rfl ?_
  intro v13 ev13 lv13 uv13
  have sv13 : v13 = (yC h) 82 k := Eq.trans ev13 (Eq.trans (congrArg (fun q => fld h12 q 4) pr_h12.1) (Eq.trans (Eq.symm (yC_f (h := h12) (a := 82) (A := 3) (j := 4) (i := k) rfl pr_h12.2)) (Eq.trans (congrFun (congrFun Zh12 82) k) rfl)))
  refine zwW_p [(1, 0, 2), (1, 3, 2)] (q := 39) (ls' := [(2, 1), (0, a), (2, r), (2, y), (0, b)]) (st' := [(2, y), (2, 1), (0, v13), (2, 13)]) (by decide +kernel) rfl ?_
  refine zwW_get (kd := 6) (bn := 1) (t := 2) (n := 7) (nx := 42) (by decide +kernel) Gh12_1.2.1 rfl ?_
  obtain ⟨v14, ev14⟩ : ∃ z, z = fld h12 y 1 := ⟨_, rfl⟩
  rw [← ev14]
  have Gv14 : gH h12 v14 := by rw [ev14]; exact Gh12_1.2.2
  have lv14 := Gv14.1
  have qv14 : yC h12 170 l = (yC h) 170 l := Eq.trans (congrFun (congrFun Zh12 170) l) rfl
  have wv14 := f11.r (a := 170) (A := 4) (j := 1) (B := 3) (i := l) rfl py_h12.2
  rw [qv14] at wv14
  have pv14 : v14 = zv h12 3 (((yC h) 170 l).toNat) ∧ ((((yC h) 170 l).toNat : Nat) : Int) < fld h12 3 2 := ⟨by rw [ev14, py_h12.1]; exact wv14.2.2, wv14.2.1⟩
  refine zwW_get (kd := 4) (bn := 1) (t := 2) (n := 19) (nx := 45) (by decide +kernel) Gv14.2.1 rfl ?_
  obtain ⟨v15, ev15⟩ : ∃ z, z = fld h12 v14 1 := ⟨_, rfl⟩
  rw [← ev15]
  have Gv15 : gV h12 v15 := by rw [ev15]; exact Gv14.2.2
  have lv15 := Gv15.1
  have qv15 : yC h12 79 (((yC h) 170 l).toNat) = (yC h) 79 (((yC h) 170 l).toNat) := Eq.trans (congrFun (congrFun Zh12 79) (((yC h) 170 l).toNat)) rfl
  have wv15 := f11.r (a := 79) (A := 3) (j := 1) (B := 2) (i := ((yC h) 170 l).toNat) rfl pv14.2
  rw [qv15] at wv15
  have pv15 : v15 = zv h12 2 (((yC h) 79 (((yC h) 170 l).toNat)).toNat) ∧ ((((yC h) 79 (((yC h) 170 l).toNat)).toNat : Nat) : Int) < fld h12 2 2 := ⟨by rw [ev15, pv14.1]; exact wv15.2.2, wv15.2.1⟩
  refine zwW_p [(1, 2, 2)] (q := 46) (ls' := [(2, 1), (0, a), (2, r), (2, y), (0, b)]) (st' := [(2, r), (2, v15), (2, 1), (0, v13), (2, 13)]) (by decide +kernel) rfl ?_
  refine zwW_get (kd := 4) (bn := 1) (t := 2) (n := 19) (nx := 49) (by decide +kernel) Gh12_0.2.1 rfl ?_
  obtain ⟨v16, ev16⟩ : ∃ z, z = fld h12 r 1 := ⟨_, rfl⟩
  rw [← ev16]
  have Gv16 : gV h12 v16 := by rw [ev16]; exact Gh12_0.2.2
  have lv16 := Gv16.1
  have qv16 : yC h12 79 k = (yC h) 79 k := Eq.trans (congrFun (congrFun Zh12 79) k) rfl
  have wv16 := f11.r (a := 79) (A := 3) (j := 1) (B := 2) (i := k) rfl pr_h12.2
  rw [qv16] at wv16
  have pv16 : v16 = zv h12 2 (((yC h) 79 k).toNat) ∧ ((((yC h) 79 k).toNat : Nat) : Int) < fld h12 2 2 := ⟨by rw [ev16, pr_h12.1]; exact wv16.2.2, wv16.2.1⟩
  refine zwW_cm Ch12.1 (op := 60) (k' := 105) (n := 2) (kd := 12) (m := 13) (nx := 52) (r := 1) (tl := [(2, v15), (2, v16)]) (st' := [(0, v13), (2, 13)]) (by decide +kernel) rfl (by decide +kernel) rfl (x105_z h12 Ch12 v15 v16 Gv15 Gv16 f11 (((yC h) 79 (((yC h) 170 l).toNat)).toNat) pv15 (((yC h) 79 k).toNat) pv16 (by rw [Zh12]; exact PF8)) ?_
  rintro v17 _ ⟨rfl, f18, f19, f20⟩
  have sv17 : v17 = yFarq (yC h) (((yC h) 79 (((yC h) 170 l).toNat)).toNat) (((yC h) 79 k).toNat) := by rw [f20, Zh12]
  refine zwW_cmv Ch12.1 (op := 60) (k' := 168) (n := 2) (kd := 9) (m := 6) (nx := 55) (r := 13) (tl := [(0, v13), (0, v17)]) (st' := []) (by decide +kernel) rfl (by decide +kernel) rfl (x168_n h12 Ch12 v13 v17 (yNmH (yC h) (yC h 170 l).toNat (yNm0 (yC h 37 0))) (by omega) (by omega) G26) ?_
  rintro h22 ⟨Ch22, Qh22, f21⟩
  have Zh22 : yC h22 = (yC h) := (yC_fr Ch12 Qh22 (by decide +kernel) (Ch12.1.b (a1 := 37) (a2 := 37) (j1 := 86) (j2 := 87) (lo := 0) (hi := 6) (by decide +kernel) (r := 37) (j := 86) (by decide) (by decide) (by decide) (by decide)).2).trans Zh12
  have Xh22 : zXR msx134_h (0) (0) h h22 := Xh12.tr (c2 := 0) (s2 := 0) Qh22 (by decide +kernel) (by decide) (by decide)
  have Gh22_0 : gH h22 r := Gh12_0.x Qh22
  have Gh22_1 : gL h22 y := Gh12_1.x Qh22
  have Jh22 : yR h22 := f11.fr Ch12 Qh22 (by decide +kernel)
  have pr_h22 : r = zv h22 3 k ∧ ((k : Nat) : Int) < fld h22 3 2 := zpv Ch12 Qh22 (A := 3) (by decide) (by decide +kernel) pr_h12
  have py_h22 : y = zv h22 4 l ∧ ((l : Nat) : Int) < fld h22 4 2 := zpv Ch12 Qh22 (A := 4) (by decide) (by decide +kernel) py_h12
  have Vh22 : zRq q h22 := Vh12.fr Ch12 Qh22 (by decide +kernel)
  have G52 : n13 17 h22 (zu (zu (yNmH (yC h) (yC h 170 l).toNat (yNm0 (yC h 37 0))) 6 (yC h 82 k)) 11 (yFarq (yC h) (yC h 79 (yC h 170 l).toNat).toNat (yC h 79 k).toNat)) := f21.cg (by rw [sv13, sv17])
  refine zwW_p [(1, 0, 2)] (q := 56) (ls' := [(2, 1), (0, a), (2, r), (2, y), (0, b)]) (st' := [(2, 1)]) (by decide +kernel) rfl ?_
  refine zwW_gc Ch22.1 (kd := 12) (bn := 8) (n := 13) (c := 13) (nx := 59) (by decide +kernel) ?_
  refine zwW_p [(1, 3, 2)] (q := 60) (ls' := [(2, 1), (0, a), (2, r), (2, y), (0, b)]) (st' := [(2, y), (2, 13)]) (by decide +kernel) rfl ?_
  refine zwX_gi Ch22 (kd := 6) (bn := 3) (n := 7) (nx := 63) (by decide +kernel) Gh22_1.2.1 Gh22_1.1 rfl ?_
  intro v23 ev23 lv23 uv23
  have sv23 : v23 = (yC h) 172 l := Eq.trans ev23 (Eq.trans (congrArg (fun q => fld h22 q 3) py_h22.1) (Eq.trans (Eq.symm (yC_f (h := h22) (a := 172) (A := 4) (j := 3) (i := l) rfl py_h22.2)) (Eq.trans (congrFun (congrFun Zh22 172) l) rfl)))
  refine zwW_p [(1, 3, 2)] (q := 64) (ls' := [(2, 1), (0, a), (2, r), (2, y), (0, b)]) (st' := [(2, y), (0, v23), (2, 13)]) (by decide +kernel) rfl ?_
  refine zwX_gi Ch22 (kd := 6) (bn := 4) (n := 7) (nx := 67) (by decide +kernel) Gh22_1.2.1 Gh22_1.1 rfl ?_
  intro v24 ev24 lv24 uv24
  have sv24 : v24 = (yC h) 173 l := Eq.trans ev24 (Eq.trans (congrArg (fun q => fld h22 q 4) py_h22.1) (Eq.trans (Eq.symm (yC_f (h := h22) (a := 173) (A := 4) (j := 4) (i := l) rfl py_h22.2)) (Eq.trans (congrFun (congrFun Zh22 173) l) rfl)))
  refine zwW_p [(1, 4, 0)] (q := 69) (ls' := [(2, 1), (0, a), (2, r), (2, y), (0, b)]) (st' := [(0, b), (0, v24), (0, v23), (2, 13)]) (by decide +kernel) rfl ?_
  refine zwW_cmv Ch22.1 (op := 60) (k' := 171) (n := 3) (kd := 9) (m := 6) (nx := 72) (r := 13) (tl := [(0, v23), (0, v24), (0, b)]) (st' := []) (by decide +kernel) rfl (by decide +kernel) rfl (x171_n h22 Ch22 v23 v24 b (zu (zu (yNmH (yC h) (yC h 170 l).toNat (yNm0 (yC h 37 0))) 6 (yC h 82 k)) 11 (yFarq (yC h) (yC h 79 (yC h 170 l).toNat).toNat (yC h 79 k).toNat)) (by omega) (by omega) (by omega) G52) ?_
  rintro h26 ⟨Ch26, Qh26, f25⟩
  have Zh26 : yC h26 = (yC h) := (yC_fr Ch22 Qh26 (by decide +kernel) (Ch22.1.b (a1 := 37) (a2 := 37) (j1 := 86) (j2 := 87) (lo := 0) (hi := 6) (by decide +kernel) (r := 37) (j := 86) (by decide) (by decide) (by decide) (by decide)).2).trans Zh22
  have Xh26 : zXR msx134_h (0) (0) h h26 := Xh22.tr (c2 := 0) (s2 := 0) Qh26 (by decide +kernel) (by decide) (by decide)
  have Gh26_0 : gH h26 r := Gh22_0.x Qh26
  have Gh26_1 : gL h26 y := Gh22_1.x Qh26
  have Jh26 : yR h26 := Jh22.fr Ch22 Qh26 (by decide +kernel)
  have pr_h26 : r = zv h26 3 k ∧ ((k : Nat) : Int) < fld h26 3 2 := zpv Ch22 Qh26 (A := 3) (by decide) (by decide +kernel) pr_h22
  have py_h26 : y = zv h26 4 l ∧ ((l : Nat) : Int) < fld h26 4 2 := zpv Ch22 Qh26 (A := 4) (by decide) (by decide +kernel) py_h22
  have Vh26 : zRq q h26 := Vh22.fr Ch22 Qh26 (by decide +kernel)
  have G69 : n13 17 h26 (yWN (yC h) k l b) := f25.cg (by unfold yWN; rw [sv23, sv24])
  refine zwW_p [(1, 0, 2)] (q := 73) (ls' := [(2, 1), (0, a), (2, r), (2, y), (0, b)]) (st' := [(2, 1)]) (by decide +kernel) rfl ?_
  refine zwW_gc Ch26.1 (kd := 12) (bn := 8) (n := 13) (c := 13) (nx := 76) (by decide +kernel) ?_
  refine zwW_p [(1, 1, 0), (1, 0, 2)] (q := 78) (ls' := [(2, 1), (0, a), (2, r), (2, y), (0, b)]) (st' := [(2, 1), (0, a), (2, 13)]) (by decide +kernel) rfl ?_
  refine zwW_gs Ch26.1 (kd := 12) (bn := 0) (n := 13) (t := 0) (lo := 0) (hi := 156) (nx := 81) (by decide +kernel) ?_
  intro v27 ev27 lv27 uv27
  have sv27 : v27 = (yC h) 37 0 := Eq.trans ev27 (Eq.trans (Eq.symm (yC_s (h := h26) (i := 0) rfl)) (Eq.trans (congrFun (congrFun Zh26 37) 0) rfl))
  refine zwW_cm Ch26.1 (op := 60) (k' := 172) (n := 2) (kd := 9) (m := 6) (nx := 84) (r := 13) (tl := [(0, a), (0, v27)]) (st' := []) (by decide +kernel) rfl (by decide +kernel) rfl (x172_e h26 Ch26 a v27 (by omega) (by omega) pa Vh26.1.1 Vh26.1.2.1 Vh26.1.2.2 (G69.ns WNS) Vh26.2.1.1 Vh26.2.1.2) ?_
  rintro v30 h31 ⟨Ch31, Qh31, f28, f29⟩
  have Zh31 : yC h31 = (yC h) := (yC_fr Ch26 Qh31 (by decide +kernel) (Ch26.1.b (a1 := 37) (a2 := 37) (j1 := 86) (j2 := 87) (lo := 0) (hi := 6) (by decide +kernel) (r := 37) (j := 86) (by decide) (by decide) (by decide) (by decide)).2).trans Zh26
  have Xh31 : zXR msx134_h (0) (0) h h31 := Xh26.tr (c2 := 0) (s2 := 0) Qh31 (by decide +kernel) (by decide) (by decide)
  have Gh31_0 : gH h31 r := Gh26_0.x Qh31
  have Gh31_1 : gL h31 y := Gh26_1.x Qh31
  have Jh31 : yR h31 := Jh26.fr Ch26 Qh31 (by decide +kernel)
  have pr_h31 : r = zv h31 3 k ∧ ((k : Nat) : Int) < fld h31 3 2 := zpv Ch26 Qh31 (A := 3) (by decide) (by decide +kernel) pr_h26
  have py_h31 : y = zv h31 4 l ∧ ((l : Nat) : Int) < fld h31 4 2 := zpv Ch26 Qh31 (A := 4) (by decide) (by decide +kernel) py_h26
  have Vh31 : zRq q h31 := Vh26.fr Ch26 Qh31 (by decide +kernel)
  have A81 : v30 = q a (yC h 37 0) (yWN (yC h) k l b) := by
    have z := f29
    rw [z, G69.tl, Vh26.2.2 _ _ _ pa.1 pa.2, sv27]
  refine zwW_ret (nx := 85) (a := 0) (b := 0) (by decide +kernel) rfl (Or.inl rfl) ?_
  exact ⟨Ch31, Xh31.le (by decide) (by decide), by omega, by omega, by exact A81, by exact Jh31⟩
def msx207_h : Zms := [(17, 17, 0, 13), (18, 18, 0, 400)]
-- WheelLand.lastingBarOf(LWheelLand$House;LWheelLand$Lot;I)I
theorem x207_h {sc : List Int} (h : Hp) (C : CI h) (r y a : Int) (q : qT) (G_r : gH h r) (G_y : gL h y) (q_a : -2147483648 ≤ a ∧ a ≤ 2147483647) (J : yR h) (k : Nat) (P_r : r = zv h 3 k ∧ (k : Int) < fld h 3 2) (l : Nat) (P_y : y = zv h 4 l ∧ (l : Int) < fld h 4 2) (V : zRq q h) (ok : yOK (yC h)) (PF8 : yF8 (yC h)) (pb : 0 ≤ a ∧ a ≤ 4000) : zwC sc 5 207 [(2, 1), (2, r), (2, y), (0, a)] h (zwRt 0 (fun x g => CI g ∧ zXR msx207_h (0) (0) h g ∧ (-2147483648 ≤ x ∧ x ≤ 2147483647) ∧ (0 ≤ x ∧ x ≤ 5) ∧ (x = yLbar q (yC h) k l a) ∧ (yR g))) := by
  refine zwC_of (D := 4) 4 (by decide +kernel) rfl (ls := [(2, 1), (2, r), (2, y), (0, a)]) rfl ?_
  have lw_r := G_r.1
  have lw_y := G_y.1
  have X : zXR msx207_h 0 0 h h := zXR.rf _ _
  have u0 : yC h 37 0 = fld h 1 0 := rfl
  have u1 : yC h 37 1 = fld h 2 2 := rfl
  have u2 : yC h 37 2 = fld h 3 2 := rfl
  have u64 : yC h 37 64 = fld h 4 2 := rfl
  have WNS := eNs_wm ok PF8 (k := k) (l := l) (x := a) (by have := P_r.2; omega) (by have := P_y.2; omega) pb
  have BT := V.bit (c := 3) (w := yC h 37 0) WNS (by first | decide | exact ⟨by decide, by decide⟩)
  unfold eBit at BT
  have KL := ok.lo (l := l) (by have := P_y.2; omega)
  refine zwW_p [(1, 1, 2)] (q := 1) (ls' := [(2, 1), (2, r), (2, y), (0, a)]) (st' := [(2, r)]) (by decide +kernel) rfl ?_
  refine zwW_cv (op := 60) (k' := 110) (n := 0) (kd := 4) (m := 19) (nx := 4) (r := r) (tl := []) (st' := []) (by decide +kernel) rfl (by decide +kernel) G_r.2.1 (x110_z h C r G_r J k P_r) rfl ?_
  rintro x _ ⟨rfl, ⟨rfl, c1⟩ | ⟨rfl, c1⟩⟩
  · refine zwif_ne (q := 9) (nx := 7) (by decide +kernel) (fun c2 => ?_) (fun c2 => ?_)
    · refine zwW_p [(1, 2, 2)] (q := 10) (ls' := [(2, 1), (2, r), (2, y), (0, a)]) (st' := [(2, y)]) (by decide +kernel) rfl ?_
      refine zwX_gi C (kd := 6) (bn := 3) (n := 7) (nx := 13) (by decide +kernel) G_y.2.1 G_y.1 rfl ?_
      intro v3 ev3 lv3 uv3
      have sv3 : v3 = (yC h) 172 l := Eq.trans ev3 (Eq.trans (congrArg (fun q => fld h q 3) P_y.1) (Eq.trans (Eq.symm (yC_f (h := h) (a := 172) (A := 4) (j := 3) (i := l) rfl P_y.2)) (Eq.trans (congrFun (congrFun (rfl : yC h = yC h) 172) l) rfl)))
      refine zwW_p [(1, 1, 2)] (q := 14) (ls' := [(2, 1), (2, r), (2, y), (0, a)]) (st' := [(2, r), (0, v3)]) (by decide +kernel) rfl ?_
      refine zwX_gi C (kd := 4) (bn := 11) (n := 19) (nx := 17) (by decide +kernel) G_r.2.1 G_r.1 rfl ?_
      intro v4 ev4 lv4 uv4
      have sv4 : v4 = (yC h) 89 k := Eq.trans ev4 (Eq.trans (congrArg (fun q => fld h q 11) P_r.1) (Eq.trans (Eq.symm (yC_f (h := h) (a := 89) (A := 3) (j := 11) (i := k) rfl P_r.2)) (Eq.trans (congrFun (congrFun (rfl : yC h = yC h) 89) k) rfl)))
      refine zwW_p [(1, 1, 2)] (q := 18) (ls' := [(2, 1), (2, r), (2, y), (0, a)]) (st' := [(2, r), (0, v4), (0, v3)]) (by decide +kernel) rfl ?_
      refine zwX_gi C (kd := 4) (bn := 12) (n := 19) (nx := 21) (by decide +kernel) G_r.2.1 G_r.1 rfl ?_
      intro v5 ev5 lv5 uv5
      have sv5 : v5 = (yC h) 90 k := Eq.trans ev5 (Eq.trans (congrArg (fun q => fld h q 12) P_r.1) (Eq.trans (Eq.symm (yC_f (h := h) (a := 90) (A := 3) (j := 12) (i := k) rfl P_r.2)) (Eq.trans (congrFun (congrFun (rfl : yC h = yC h) 90) k) rfl)))
      refine zwW_cs (k' := 98) (n := 3) (nx := 24) (as := [(0, v3), (0, v4), (0, v5)]) (st' := []) (by decide +kernel) rfl (x98 h C v3 v4 v5 (by omega) (by omega) (by omega)) rfl ?_
      rintro x _ ⟨rfl, ⟨rfl, c6⟩ | ⟨rfl, c6⟩⟩
      · refine zwif_eq (q := 29) (nx := 27) (by decide +kernel) (fun c7 => ?_) (fun c7 => ?_)
        · exfalso; omega
        · refine zwW_p [(0, 2, 0)] (q := 28) (ls' := [(2, 1), (2, r), (2, y), (0, a)]) (st' := [(0, 2)]) (by decide +kernel) rfl ?_
          refine zwW_ret (nx := 29) (a := 0) (b := 0) (by decide +kernel) rfl (Or.inl rfl) ?_
          exact ⟨C, X.le (by decide) (by decide), by omega, by omega, by unfold yLbar; (try unfold yWask at *); (repeat' (first | rw [if_pos (by omega)] | rw [if_neg (by omega)])); all_goals (first | rfl | omega), by exact J⟩
      · refine zwif_eq (q := 29) (nx := 27) (by decide +kernel) (fun c8 => ?_) (fun c8 => ?_)
        · refine zwW_p [(1, 2, 2)] (q := 30) (ls' := [(2, 1), (2, r), (2, y), (0, a)]) (st' := [(2, y)]) (by decide +kernel) rfl ?_
          refine zwX_gi C (kd := 6) (bn := 4) (n := 7) (nx := 33) (by decide +kernel) G_y.2.1 G_y.1 rfl ?_
          intro v9 ev9 lv9 uv9
          have sv9 : v9 = (yC h) 173 l := Eq.trans ev9 (Eq.trans (congrArg (fun q => fld h q 4) P_y.1) (Eq.trans (Eq.symm (yC_f (h := h) (a := 173) (A := 4) (j := 4) (i := l) rfl P_y.2)) (Eq.trans (congrFun (congrFun (rfl : yC h = yC h) 173) l) rfl)))
          refine zwW_p [(1, 2, 2)] (q := 34) (ls' := [(2, 1), (2, r), (2, y), (0, a)]) (st' := [(2, y), (0, v9)]) (by decide +kernel) rfl ?_
          refine zwX_gi C (kd := 6) (bn := 3) (n := 7) (nx := 37) (by decide +kernel) G_y.2.1 G_y.1 rfl ?_
          intro v10 ev10 lv10 uv10
          have sv10 : v10 = (yC h) 172 l := Eq.trans ev10 (Eq.trans (congrArg (fun q => fld h q 3) P_y.1) (Eq.trans (Eq.symm (yC_f (h := h) (a := 172) (A := 4) (j := 3) (i := l) rfl P_y.2)) (Eq.trans (congrFun (congrFun (rfl : yC h = yC h) 172) l) rfl)))
          refine zwW_p [(0, 30, 0)] (q := 39) (ls' := [(2, 1), (2, r), (2, y), (0, a)]) (st' := [(0, 30), (0, v10), (0, v9)]) (by decide +kernel) rfl ?_
          refine zwW_add (nx := 40) (by decide +kernel) (by first | omega | exact ⟨by omega, by omega⟩) ?_
          refine zwic_ge (q := 45) (nx := 43) (by decide +kernel) (fun c11 => ?_) (fun c11 => ?_)
          · refine zwW_p [(1, 0, 2), (1, 2, 2)] (q := 47) (ls' := [(2, 1), (2, r), (2, y), (0, a)]) (st' := [(2, y), (2, 1)]) (by decide +kernel) rfl ?_
            refine zwW_get (kd := 6) (bn := 1) (t := 2) (n := 7) (nx := 50) (by decide +kernel) G_y.2.1 rfl ?_
            obtain ⟨v12, ev12⟩ : ∃ z, z = fld h y 1 := ⟨_, rfl⟩
            rw [← ev12]
            have Gv12 : gH h v12 := by rw [ev12]; exact G_y.2.2
            have lv12 := Gv12.1
            have qv12 : yC h 170 l = (yC h) 170 l := Eq.trans (congrFun (congrFun (rfl : yC h = yC h) 170) l) rfl
            have wv12 := J.r (a := 170) (A := 4) (j := 1) (B := 3) (i := l) rfl P_y.2
            rw [qv12] at wv12
            have pv12 : v12 = zv h 3 (((yC h) 170 l).toNat) ∧ ((((yC h) 170 l).toNat : Nat) : Int) < fld h 3 2 := ⟨by rw [ev12, P_y.1]; exact wv12.2.2, wv12.2.1⟩
            refine zwW_get (kd := 4) (bn := 1) (t := 2) (n := 19) (nx := 53) (by decide +kernel) Gv12.2.1 rfl ?_
            obtain ⟨v13, ev13⟩ : ∃ z, z = fld h v12 1 := ⟨_, rfl⟩
            rw [← ev13]
            have Gv13 : gV h v13 := by rw [ev13]; exact Gv12.2.2
            have lv13 := Gv13.1
            have qv13 : yC h 79 (((yC h) 170 l).toNat) = (yC h) 79 (((yC h) 170 l).toNat) := Eq.trans (congrFun (congrFun (rfl : yC h = yC h) 79) (((yC h) 170 l).toNat)) rfl
            have wv13 := J.r (a := 79) (A := 3) (j := 1) (B := 2) (i := ((yC h) 170 l).toNat) rfl pv12.2
            rw [qv13] at wv13
            have pv13 : v13 = zv h 2 (((yC h) 79 (((yC h) 170 l).toNat)).toNat) ∧ ((((yC h) 79 (((yC h) 170 l).toNat)).toNat : Nat) : Int) < fld h 2 2 := ⟨by rw [ev13, pv12.1]; exact wv13.2.2, wv13.2.1⟩
            refine zwW_p [(1, 1, 2)] (q := 54) (ls' := [(2, 1), (2, r), (2, y), (0, a)]) (st' := [(2, r), (2, v13), (2, 1)]) (by decide +kernel) rfl ?_
            refine zwW_get (kd := 4) (bn := 1) (t := 2) (n := 19) (nx := 57) (by decide +kernel) G_r.2.1 rfl ?_
            obtain ⟨v14, ev14⟩ : ∃ z, z = fld h r 1 := ⟨_, rfl⟩
            rw [← ev14]
            have Gv14 : gV h v14 := by rw [ev14]; exact G_r.2.2
            have lv14 := Gv14.1
            have qv14 : yC h 79 k = (yC h) 79 k := Eq.trans (congrFun (congrFun (rfl : yC h = yC h) 79) k) rfl
            have wv14 := J.r (a := 79) (A := 3) (j := 1) (B := 2) (i := k) rfl P_r.2
            rw [qv14] at wv14
            have pv14 : v14 = zv h 2 (((yC h) 79 k).toNat) ∧ ((((yC h) 79 k).toNat : Nat) : Int) < fld h 2 2 := ⟨by rw [ev14, P_r.1]; exact wv14.2.2, wv14.2.1⟩
            refine zwW_cm C.1 (op := 60) (k' := 105) (n := 2) (kd := 12) (m := 13) (nx := 60) (r := 1) (tl := [(2, v13), (2, v14)]) (st' := []) (by decide +kernel) rfl (by decide +kernel) rfl (x105_z h C v13 v14 Gv13 Gv14 J (((yC h) 79 (((yC h) 170 l).toNat)).toNat) pv13 (((yC h) 79 k).toNat) pv14 PF8) ?_
            rintro v15 _ ⟨rfl, f16, f17, f18⟩
            have sv15 : v15 = yFarq (yC h) (((yC h) 79 (((yC h) 170 l).toNat)).toNat) (((yC h) 79 k).toNat) := by rw [f18]
            refine zwW_p [(0, -1, 0)] (q := 61) (ls' := [(2, 1), (2, r), (2, y), (0, a)]) (st' := [(0, -1), (0, v15)]) (by decide +kernel) rfl ?_
            refine zwic_ne (q := 66) (nx := 64) (by decide +kernel) (fun c19 => ?_) (fun c19 => ?_)
            · refine zwW_p [(1, 0, 2), (0, 3, 0), (1, 1, 2), (1, 2, 2), (1, 3, 0)] (q := 71) (ls' := [(2, 1), (2, r), (2, y), (0, a)]) (st' := [(0, a), (2, y), (2, r), (0, 3), (2, 1)]) (by decide +kernel) rfl ?_
              refine zwW_cm C.1 (op := 60) (k' := 134) (n := 4) (kd := 12) (m := 13) (nx := 74) (r := 1) (tl := [(0, 3), (2, r), (2, y), (0, a)]) (st' := []) (by decide +kernel) rfl (by decide +kernel) rfl (x134_h h C 3 r y a q (by omega) G_r G_y (by omega) J k P_r l P_y V ok PF8 (by first | decide | exact ⟨by decide, by decide⟩) pb) ?_
              rintro v24 h25 ⟨Ch25, Qh25, f20, f21, f22, f23⟩
              have sv24 : v24 = yWask q (yC h) 3 k l a := by rw [f22]
              have Zh25 : yC h25 = (yC h) := (yC_fr C Qh25 (by decide +kernel) (C.1.b (a1 := 37) (a2 := 37) (j1 := 86) (j2 := 87) (lo := 0) (hi := 6) (by decide +kernel) (r := 37) (j := 86) (by decide) (by decide) (by decide) (by decide)).2).trans (rfl : yC h = yC h)
              have Xh25 : zXR msx207_h (0) (0) h h25 := X.tr (c2 := 0) (s2 := 0) Qh25 (by decide +kernel) (by decide) (by decide)
              have Gh25_0 : gH h25 r := G_r.x Qh25
              have Gh25_1 : gL h25 y := G_y.x Qh25
              have pr_h25 : r = zv h25 3 k ∧ ((k : Nat) : Int) < fld h25 3 2 := zpv C Qh25 (A := 3) (by decide) (by decide +kernel) P_r
              have py_h25 : y = zv h25 4 l ∧ ((l : Nat) : Int) < fld h25 4 2 := zpv C Qh25 (A := 4) (by decide) (by decide +kernel) P_y
              have Vh25 : zRq q h25 := V.fr C Qh25 (by decide +kernel)
              refine zwif_ne (q := 81) (nx := 77) (by decide +kernel) (fun c26 => ?_) (fun c26 => ?_)
              · refine zwW_p [(0, 0, 0)] (q := 82) (ls' := [(2, 1), (2, r), (2, y), (0, a)]) (st' := [(0, 0)]) (by decide +kernel) rfl ?_
                refine zwW_ret (nx := 83) (a := 0) (b := 0) (by decide +kernel) rfl (Or.inl rfl) ?_
                exact ⟨Ch25, Xh25.le (by decide) (by decide), by omega, by omega, by unfold yLbar; (try unfold yWask at *); (repeat' (first | rw [if_pos (by omega)] | rw [if_neg (by omega)])); all_goals (first | rfl | omega), by exact f23⟩
              · refine zwW_p [(0, 5, 0), (24, 82, 0)] (q := 82) (ls' := [(2, 1), (2, r), (2, y), (0, a)]) (st' := [(0, 5)]) (by decide +kernel) rfl ?_
                refine zwW_ret (nx := 83) (a := 0) (b := 0) (by decide +kernel) rfl (Or.inl rfl) ?_
                exact ⟨Ch25, Xh25.le (by decide) (by decide), by omega, by omega, by unfold yLbar; (try unfold yWask at *); (repeat' (first | rw [if_pos (by omega)] | rw [if_neg (by omega)])); all_goals (first | rfl | omega), by exact f23⟩
            · refine zwW_p [(0, 4, 0)] (q := 65) (ls' := [(2, 1), (2, r), (2, y), (0, a)]) (st' := [(0, 4)]) (by decide +kernel) rfl ?_
              refine zwW_ret (nx := 66) (a := 0) (b := 0) (by decide +kernel) rfl (Or.inl rfl) ?_
              exact ⟨C, X.le (by decide) (by decide), by omega, by omega, by unfold yLbar; (try unfold yWask at *); (repeat' (first | rw [if_pos (by omega)] | rw [if_neg (by omega)])); all_goals (first | rfl | omega), by exact J⟩
          · refine zwW_p [(0, 3, 0)] (q := 44) (ls' := [(2, 1), (2, r), (2, y), (0, a)]) (st' := [(0, 3)]) (by decide +kernel) rfl ?_
            refine zwW_ret (nx := 45) (a := 0) (b := 0) (by decide +kernel) rfl (Or.inl rfl) ?_
            exact ⟨C, X.le (by decide) (by decide), by omega, by omega, by unfold yLbar; (try unfold yWask at *); (repeat' (first | rw [if_pos (by omega)] | rw [if_neg (by omega)])); all_goals (first | rfl | omega), by exact J⟩
        · exfalso; omega
    · exfalso; omega
  · refine zwif_ne (q := 9) (nx := 7) (by decide +kernel) (fun c27 => ?_) (fun c27 => ?_)
    · exfalso; omega
    · refine zwW_p [(0, 1, 0)] (q := 8) (ls' := [(2, 1), (2, r), (2, y), (0, a)]) (st' := [(0, 1)]) (by decide +kernel) rfl ?_
      refine zwW_ret (nx := 9) (a := 0) (b := 0) (by decide +kernel) rfl (Or.inl rfl) ?_
      exact ⟨C, X.le (by decide) (by decide), by omega, by omega, by unfold yLbar; (try unfold yWask at *); (repeat' (first | rw [if_pos (by omega)] | rw [if_neg (by omega)])); all_goals (first | rfl | omega), by exact J⟩
def msx143_z : Zms := [(19, 19, 2, 3), (19, 19, 3, 4), (21, 21, 0, 3), (24, 24, 0, 6)]
-- WheelLand$Handwork.begin()V
theorem x143_z {sc : List Int} (h : Hp) (C : CI h) (J : yR h) : zwC sc 2 143 [(2, 19)] h (zwRv (fun g => CI g ∧ zXR msx143_z (6) (6000) h g ∧ (fld g 21 2 = 0 ∧ fld g 19 2 = 0 ∧ fld g 19 3 = 0) ∧ (∀ j : Nat, j < 6 → fld g 24 j = 0) ∧ (yR g))) := by
  refine zwC_of (D := 1) 1 (by decide +kernel) rfl (ls := [(2, 19)]) rfl ?_
  have X : zXR msx143_z 0 0 h h := zXR.rf _ _
  have u0 : yC h 37 0 = fld h 1 0 := rfl
  have u1 : yC h 37 1 = fld h 2 2 := rfl
  have u2 : yC h 37 2 = fld h 3 2 := rfl
  have u64 : yC h 37 64 = fld h 4 2 := rfl
  have u78 : yC h 37 78 = fld h 5 2 := rfl
  refine zwW_p [(1, 0, 2)] (q := 1) (ls' := [(2, 19)]) (st' := [(2, 19)]) (by decide +kernel) rfl ?_
  refine zwW_gc C.1 (kd := 3) (bn := 1) (n := 10) (c := 21) (nx := 4) (by decide +kernel) ?_
  refine zwW_cmv C.1 (op := 60) (k' := 141) (n := 0) (kd := 0) (m := 3) (nx := 7) (r := 21) (tl := []) (st' := []) (by decide +kernel) rfl (by decide +kernel) rfl (x141_21 C) ?_
  rintro h2 ⟨Ch2, Qh2, zh2, oh2⟩
  have zh2 : fld h2 21 2 = 0 := zh2
  have Xh2 : zXR msx143_z (6) (6000) h h2 := X.tr (c2 := 6) (s2 := 6000) Qh2 (by decide +kernel) (by decide) (by decide)
  have Zh2 : yC h2 = (yC h) := (yC_fr C Qh2 (by decide +kernel) (C.1.b (a1 := 37) (a2 := 37) (j1 := 86) (j2 := 87) (lo := 0) (hi := 6) (by decide +kernel) (r := 37) (j := 86) (by decide) (by decide) (by decide) (by decide)).2).trans (rfl : yC h = yC h)
  have Jh2 : yR h2 := J.fr C Qh2 (by decide +kernel)
  have th2_19_2 : fld h2 19 2 = fld h 19 2 := Qh2.f (a1 := 19) (a2 := 19) (j1 := 2) (j2 := 3) (by decide +kernel) (by first | decide | exact ⟨by decide, by decide⟩) (by first | decide | exact ⟨by decide, by decide⟩) (by first | decide | exact ⟨by decide, by decide⟩)
  have th2_19_3 : fld h2 19 3 = fld h 19 3 := Qh2.f (a1 := 19) (a2 := 19) (j1 := 3) (j2 := 4) (by decide +kernel) (by first | decide | exact ⟨by decide, by decide⟩) (by first | decide | exact ⟨by decide, by decide⟩) (by first | decide | exact ⟨by decide, by decide⟩)
  refine zwW_p [(1, 0, 2), (0, 0, 0)] (q := 9) (ls' := [(2, 19)]) (st' := [(0, 0), (2, 19)]) (by decide +kernel) rfl ?_
  refine zwW_ps Ch2.1 (kd := 3) (bn := 2) (n := 10) (lo := -2147483648) (hi := 2147483647) (nx := 12) (by decide +kernel) (by first | decide | exact ⟨by decide, by decide⟩) ?_
  intro h3 eh3 Ih3
  have Ch3 : CI h3 := Ch2.wc eh3 Ih3 (by decide) (by decide)
  have Qh3 : zXR [(19, 19, 2, 3)] 0 0 h2 h3 := zXR.wc eh3 rfl ⟨by decide, by decide, Or.inl (by decide)⟩ (by first | decide | exact ⟨by decide, by decide⟩)
  have Xh3 : zXR msx143_z (6) (6000) h h3 := Xh2.tr (c2 := 6) (s2 := 6000) Qh3 (by decide +kernel) (by decide) (by decide)
  have Zh3 : yC h3 = (yC h) := (yC_fr Ch2 Qh3 (by decide +kernel) (Ch2.1.b (a1 := 37) (a2 := 37) (j1 := 86) (j2 := 87) (lo := 0) (hi := 6) (by decide +kernel) (r := 37) (j := 86) (by decide) (by decide) (by decide) (by decide)).2).trans Zh2
  have Jh3 : yR h3 := Jh2.fr Ch2 Qh3 (by decide +kernel)
  have th3_21_2 : fld h3 21 2 = fld h2 21 2 := Qh3.f (a1 := 21) (a2 := 21) (j1 := 2) (j2 := 3) (by decide +kernel) (by first | decide | exact ⟨by decide, by decide⟩) (by first | decide | exact ⟨by decide, by decide⟩) (by first | decide | exact ⟨by decide, by decide⟩)
  have th3_19_3 : fld h3 19 3 = fld h2 19 3 := Qh3.f (a1 := 19) (a2 := 19) (j1 := 3) (j2 := 4) (by decide +kernel) (by first | decide | exact ⟨by decide, by decide⟩) (by first | decide | exact ⟨by decide, by decide⟩) (by first | decide | exact ⟨by decide, by decide⟩)
  have th3_19_2 : fld h3 19 2 = 0 := by rw [eh3]; exact fld_wr_eq (Ch2.1.s (a1 := 19) (a2 := 19) (k := 3) (n := 10) (by decide +kernel) (by decide) (by decide)) (by decide)
  refine zwW_p [(1, 0, 2), (0, 0, 0)] (q := 14) (ls' := [(2, 19)]) (st' := [(0, 0), (2, 19)]) (by decide +kernel) rfl ?_
  refine zwW_ps Ch3.1 (kd := 3) (bn := 3) (n := 10) (lo := -2147483648) (hi := 2147483647) (nx := 17) (by decide +kernel) (by first | decide | exact ⟨by decide, by decide⟩) ?_
  intro h4 eh4 Ih4
  have Ch4 : CI h4 := Ch3.wc eh4 Ih4 (by decide) (by decide)
  have Qh4 : zXR [(19, 19, 3, 4)] 0 0 h3 h4 := zXR.wc eh4 rfl ⟨by decide, by decide, Or.inl (by decide)⟩ (by first | decide | exact ⟨by decide, by decide⟩)
  have Xh4 : zXR msx143_z (6) (6000) h h4 := Xh3.tr (c2 := 6) (s2 := 6000) Qh4 (by decide +kernel) (by decide) (by decide)
  have Zh4 : yC h4 = (yC h) := (yC_fr Ch3 Qh4 (by decide +kernel) (Ch3.1.b (a1 := 37) (a2 := 37) (j1 := 86) (j2 := 87) (lo := 0) (hi := 6) (by decide +kernel) (r := 37) (j := 86) (by decide) (by decide) (by decide) (by decide)).2).trans Zh3
  have Jh4 : yR h4 := Jh3.fr Ch3 Qh4 (by decide +kernel)
  have th4_21_2 : fld h4 21 2 = fld h3 21 2 := Qh4.f (a1 := 21) (a2 := 21) (j1 := 2) (j2 := 3) (by decide +kernel) (by first | decide | exact ⟨by decide, by decide⟩) (by first | decide | exact ⟨by decide, by decide⟩) (by first | decide | exact ⟨by decide, by decide⟩)
  have th4_19_2 : fld h4 19 2 = fld h3 19 2 := Qh4.f (a1 := 19) (a2 := 19) (j1 := 2) (j2 := 3) (by decide +kernel) (by first | decide | exact ⟨by decide, by decide⟩) (by first | decide | exact ⟨by decide, by decide⟩) (by first | decide | exact ⟨by decide, by decide⟩)
  have th4_19_3 : fld h4 19 3 = 0 := by rw [eh4]; exact fld_wr_eq (Ch3.1.s (a1 := 19) (a2 := 19) (k := 3) (n := 10) (by decide +kernel) (by decide) (by decide)) (by decide)
  refine zwW_p [(1, 0, 2)] (q := 18) (ls' := [(2, 19)]) (st' := [(2, 19)]) (by decide +kernel) rfl ?_
  refine zwW_gc Ch4.1 (kd := 3) (bn := 7) (n := 10) (c := 24) (nx := 21) (by decide +kernel) ?_
  refine zwW_p [(0, 0, 0)] (q := 22) (ls' := [(2, 19)]) (st' := [(0, 0), (2, 24)]) (by decide +kernel) rfl ?_
  refine zwW_csv (k' := 180) (n := 2) (nx := 25) (as := [(2, 24), (0, 0)]) (st' := []) (by decide +kernel) rfl (x180_24 Ch4 (by first | omega | exact ⟨by omega, by omega⟩)) rfl ?_
  rintro h5 ⟨Ch5, Qh5, fh5⟩
  have Xh5 : zXR msx143_z (6) (6000) h h5 := Xh4.tr (c2 := 6) (s2 := 6000) Qh5 (by decide +kernel) (by decide) (by decide)
  have Zh5 : yC h5 = (yC h) := (yC_fr Ch4 Qh5 (by decide +kernel) (Ch4.1.b (a1 := 37) (a2 := 37) (j1 := 86) (j2 := 87) (lo := 0) (hi := 6) (by decide +kernel) (r := 37) (j := 86) (by decide) (by decide) (by decide) (by decide)).2).trans Zh4
  have Jh5 : yR h5 := Jh4.fr Ch4 Qh5 (by decide +kernel)
  have th5_21_2 : fld h5 21 2 = fld h4 21 2 := Qh5.f (a1 := 21) (a2 := 21) (j1 := 2) (j2 := 3) (by decide +kernel) (by first | decide | exact ⟨by decide, by decide⟩) (by first | decide | exact ⟨by decide, by decide⟩) (by first | decide | exact ⟨by decide, by decide⟩)
  have th5_19_2 : fld h5 19 2 = fld h4 19 2 := Qh5.f (a1 := 19) (a2 := 19) (j1 := 2) (j2 := 3) (by decide +kernel) (by first | decide | exact ⟨by decide, by decide⟩) (by first | decide | exact ⟨by decide, by decide⟩) (by first | decide | exact ⟨by decide, by decide⟩)
  have th5_19_3 : fld h5 19 3 = fld h4 19 3 := Qh5.f (a1 := 19) (a2 := 19) (j1 := 3) (j2 := 4) (by decide +kernel) (by first | decide | exact ⟨by decide, by decide⟩) (by first | decide | exact ⟨by decide, by decide⟩) (by first | decide | exact ⟨by decide, by decide⟩)
  refine zwW_retv (nx := 26) (a := 0) (b := 0) (by decide +kernel) ?_
  exact ⟨Ch5, Xh5.le (by decide) (by decide), by omega, by exact fh5, by exact Jh5⟩
def msx144_z : Zms := [(21, 21, 0, 3)]
-- WheelLand$Handwork.addLoom(LWheelLand$House;)V
theorem x144_z {sc : List Int} (h : Hp) (C : CI h) (r : Int) (m : Nat) (hh : Nat → Nat) (G_r : gH h r) (J : yR h) (k : Nat) (P_r : r = zv h 3 k ∧ (k : Int) < fld h 3 2) (XL : xLm m hh h) (pm : m < 6) (hl : h.length ≤ 999930000) : zwC sc 7 144 [(2, 19), (2, r)] h (zwRv (fun g => CI g ∧ zXR msx144_z (0) (0) h g ∧ (xLm (m + 1) (fun i => if i = m then k else hh i) g) ∧ (yR g))) := by
  refine zwC_of (D := 6) 2 (by decide +kernel) rfl (ls := [(2, 19), (2, r)]) rfl ?_
  have lw_r := G_r.1
  have X : zXR msx144_z 0 0 h h := zXR.rf _ _
  have u0 : yC h 37 0 = fld h 1 0 := rfl
  have u1 : yC h 37 1 = fld h 2 2 := rfl
  have u2 : yC h 37 2 = fld h 3 2 := rfl
  have u64 : yC h 37 64 = fld h 4 2 := rfl
  have u78 : yC h 37 78 = fld h 5 2 := rfl
  have XL1 := XL.1
  refine zwW_p [(1, 0, 2)] (q := 1) (ls' := [(2, 19), (2, r)]) (st' := [(2, 19)]) (by decide +kernel) rfl ?_
  refine zwW_gc C.1 (kd := 3) (bn := 1) (n := 10) (c := 21) (nx := 4) (by decide +kernel) ?_
  refine zwW_cm C.1 (op := 60) (k' := 96) (n := 0) (kd := 0) (m := 3) (nx := 7) (r := 21) (tl := []) (st' := []) (by decide +kernel) rfl (by decide +kernel) rfl (x96_21 C) ?_
  rintro v1 _ ⟨rfl, ev1⟩
  have bv1 := zLb_21 C
  refine zwW_p [(0, 6, 0)] (q := 9) (ls' := [(2, 19), (2, r)]) (st' := [(0, 6), (0, v1)]) (by decide +kernel) rfl ?_
  refine zwic_ge (q := 21) (nx := 12) (by decide +kernel) (fun c2 => ?_) (fun c2 => ?_)
  · exfalso; omega
  · refine zwW_p [(1, 0, 2)] (q := 13) (ls' := [(2, 19), (2, r)]) (st' := [(2, 19)]) (by decide +kernel) rfl ?_
    refine zwW_gc C.1 (kd := 3) (bn := 1) (n := 10) (c := 21) (nx := 16) (by decide +kernel) ?_
    refine zwW_p [(1, 1, 2)] (q := 17) (ls' := [(2, 19), (2, r)]) (st' := [(2, r), (2, 21)]) (by decide +kernel) rfl ?_
    refine zwW_cm C.1 (op := 60) (k' := 100) (n := 1) (kd := 0) (m := 3) (nx := 20) (r := 21) (tl := [(2, r)]) (st' := []) (by decide +kernel) rfl (by decide +kernel) rfl (x100_21 C G_r (by omega) (by omega)) ?_
    rintro x h4 ⟨rfl, Ah4⟩
    have Ch4 := Ah4.1
    have Qh4 : zXR [(21, 21, 0, 3)] (0) (0) h h4 := Ah4.2.1
    have zh4 : fld h4 21 2 = fld h 21 2 + 1 := Ah4.2.2.1
    have Xh4 : zXR msx144_z (0) (0) h h4 := X.tr (c2 := 0) (s2 := 0) Qh4 (by decide +kernel) (by decide) (by decide)
    have Gh4_0 : gH h4 r := G_r.x Qh4
    have Zh4 : yC h4 = (yC h) := (yC_fr C Qh4 (by decide +kernel) (C.1.b (a1 := 37) (a2 := 37) (j1 := 86) (j2 := 87) (lo := 0) (hi := 6) (by decide +kernel) (r := 37) (j := 86) (by decide) (by decide) (by decide) (by decide)).2).trans (rfl : yC h = yC h)
    have Jh4 : yR h4 := J.fr C Qh4 (by decide +kernel)
    have pr_h4 : r = zv h4 3 k ∧ ((k : Nat) : Int) < fld h4 3 2 := zpv C Qh4 (A := 3) (by decide) (by decide +kernel) P_r
    have N20 : xLm (m + 1) (fun i => if i = m then k else hh i) h4 := XL.add C Ah4 P_r
    refine zwW_p [(15, 0, 0)] (q := 21) (ls' := [(2, 19), (2, r)]) (st' := []) (by decide +kernel) rfl ?_
    refine zwW_retv (nx := 22) (a := 0) (b := 0) (by decide +kernel) ?_
    exact ⟨Ch4, Xh4.le (by decide) (by decide), by exact N20, by exact Jh4⟩
def msx211_z : Zms := [(19, 19, 2, 3), (19, 19, 3, 4), (22, 22, 0, 6), (23, 23, 0, 6)]
-- WheelLand$Handwork.offer(IIII)V
theorem x211_z {sc : List Int} (h : Hp) (C : CI h) (a b c d : Int) (q_a : -2147483648 ≤ a ∧ a ≤ 2147483647) (q_b : -2147483648 ≤ b ∧ b ≤ 2147483647) (q_c : -2147483648 ≤ c ∧ c ≤ 2147483647) (q_d : -2147483648 ≤ d ∧ d ≤ 2147483647) (J : yR h) (pa : 0 ≤ a ∧ a ≤ 5) (pb : 0 ≤ b ∧ b ≤ 4000) (pc : -1 ≤ c ∧ c ≤ 999999) (p2 : 0 ≤ fld h 19 2 ∧ fld h 19 2 ≤ 24000) (p3 : 0 ≤ fld h 19 3 ∧ fld h 19 3 ≤ 6000000) : zwC sc 1 211 [(2, 19), (0, a), (0, b), (0, c), (0, d)] h (zwRv (fun g => CI g ∧ zXR msx211_z (0) (0) h g ∧ (fld g 22 = zu (fld h 22) a.toNat b) ∧ (fld g 23 = zu (fld h 23) a.toNat d) ∧ (d = 0 → fld g 19 2 = fld h 19 2 ∧ fld g 19 3 = fld h 19 3) ∧ (d ≠ 0 → fld g 19 2 = fld h 19 2 + b ∧ fld g 19 3 = fld h 19 3 + c) ∧ (yR g))) := by
  refine zwC_of (D := 0) 5 (by decide +kernel) rfl (ls := [(2, 19), (0, a), (0, b), (0, c), (0, d)]) rfl ?_
  have X : zXR msx211_z 0 0 h h := zXR.rf _ _
  have u0 : yC h 37 0 = fld h 1 0 := rfl
  have u1 : yC h 37 1 = fld h 2 2 := rfl
  have u2 : yC h 37 2 = fld h 3 2 := rfl
  have u64 : yC h 37 64 = fld h 4 2 := rfl
  have u78 : yC h 37 78 = fld h 5 2 := rfl
  refine zwW_p [(1, 1, 0)] (q := 1) (ls' := [(2, 19), (0, a), (0, b), (0, c), (0, d)]) (st' := [(0, a)]) (by decide +kernel) rfl ?_
  refine zwif_lt (q := 50) (nx := 4) (by decide +kernel) (fun c1 => ?_) (fun c1 => ?_)
  · exfalso; omega
  · refine zwW_p [(1, 1, 0), (0, 6, 0)] (q := 7) (ls' := [(2, 19), (0, a), (0, b), (0, c), (0, d)]) (st' := [(0, 6), (0, a)]) (by decide +kernel) rfl ?_
    refine zwic_ge (q := 50) (nx := 10) (by decide +kernel) (fun c2 => ?_) (fun c2 => ?_)
    · exfalso; omega
    · refine zwW_p [(1, 0, 2)] (q := 11) (ls' := [(2, 19), (0, a), (0, b), (0, c), (0, d)]) (st' := [(2, 19)]) (by decide +kernel) rfl ?_
      refine zwW_gc C.1 (kd := 3) (bn := 5) (n := 10) (c := 22) (nx := 14) (by decide +kernel) ?_
      refine zwW_p [(1, 1, 0), (1, 2, 0)] (q := 16) (ls' := [(2, 19), (0, a), (0, b), (0, c), (0, d)]) (st' := [(0, b), (0, a), (2, 22)]) (by decide +kernel) rfl ?_
      have ib1 : 0 ≤ a ∧ a < ((6 : Nat) : Int) := (by first | omega | exact ⟨by omega, by omega⟩)
      refine zwW_as C.1 (a1 := 22) (a2 := 22) (n := 6) (lo := -2147483648) (hi := 2147483647) (nx := 17) (by decide +kernel) (by first | decide | exact ⟨by decide, by decide⟩) ib1 (by first | omega | exact ⟨by omega, by omega⟩) ?_
      intro h3 eh3 Ih3
      have Ch3 : CI h3 := C.wc eh3 Ih3 (by decide) (by decide)
      have Qh3 : zXR [(22, 22, 0, 6)] 0 0 h h3 := zXR.wc eh3 rfl ⟨by decide, by decide, Or.inl (by decide)⟩ (by first | omega | exact ⟨by omega, by omega⟩)
      have kh3_22 : fld h3 22 = (zu (fld h 22) a.toNat b) := by rw [fld_zu (C.1.s (a1 := 22) (a2 := 22) (k := 20) (n := 6) (by decide +kernel) (by decide) (by decide)) (by omega) eh3]
      have Xh3 : zXR msx211_z (0) (0) h h3 := X.tr (c2 := 0) (s2 := 0) Qh3 (by decide +kernel) (by decide) (by decide)
      have kh3_23 : fld h3 23 = (fld h 23) := (Qh3.fa (a := 23) (by decide +kernel) (by decide)).trans (rfl : fld h 23 = fld h 23)
      have Zh3 : yC h3 = (yC h) := (yC_fr C Qh3 (by decide +kernel) (C.1.b (a1 := 37) (a2 := 37) (j1 := 86) (j2 := 87) (lo := 0) (hi := 6) (by decide +kernel) (r := 37) (j := 86) (by decide) (by decide) (by decide) (by decide)).2).trans (rfl : yC h = yC h)
      have Jh3 : yR h3 := J.fr C Qh3 (by decide +kernel)
      have th3_19_2 : fld h3 19 2 = fld h 19 2 := Qh3.f (a1 := 19) (a2 := 19) (j1 := 2) (j2 := 3) (by decide +kernel) (by first | decide | exact ⟨by decide, by decide⟩) (by first | decide | exact ⟨by decide, by decide⟩) (by first | decide | exact ⟨by decide, by decide⟩)
      have th3_19_3 : fld h3 19 3 = fld h 19 3 := Qh3.f (a1 := 19) (a2 := 19) (j1 := 3) (j2 := 4) (by decide +kernel) (by first | decide | exact ⟨by decide, by decide⟩) (by first | decide | exact ⟨by decide, by decide⟩) (by first | decide | exact ⟨by decide, by decide⟩)
      refine zwW_p [(1, 0, 2)] (q := 18) (ls' := [(2, 19), (0, a), (0, b), (0, c), (0, d)]) (st' := [(2, 19)]) (by decide +kernel) rfl ?_
      refine zwW_gc Ch3.1 (kd := 3) (bn := 6) (n := 10) (c := 23) (nx := 21) (by decide +kernel) ?_
      refine zwW_p [(1, 1, 0), (1, 4, 0)] (q := 24) (ls' := [(2, 19), (0, a), (0, b), (0, c), (0, d)]) (st' := [(0, d), (0, a), (2, 23)]) (by decide +kernel) rfl ?_
      refine zwW_as Ch3.1 (a1 := 23) (a2 := 23) (n := 6) (lo := -2147483648) (hi := 2147483647) (nx := 25) (by decide +kernel) (by first | decide | exact ⟨by decide, by decide⟩) ib1 (by first | omega | exact ⟨by omega, by omega⟩) ?_
      intro h4 eh4 Ih4
      have Ch4 : CI h4 := Ch3.wc eh4 Ih4 (by decide) (by decide)
      have Qh4 : zXR [(23, 23, 0, 6)] 0 0 h3 h4 := zXR.wc eh4 rfl ⟨by decide, by decide, Or.inl (by decide)⟩ (by first | omega | exact ⟨by omega, by omega⟩)
      have kh4_23 : fld h4 23 = (zu (fld h 23) a.toNat d) := by rw [fld_zu (Ch3.1.s (a1 := 23) (a2 := 23) (k := 20) (n := 6) (by decide +kernel) (by decide) (by decide)) (by omega) eh4, kh3_23]
      have Xh4 : zXR msx211_z (0) (0) h h4 := Xh3.tr (c2 := 0) (s2 := 0) Qh4 (by decide +kernel) (by decide) (by decide)
      have kh4_22 : fld h4 22 = (zu (fld h 22) a.toNat b) := (Qh4.fa (a := 22) (by decide +kernel) (by decide)).trans kh3_22
      have Zh4 : yC h4 = (yC h) := (yC_fr Ch3 Qh4 (by decide +kernel) (Ch3.1.b (a1 := 37) (a2 := 37) (j1 := 86) (j2 := 87) (lo := 0) (hi := 6) (by decide +kernel) (r := 37) (j := 86) (by decide) (by decide) (by decide) (by decide)).2).trans Zh3
      have Jh4 : yR h4 := Jh3.fr Ch3 Qh4 (by decide +kernel)
      have th4_19_2 : fld h4 19 2 = fld h3 19 2 := Qh4.f (a1 := 19) (a2 := 19) (j1 := 2) (j2 := 3) (by decide +kernel) (by first | decide | exact ⟨by decide, by decide⟩) (by first | decide | exact ⟨by decide, by decide⟩) (by first | decide | exact ⟨by decide, by decide⟩)
      have th4_19_3 : fld h4 19 3 = fld h3 19 3 := Qh4.f (a1 := 19) (a2 := 19) (j1 := 3) (j2 := 4) (by decide +kernel) (by first | decide | exact ⟨by decide, by decide⟩) (by first | decide | exact ⟨by decide, by decide⟩) (by first | decide | exact ⟨by decide, by decide⟩)
      refine zwW_p [(1, 4, 0)] (q := 27) (ls' := [(2, 19), (0, a), (0, b), (0, c), (0, d)]) (st' := [(0, d)]) (by decide +kernel) rfl ?_
      refine zwif_eq (q := 50) (nx := 30) (by decide +kernel) (fun c5 => ?_) (fun c5 => ?_)
      · refine zwW_retv (nx := 51) (a := 0) (b := 0) (by decide +kernel) ?_
        exact ⟨Ch4, Xh4.le (by decide) (by decide), by exact kh4_22, by exact kh4_23, by first | (intro z; omega) | (intro _; exact (by first | omega | exact ⟨by omega, by omega⟩)), by first | (intro z; omega) | (intro _; exact (by first | omega | exact ⟨by omega, by omega⟩)), by exact Jh4⟩
      · refine zwW_p [(1, 0, 2), (12, 0, 0)] (q := 32) (ls' := [(2, 19), (0, a), (0, b), (0, c), (0, d)]) (st' := [(2, 19), (2, 19)]) (by decide +kernel) rfl ?_
        refine zwW_gs Ch4.1 (kd := 3) (bn := 2) (n := 10) (t := 0) (lo := -2147483648) (hi := 2147483647) (nx := 35) (by decide +kernel) ?_
        intro v6 ev6 lv6 uv6
        refine zwW_p [(1, 2, 0)] (q := 36) (ls' := [(2, 19), (0, a), (0, b), (0, c), (0, d)]) (st' := [(0, b), (0, v6), (2, 19)]) (by decide +kernel) rfl ?_
        refine zwW_add (nx := 37) (by decide +kernel) (by first | omega | exact ⟨by omega, by omega⟩) ?_
        refine zwW_ps Ch4.1 (kd := 3) (bn := 2) (n := 10) (lo := -2147483648) (hi := 2147483647) (nx := 40) (by decide +kernel) (by first | omega | exact ⟨by omega, by omega⟩) ?_
        intro h7 eh7 Ih7
        have Ch7 : CI h7 := Ch4.wc eh7 Ih7 (by decide) (by decide)
        have Qh7 : zXR [(19, 19, 2, 3)] 0 0 h4 h7 := zXR.wc eh7 rfl ⟨by decide, by decide, Or.inl (by decide)⟩ (by first | decide | exact ⟨by decide, by decide⟩)
        have Xh7 : zXR msx211_z (0) (0) h h7 := Xh4.tr (c2 := 0) (s2 := 0) Qh7 (by decide +kernel) (by decide) (by decide)
        have kh7_22 : fld h7 22 = (zu (fld h 22) a.toNat b) := (Qh7.fa (a := 22) (by decide +kernel) (by decide)).trans kh4_22
        have kh7_23 : fld h7 23 = (zu (fld h 23) a.toNat d) := (Qh7.fa (a := 23) (by decide +kernel) (by decide)).trans kh4_23
        have Zh7 : yC h7 = (yC h) := (yC_fr Ch4 Qh7 (by decide +kernel) (Ch4.1.b (a1 := 37) (a2 := 37) (j1 := 86) (j2 := 87) (lo := 0) (hi := 6) (by decide +kernel) (r := 37) (j := 86) (by decide) (by decide) (by decide) (by decide)).2).trans Zh4
        have Jh7 : yR h7 := Jh4.fr Ch4 Qh7 (by decide +kernel)
        have th7_19_3 : fld h7 19 3 = fld h4 19 3 := Qh7.f (a1 := 19) (a2 := 19) (j1 := 3) (j2 := 4) (by decide +kernel) (by first | decide | exact ⟨by decide, by decide⟩) (by first | decide | exact ⟨by decide, by decide⟩) (by first | decide | exact ⟨by decide, by decide⟩)
        have th7_19_2 : fld h7 19 2 = (v6 + b) := by rw [eh7]; exact fld_wr_eq (Ch4.1.s (a1 := 19) (a2 := 19) (k := 3) (n := 10) (by decide +kernel) (by decide) (by decide)) (by decide)
        refine zwW_p [(1, 0, 2), (12, 0, 0)] (q := 42) (ls' := [(2, 19), (0, a), (0, b), (0, c), (0, d)]) (st' := [(2, 19), (2, 19)]) (by decide +kernel) rfl ?_
        refine zwW_gs Ch7.1 (kd := 3) (bn := 3) (n := 10) (t := 0) (lo := -2147483648) (hi := 2147483647) (nx := 45) (by decide +kernel) ?_
        intro v8 ev8 lv8 uv8
        refine zwW_p [(1, 3, 0)] (q := 46) (ls' := [(2, 19), (0, a), (0, b), (0, c), (0, d)]) (st' := [(0, c), (0, v8), (2, 19)]) (by decide +kernel) rfl ?_
        refine zwW_add (nx := 47) (by decide +kernel) (by first | omega | exact ⟨by omega, by omega⟩) ?_
        refine zwW_ps Ch7.1 (kd := 3) (bn := 3) (n := 10) (lo := -2147483648) (hi := 2147483647) (nx := 50) (by decide +kernel) (by first | omega | exact ⟨by omega, by omega⟩) ?_
        intro h9 eh9 Ih9
        have Ch9 : CI h9 := Ch7.wc eh9 Ih9 (by decide) (by decide)
        have Qh9 : zXR [(19, 19, 3, 4)] 0 0 h7 h9 := zXR.wc eh9 rfl ⟨by decide, by decide, Or.inl (by decide)⟩ (by first | decide | exact ⟨by decide, by decide⟩)
        have Xh9 : zXR msx211_z (0) (0) h h9 := Xh7.tr (c2 := 0) (s2 := 0) Qh9 (by decide +kernel) (by decide) (by decide)
        have kh9_22 : fld h9 22 = (zu (fld h 22) a.toNat b) := (Qh9.fa (a := 22) (by decide +kernel) (by decide)).trans kh7_22
        have kh9_23 : fld h9 23 = (zu (fld h 23) a.toNat d) := (Qh9.fa (a := 23) (by decide +kernel) (by decide)).trans kh7_23
        have Zh9 : yC h9 = (yC h) := (yC_fr Ch7 Qh9 (by decide +kernel) (Ch7.1.b (a1 := 37) (a2 := 37) (j1 := 86) (j2 := 87) (lo := 0) (hi := 6) (by decide +kernel) (r := 37) (j := 86) (by decide) (by decide) (by decide) (by decide)).2).trans Zh7
        have Jh9 : yR h9 := Jh7.fr Ch7 Qh9 (by decide +kernel)
        have th9_19_2 : fld h9 19 2 = fld h7 19 2 := Qh9.f (a1 := 19) (a2 := 19) (j1 := 2) (j2 := 3) (by decide +kernel) (by first | decide | exact ⟨by decide, by decide⟩) (by first | decide | exact ⟨by decide, by decide⟩) (by first | decide | exact ⟨by decide, by decide⟩)
        have th9_19_3 : fld h9 19 3 = (v8 + c) := by rw [eh9]; exact fld_wr_eq (Ch7.1.s (a1 := 19) (a2 := 19) (k := 3) (n := 10) (by decide +kernel) (by decide) (by decide)) (by decide)
        refine zwW_retv (nx := 51) (a := 0) (b := 0) (by decide +kernel) ?_
        exact ⟨Ch9, Xh9.le (by decide) (by decide), by exact kh9_22, by exact kh9_23, by first | (intro z; omega) | (intro _; exact (by first | omega | exact ⟨by omega, by omega⟩)), by first | (intro z; omega) | (intro _; exact (by first | omega | exact ⟨by omega, by omega⟩)), by exact Jh9⟩
def msx145_z : Zms := [(17, 17, 0, 13), (18, 18, 0, 400), (19, 19, 2, 3), (19, 19, 3, 4), (22, 22, 0, 6), (23, 23, 0, 6)]
-- WheelLand.offerLot(ILWheelLand$Lot;)V
theorem x145_z {sc : List Int} (h : Hp) (C : CI h) (a r : Int) (q : qT) (bt : Int) (n : Nat) (q_a : -2147483648 ≤ a ∧ a ≤ 2147483647) (G_r : gL h r) (J : yR h) (l : Nat) (P_r : r = zv h 4 l ∧ (l : Int) < fld h 4 2) (V : zRq q h) (ok : yOK (yC h)) (PF8 : yF8 (yC h)) (LF : yLf (yC h)) (HA : yHa (yC h)) (hb : yHm (yC h) bt ≤ 6) (pa : a = (n : Int) ∧ (n : Int) < yC h 37 86) (pl : l = yHl (yC h) n) (XL : xLm (yHm (yC h) bt) (yHh (yC h) bt) h) (HO : xHo (yHd q (yC h) bt) n h) : zwC sc 6 145 [(2, 1), (0, a), (2, r)] h (zwRv (fun g => CI g ∧ zXR msx145_z (0) (0) h g ∧ (zRq q g) ∧ (xHo (yHd q (yC h) bt) (n + 1) g) ∧ (yR g))) := by
  refine zwC_of (D := 5) 9 (by decide +kernel) rfl (ls := [(2, 1), (0, a), (2, r), (9, 0), (9, 0), (9, 0), (9, 0), (9, 0), (9, 0)]) rfl ?_
  have lw_r := G_r.1
  have X : zXR msx145_z 0 0 h h := zXR.rf _ _
  have u0 : yC h 37 0 = fld h 1 0 := rfl
  have u1 : yC h 37 1 = fld h 2 2 := rfl
  have u2 : yC h 37 2 = fld h 3 2 := rfl
  have u64 : yC h 37 64 = fld h 4 2 := rfl
  have u86 : yC h 37 86 = fld h 20 2 := rfl
  have b33 := zLb_3 C
  have b44 := zLb_4 C
  have HA1 := HA.1
  have BD := yHd_ok (q := q) ok PF8 LF HA hb
  have LB := LF l (by have := P_r.2; omega)
  have NN := yHN_b LF HA (k := n) pa.2
  have XL1 := XL.1
  have HM0 : hm (yHd q (yC h) bt) = yHm (yC h) bt := rfl
  have HN0 : hn (yHd q (yC h) bt) = (yC h 37 86).toNat := rfl
  have HO2 := HO.2
  have AB := hAB (hB_ch BD) BD n (by omega)
  refine zwW_p [(1, 2, 2)] (q := 1) (ls' := [(2, 1), (0, a), (2, r), (9, 0), (9, 0), (9, 0), (9, 0), (9, 0), (9, 0)]) (st' := [(2, r)]) (by decide +kernel) rfl ?_
  refine zwX_gi C (kd := 6) (bn := 6) (n := 7) (nx := 4) (by decide +kernel) G_r.2.1 G_r.1 rfl ?_
  intro v1 ev1 lv1 uv1
  have sv1 : v1 = (yC h) 175 l := Eq.trans ev1 (Eq.trans (congrArg (fun q => fld h q 6) P_r.1) (Eq.trans (Eq.symm (yC_f (h := h) (a := 175) (A := 4) (j := 6) (i := l) rfl P_r.2)) (Eq.trans (congrFun (congrFun (rfl : yC h = yC h) 175) l) rfl)))
  refine zwW_p [(1, 2, 2)] (q := 5) (ls' := [(2, 1), (0, a), (2, r), (9, 0), (9, 0), (9, 0), (9, 0), (9, 0), (9, 0)]) (st' := [(2, r), (0, v1)]) (by decide +kernel) rfl ?_
  refine zwX_gi C (kd := 6) (bn := 6) (n := 7) (nx := 8) (by decide +kernel) G_r.2.1 G_r.1 rfl ?_
  intro v2 ev2 lv2 uv2
  have sv2 : v2 = (yC h) 175 l := Eq.trans ev2 (Eq.trans (congrArg (fun q => fld h q 6) P_r.1) (Eq.trans (Eq.symm (yC_f (h := h) (a := 175) (A := 4) (j := 6) (i := l) rfl P_r.2)) (Eq.trans (congrFun (congrFun (rfl : yC h = yC h) 175) l) rfl)))
  refine zwW_p [(0, 2, 0)] (q := 9) (ls' := [(2, 1), (0, a), (2, r), (9, 0), (9, 0), (9, 0), (9, 0), (9, 0), (9, 0)]) (st' := [(0, 2), (0, v2), (0, v1)]) (by decide +kernel) rfl ?_
  refine zwW_rem (nx := 10) (by decide +kernel) (by omega) (by omega) ?_
  refine zwW_sub (nx := 11) (by decide +kernel) (by first | omega | exact ⟨by omega, by omega⟩) ?_
  refine zwW_p [(2, 3, 0)] (q := 12) (ls' := [(2, 1), (0, a), (2, r), (0, (v1 - (v2 % 2))), (9, 0), (9, 0), (9, 0), (9, 0), (9, 0)]) (st' := []) (by decide +kernel) rfl ?_
  have HNV : (v1 - (v2 % 2)) = yHN (yC h) n := by
    unfold yHN
    rw [← pl, ← sv1]
    omega
  refine zwW_p [(0, -1, 0), (2, 4, 0), (0, 0, 0), (2, 5, 0), (0, 0, 0), (2, 6, 0)] (q := 21) (ls' := [(2, 1), (0, a), (2, r), (0, (v1 - (v2 % 2))), (0, -1), (0, 0), (0, 0), (9, 0), (9, 0)]) (st' := []) (by decide +kernel) rfl ?_
  have L3 : ∀ (n0 : Nat) (fL3 cL3 kL3 : Int) (w7L3 w8L3 : Vl) (hL3 : Hp), n0 = ((1000 - kL3)).toNat → (hOr (yHd q (yC h) bt) n (kL3).toNat = (fL3, cL3)) → (kL3 ≤ yHm (yC h) bt) → (zRq q hL3) → (xLm (yHm (yC h) bt) (yHh (yC h) bt) hL3) → (xHo (yHd q (yC h) bt) n hL3) → (fld hL3 3 2 = fld h 3 2) → (r = zv hL3 4 l ∧ ((l : Nat) : Int) < fld hL3 4 2) → (-1 ≤ fL3 ∧ fL3 ≤ 999999) → (0 ≤ cL3 ∧ cL3 ≤ 63) → (0 ≤ kL3 ∧ kL3 ≤ 6) → (yC hL3 = (yC h)) → (yR hL3) → (gL hL3 r) → CI hL3 → zXR msx145_z (0) (0) h hL3 → zwW sc (5) 145 21 [(2, 1), (0, a), (2, r), (0, (v1 - (v2 % 2))), (0, fL3), (0, cL3), (0, kL3), w7L3, w8L3] [] hL3 (zwRv (fun g => CI g ∧ zXR msx145_z (0) (0) h g ∧ (zRq q g) ∧ (xHo (yHd q (yC h) bt) (n + 1) g) ∧ (yR g))) := by
    intro n0
    induction n0 using Nat.strongRecOn with
    | ind n0 IHL3 =>
      intro fL3 cL3 kL3 w7L3 w8L3 hL3 hnL3 iL3_0 iL3_1 iL3_2 iL3_3 iL3_4 iL3_5 iL3_6 iL3_7 iL3_8 iL3_9 iL3_10 iL3_11 gL3_0 ChL3 XhL3
      have XL1 := iL3_3.1
      have OBL := hB_o BD (k := n) (i := (kL3).toNat) (by omega) (by omega)
      rw [iL3_0] at OBL
      dsimp only at OBL
      have f0 : (hOr (yHd q (yC h) bt) n (kL3).toNat).1 = fL3 := by rw [iL3_0]
      refine zwW_p [(1, 6, 0), (1, 0, 2)] (q := 24) (ls' := [(2, 1), (0, a), (2, r), (0, (v1 - (v2 % 2))), (0, fL3), (0, cL3), (0, kL3), w7L3, w8L3]) (st' := [(2, 1), (0, kL3)]) (by decide +kernel) rfl ?_
      refine zwW_gc ChL3.1 (kd := 12) (bn := 9) (n := 13) (c := 19) (nx := 27) (by decide +kernel) ?_
      refine zwW_gc ChL3.1 (kd := 3) (bn := 1) (n := 10) (c := 21) (nx := 30) (by decide +kernel) ?_
      refine zwW_cm ChL3.1 (op := 60) (k' := 96) (n := 0) (kd := 0) (m := 3) (nx := 33) (r := 21) (tl := []) (st' := [(0, kL3)]) (by decide +kernel) rfl (by decide +kernel) rfl (x96_21 ChL3) ?_
      rintro v4 _ ⟨rfl, ev4⟩
      have bv4 := zLb_21 ChL3
      refine zwic_ge (q := 128) (nx := 36) (by decide +kernel) (fun c5 => ?_) (fun c5 => ?_)
      · have E128 : hOr (yHd q (yC h) bt) n (hm (yHd q (yC h) bt)) = (fL3, cL3) := by
          first
          | (rw [← iL3_0, show (kL3).toNat = hm (yHd q (yC h) bt) by omega]; done)
          | (have z := hOr_z (d := (yHd q (yC h) bt)) (j := n) (m := hm (yHd q (yC h) bt)) (fun i _ => yHy_0 (q := q) (b := bt) (by omega)); rw [z _ (Nat.le_refl _), ← iL3_0, z (kL3).toNat (by omega)])
        have OB := hB_o BD (k := n) (i := hm (yHd q (yC h) bt)) (by omega) (Nat.le_refl _)
        rw [E128] at OB
        dsimp only at OB
        have HB := iL3_4.2
        have BE : hBe (yHd q (yC h) bt) n = cL3 := by unfold hBe; rw [E128]
        have BF : hBf (yHd q (yC h) bt) n = fL3 := by unfold hBf; rw [E128]
        refine zwW_p [(1, 0, 2)] (q := 129) (ls' := [(2, 1), (0, a), (2, r), (0, (v1 - (v2 % 2))), (0, fL3), (0, cL3), (0, kL3), w7L3, w8L3]) (st' := [(2, 1)]) (by decide +kernel) rfl ?_
        refine zwW_gc ChL3.1 (kd := 12) (bn := 9) (n := 13) (c := 19) (nx := 132) (by decide +kernel) ?_
        refine zwW_p [(1, 1, 0), (1, 3, 0), (1, 4, 0), (1, 5, 0)] (q := 138) (ls' := [(2, 1), (0, a), (2, r), (0, (v1 - (v2 % 2))), (0, fL3), (0, cL3), (0, kL3), w7L3, w8L3]) (st' := [(0, cL3), (0, fL3), (0, (v1 - (v2 % 2))), (0, a), (2, 19)]) (by decide +kernel) rfl ?_
        have HN138 := iL3_4
        refine zwW_cmv ChL3.1 (op := 60) (k' := 211) (n := 4) (kd := 3) (m := 10) (nx := 141) (r := 19) (tl := [(0, a), (0, (v1 - (v2 % 2))), (0, fL3), (0, cL3)]) (st' := []) (by decide +kernel) rfl (by decide +kernel) rfl (x211_z hL3 ChL3 a (v1 - (v2 % 2)) fL3 cL3 (by omega) (by omega) (by omega) (by omega) iL3_11 (by first | omega | exact ⟨by omega, by omega⟩) (by first | omega | exact ⟨by omega, by omega⟩) OB.2.1 (by first | omega | exact ⟨by omega, by omega⟩) (by first | omega | exact ⟨by omega, by omega⟩)) ?_
        rintro h11 ⟨Ch11, Qh11, f6, f7, f8, f9, f10⟩
        have Zh11 : yC h11 = (yC h) := (yC_fr ChL3 Qh11 (by decide +kernel) (ChL3.1.b (a1 := 37) (a2 := 37) (j1 := 86) (j2 := 87) (lo := 0) (hi := 6) (by decide +kernel) (r := 37) (j := 86) (by decide) (by decide) (by decide) (by decide)).2).trans iL3_10
        have Xh11 : zXR msx145_z (0) (0) h h11 := XhL3.tr (c2 := 0) (s2 := 0) Qh11 (by decide +kernel) (by decide) (by decide)
        have Gh11_0 : gL h11 r := gL3_0.x Qh11
        have pr_h11 : r = zv h11 4 l ∧ ((l : Nat) : Int) < fld h11 4 2 := zpv ChL3 Qh11 (A := 4) (by decide) (by decide +kernel) iL3_6
        have th11_3_2 : fld h11 3 2 = fld hL3 3 2 := Qh11.f (a1 := 3) (a2 := 3) (j1 := 2) (j2 := 3) (by decide +kernel) (by first | decide | exact ⟨by decide, by decide⟩) (by first | decide | exact ⟨by decide, by decide⟩) (by first | decide | exact ⟨by decide, by decide⟩)
        have Vh11 : zRq q h11 := iL3_2.fr ChL3 Qh11 (by decide +kernel)
        have XLh11 : xLm (yHm (yC h) bt) (yHh (yC h) bt) h11 := iL3_3.fr ChL3 Qh11 (by decide +kernel)
        have HOF : xHo (yHd q (yC h) bt) (n + 1) h11 := HN138.sx (by rw [f6, show a.toNat = n by omega, HNV]; first | done | rfl) (by rw [f7, show a.toNat = n by omega, BE]) (fun z => f8 (by omega)) (fun z => by have w := f9 (by omega); rw [BF]; exact ⟨by rw [w.1, HNV]; first | done | rfl, w.2⟩)
        refine zwW_retv (nx := 142) (a := 0) (b := 0) (by decide +kernel) ?_
        exact ⟨Ch11, Xh11.le (by decide) (by decide), by exact Vh11, by exact HOF, by exact f10⟩
      · have XK := iL3_3.2 (kL3).toNat (by omega)
        refine zwW_p [(1, 3, 0)] (q := 37) (ls' := [(2, 1), (0, a), (2, r), (0, (v1 - (v2 % 2))), (0, fL3), (0, cL3), (0, kL3), w7L3, w8L3]) (st' := [(0, (v1 - (v2 % 2)))]) (by decide +kernel) rfl ?_
        refine zwif_le (q := 128) (nx := 40) (by decide +kernel) (fun c12 => ?_) (fun c12 => ?_)
        · have E128 : hOr (yHd q (yC h) bt) n (hm (yHd q (yC h) bt)) = (fL3, cL3) := by
            first
            | (rw [← iL3_0, show (kL3).toNat = hm (yHd q (yC h) bt) by omega]; done)
            | (have z := hOr_z (d := (yHd q (yC h) bt)) (j := n) (m := hm (yHd q (yC h) bt)) (fun i _ => yHy_0 (q := q) (b := bt) (by omega)); rw [z _ (Nat.le_refl _), ← iL3_0, z (kL3).toNat (by omega)])
          have OB := hB_o BD (k := n) (i := hm (yHd q (yC h) bt)) (by omega) (Nat.le_refl _)
          rw [E128] at OB
          dsimp only at OB
          have HB := iL3_4.2
          have BE : hBe (yHd q (yC h) bt) n = cL3 := by unfold hBe; rw [E128]
          have BF : hBf (yHd q (yC h) bt) n = fL3 := by unfold hBf; rw [E128]
          refine zwW_p [(1, 0, 2)] (q := 129) (ls' := [(2, 1), (0, a), (2, r), (0, (v1 - (v2 % 2))), (0, fL3), (0, cL3), (0, kL3), w7L3, w8L3]) (st' := [(2, 1)]) (by decide +kernel) rfl ?_
          refine zwW_gc ChL3.1 (kd := 12) (bn := 9) (n := 13) (c := 19) (nx := 132) (by decide +kernel) ?_
          refine zwW_p [(1, 1, 0), (1, 3, 0), (1, 4, 0), (1, 5, 0)] (q := 138) (ls' := [(2, 1), (0, a), (2, r), (0, (v1 - (v2 % 2))), (0, fL3), (0, cL3), (0, kL3), w7L3, w8L3]) (st' := [(0, cL3), (0, fL3), (0, (v1 - (v2 % 2))), (0, a), (2, 19)]) (by decide +kernel) rfl ?_
          have HN138 := iL3_4
          refine zwW_cmv ChL3.1 (op := 60) (k' := 211) (n := 4) (kd := 3) (m := 10) (nx := 141) (r := 19) (tl := [(0, a), (0, (v1 - (v2 % 2))), (0, fL3), (0, cL3)]) (st' := []) (by decide +kernel) rfl (by decide +kernel) rfl (x211_z hL3 ChL3 a (v1 - (v2 % 2)) fL3 cL3 (by omega) (by omega) (by omega) (by omega) iL3_11 (by first | omega | exact ⟨by omega, by omega⟩) (by first | omega | exact ⟨by omega, by omega⟩) OB.2.1 (by first | omega | exact ⟨by omega, by omega⟩) (by first | omega | exact ⟨by omega, by omega⟩)) ?_
          rintro h18 ⟨Ch18, Qh18, f13, f14, f15, f16, f17⟩
          have Zh18 : yC h18 = (yC h) := (yC_fr ChL3 Qh18 (by decide +kernel) (ChL3.1.b (a1 := 37) (a2 := 37) (j1 := 86) (j2 := 87) (lo := 0) (hi := 6) (by decide +kernel) (r := 37) (j := 86) (by decide) (by decide) (by decide) (by decide)).2).trans iL3_10
          have Xh18 : zXR msx145_z (0) (0) h h18 := XhL3.tr (c2 := 0) (s2 := 0) Qh18 (by decide +kernel) (by decide) (by decide)
          have Gh18_0 : gL h18 r := gL3_0.x Qh18
          have pr_h18 : r = zv h18 4 l ∧ ((l : Nat) : Int) < fld h18 4 2 := zpv ChL3 Qh18 (A := 4) (by decide) (by decide +kernel) iL3_6
          have th18_3_2 : fld h18 3 2 = fld hL3 3 2 := Qh18.f (a1 := 3) (a2 := 3) (j1 := 2) (j2 := 3) (by decide +kernel) (by first | decide | exact ⟨by decide, by decide⟩) (by first | decide | exact ⟨by decide, by decide⟩) (by first | decide | exact ⟨by decide, by decide⟩)
          have Vh18 : zRq q h18 := iL3_2.fr ChL3 Qh18 (by decide +kernel)
          have XLh18 : xLm (yHm (yC h) bt) (yHh (yC h) bt) h18 := iL3_3.fr ChL3 Qh18 (by decide +kernel)
          have HOF : xHo (yHd q (yC h) bt) (n + 1) h18 := HN138.sx (by rw [f13, show a.toNat = n by omega, HNV]; first | done | rfl) (by rw [f14, show a.toNat = n by omega, BE]) (fun z => f15 (by omega)) (fun z => by have w := f16 (by omega); rw [BF]; exact ⟨by rw [w.1, HNV]; first | done | rfl, w.2⟩)
          refine zwW_retv (nx := 142) (a := 0) (b := 0) (by decide +kernel) ?_
          exact ⟨Ch18, Xh18.le (by decide) (by decide), by exact Vh18, by exact HOF, by exact f17⟩
        · refine zwW_p [(1, 0, 2)] (q := 41) (ls' := [(2, 1), (0, a), (2, r), (0, (v1 - (v2 % 2))), (0, fL3), (0, cL3), (0, kL3), w7L3, w8L3]) (st' := [(2, 1)]) (by decide +kernel) rfl ?_
          refine zwW_gc ChL3.1 (kd := 12) (bn := 9) (n := 13) (c := 19) (nx := 44) (by decide +kernel) ?_
          refine zwW_gc ChL3.1 (kd := 3) (bn := 1) (n := 10) (c := 21) (nx := 47) (by decide +kernel) ?_
          refine zwW_p [(1, 6, 0)] (q := 49) (ls' := [(2, 1), (0, a), (2, r), (0, (v1 - (v2 % 2))), (0, fL3), (0, cL3), (0, kL3), w7L3, w8L3]) (st' := [(0, kL3), (2, 21)]) (by decide +kernel) rfl ?_
          refine zwW_cm ChL3.1 (op := 60) (k' := 123) (n := 1) (kd := 0) (m := 3) (nx := 52) (r := 21) (tl := [(0, kL3)]) (st' := []) (by decide +kernel) rfl (by decide +kernel) rfl (x123_21 ChL3 (i := kL3) (by first | omega | exact ⟨by omega, by omega⟩)) ?_
          rintro v19 _ ⟨rfl, Gv19, ev19⟩
          have lv19 := Gv19.1
          have pv19 : v19 = zv hL3 21 kL3.toNat ∧ ((kL3.toNat : Nat) : Int) < fld hL3 21 2 := ⟨ev19, by omega⟩
          refine zwW_cast (a := 4) (kd := 4) (n := 19) (nx := 55) (by decide +kernel) rfl (Or.inr Gv19.2.1) ?_
          refine zwW_p [(2, 7, 2)] (q := 57) (ls' := [(2, 1), (0, a), (2, r), (0, (v1 - (v2 % 2))), (0, fL3), (0, cL3), (0, kL3), (2, v19), w8L3]) (st' := []) (by decide +kernel) rfl ?_
          have pv19 : v19 = zv hL3 3 (yHh (yC h) bt (kL3).toNat) ∧ ((yHh (yC h) bt (kL3).toNat : Nat) : Int) < fld hL3 3 2 := ⟨(ev19).trans XK.2, XK.1⟩
          refine zwW_p [(1, 0, 2), (1, 7, 2), (1, 2, 2), (1, 3, 0)] (q := 62) (ls' := [(2, 1), (0, a), (2, r), (0, (v1 - (v2 % 2))), (0, fL3), (0, cL3), (0, kL3), (2, v19), w8L3]) (st' := [(0, (v1 - (v2 % 2))), (2, r), (2, v19), (2, 1)]) (by decide +kernel) rfl ?_
          refine zwW_cm ChL3.1 (op := 60) (k' := 207) (n := 3) (kd := 12) (m := 13) (nx := 65) (r := 1) (tl := [(2, v19), (2, r), (0, (v1 - (v2 % 2)))]) (st' := []) (by decide +kernel) rfl (by decide +kernel) rfl (x207_h hL3 ChL3 v19 r (v1 - (v2 % 2)) q Gv19 gL3_0 (by omega) iL3_11 (yHh (yC h) bt (kL3).toNat) pv19 l iL3_6 iL3_2 (by rw [iL3_10]; exact ok) (by rw [iL3_10]; exact PF8) (by first | omega | exact ⟨by omega, by omega⟩)) ?_
          rintro v24 h25 ⟨Ch25, Qh25, f20, f21, f22, f23⟩
          have sv24 : v24 = yLbar q (yC h) (yHh (yC h) bt (kL3).toNat) l (((yC h) 175 l) - (((yC h) 175 l) % 2)) := by rw [f22, iL3_10, sv1, sv2]
          have Zh25 : yC h25 = (yC h) := (yC_fr ChL3 Qh25 (by decide +kernel) (ChL3.1.b (a1 := 37) (a2 := 37) (j1 := 86) (j2 := 87) (lo := 0) (hi := 6) (by decide +kernel) (r := 37) (j := 86) (by decide) (by decide) (by decide) (by decide)).2).trans iL3_10
          have Xh25 : zXR msx145_z (0) (0) h h25 := XhL3.tr (c2 := 0) (s2 := 0) Qh25 (by decide +kernel) (by decide) (by decide)
          have Gh25_0 : gL h25 r := gL3_0.x Qh25
          have Gh25_1 : gH h25 v19 := Gv19.x Qh25
          have pr_h25 : r = zv h25 4 l ∧ ((l : Nat) : Int) < fld h25 4 2 := zpv ChL3 Qh25 (A := 4) (by decide) (by decide +kernel) iL3_6
          have pv19_h25 : v19 = zv h25 3 (yHh (yC h) bt (kL3).toNat) ∧ ((yHh (yC h) bt (kL3).toNat : Nat) : Int) < fld h25 3 2 := zpv ChL3 Qh25 (A := 3) (by decide) (by decide +kernel) pv19
          have th25_3_2 : fld h25 3 2 = fld hL3 3 2 := Qh25.f (a1 := 3) (a2 := 3) (j1 := 2) (j2 := 3) (by decide +kernel) (by first | decide | exact ⟨by decide, by decide⟩) (by first | decide | exact ⟨by decide, by decide⟩) (by first | decide | exact ⟨by decide, by decide⟩)
          have Vh25 : zRq q h25 := iL3_2.fr ChL3 Qh25 (by decide +kernel)
          have XLh25 : xLm (yHm (yC h) bt) (yHh (yC h) bt) h25 := iL3_3.fr ChL3 Qh25 (by decide +kernel)
          have HOh25 : xHo (yHd q (yC h) bt) n h25 := iL3_4.fr Qh25 (by decide +kernel)
          have LV : v24 = yLbar q (yC h) (yHh (yC h) bt (kL3).toNat) l (v1 - (v2 % 2)) := by first | exact sv24 | (rw [sv1, sv2]; exact sv24)
          refine zwif_ne (q := 122) (nx := 68) (by decide +kernel) (fun c26 => ?_) (fun c26 => ?_)
          · have O122 : hOr (yHd q (yC h) bt) n ((kL3).toNat + 1) = (fL3, cL3) := by
              first
              | exact O113.trans (by rw [gw119, gw120])
              | (rw [hOr_0 (yHy_z (q := q) (bt := bt) (fun z => by rw [← pl, ← HNV, ← LV] at z; omega))]; exact iL3_0)
              | (rw [hOr_f Y68 (by rw [iL3_0]; dsimp only; omega) (by rw [iL3_0]; dsimp only; omega)]; exact iL3_0)
              | (exfalso; omega)
            (try clear O113)
            (try clear gw120)
            (try clear gw119)
            have OB := hB_o BD (k := n) (i := (kL3).toNat + 1) (by omega) (by omega)
            rw [O122] at OB
            dsimp only at OB
            refine zwW_inc (i := 6) (c := 1) (x := kL3) (nx := 125) (by decide +kernel) rfl (by first | omega | exact ⟨by omega, by omega⟩) (ls' := [(2, 1), (0, a), (2, r), (0, (v1 - (v2 % 2))), (0, fL3), (0, cL3), (0, (kL3 + 1)), (2, v19), w8L3]) rfl ?_
            refine zwW_p [(24, 21, 0)] (q := 21) (ls' := [(2, 1), (0, a), (2, r), (0, (v1 - (v2 % 2))), (0, fL3), (0, cL3), (0, (kL3 + 1)), (2, v19), w8L3]) (st' := []) (by decide +kernel) rfl ?_
            exact IHL3 ((1000 - (kL3 + 1))).toNat (by omega) fL3 cL3 (kL3 + 1) (2, v19) w8L3 h25 rfl (by rw [show (kL3 + 1).toNat = (kL3).toNat + 1 by omega]; exact O122) (by omega) (Vh25) (XLh25) (HOh25) (by omega) (pr_h25) (by omega) (by omega) (by omega) (Zh25) (f23) Gh25_0 Ch25 (Xh25.le (by decide) (by decide))
          · have Y68 : hy (yHd q (yC h) bt) n (kL3).toNat ≠ 0 := yHy_y (q := q) (bt := bt) (by omega) (by rw [← pl, ← HNV, ← LV]; omega)
            refine zwW_p [(1, 0, 2), (1, 2, 2)] (q := 70) (ls' := [(2, 1), (0, a), (2, r), (0, (v1 - (v2 % 2))), (0, fL3), (0, cL3), (0, kL3), (2, v19), w8L3]) (st' := [(2, r), (2, 1)]) (by decide +kernel) rfl ?_
            refine zwW_get (kd := 6) (bn := 1) (t := 2) (n := 7) (nx := 73) (by decide +kernel) Gh25_0.2.1 rfl ?_
            obtain ⟨v27, ev27⟩ : ∃ z, z = fld h25 r 1 := ⟨_, rfl⟩
            rw [← ev27]
            have Gv27 : gH h25 v27 := by rw [ev27]; exact Gh25_0.2.2
            have lv27 := Gv27.1
            have qv27 : yC h25 170 l = (yC h) 170 l := Eq.trans (congrFun (congrFun Zh25 170) l) rfl
            have wv27 := f23.r (a := 170) (A := 4) (j := 1) (B := 3) (i := l) rfl pr_h25.2
            rw [qv27] at wv27
            have pv27 : v27 = zv h25 3 (((yC h) 170 l).toNat) ∧ ((((yC h) 170 l).toNat : Nat) : Int) < fld h25 3 2 := ⟨by rw [ev27, pr_h25.1]; exact wv27.2.2, wv27.2.1⟩
            refine zwW_get (kd := 4) (bn := 1) (t := 2) (n := 19) (nx := 76) (by decide +kernel) Gv27.2.1 rfl ?_
            obtain ⟨v28, ev28⟩ : ∃ z, z = fld h25 v27 1 := ⟨_, rfl⟩
            rw [← ev28]
            have Gv28 : gV h25 v28 := by rw [ev28]; exact Gv27.2.2
            have lv28 := Gv28.1
            have qv28 : yC h25 79 (((yC h) 170 l).toNat) = (yC h) 79 (((yC h) 170 l).toNat) := Eq.trans (congrFun (congrFun Zh25 79) (((yC h) 170 l).toNat)) rfl
            have wv28 := f23.r (a := 79) (A := 3) (j := 1) (B := 2) (i := ((yC h) 170 l).toNat) rfl pv27.2
            rw [qv28] at wv28
            have pv28 : v28 = zv h25 2 (((yC h) 79 (((yC h) 170 l).toNat)).toNat) ∧ ((((yC h) 79 (((yC h) 170 l).toNat)).toNat : Nat) : Int) < fld h25 2 2 := ⟨by rw [ev28, pv27.1]; exact wv28.2.2, wv28.2.1⟩
            refine zwW_p [(1, 7, 2)] (q := 78) (ls' := [(2, 1), (0, a), (2, r), (0, (v1 - (v2 % 2))), (0, fL3), (0, cL3), (0, kL3), (2, v19), w8L3]) (st' := [(2, v19), (2, v28), (2, 1)]) (by decide +kernel) rfl ?_
            refine zwW_get (kd := 4) (bn := 1) (t := 2) (n := 19) (nx := 81) (by decide +kernel) Gh25_1.2.1 rfl ?_
            obtain ⟨v29, ev29⟩ : ∃ z, z = fld h25 v19 1 := ⟨_, rfl⟩
            rw [← ev29]
            have Gv29 : gV h25 v29 := by rw [ev29]; exact Gh25_1.2.2
            have lv29 := Gv29.1
            have qv29 : yC h25 79 (yHh (yC h) bt (kL3).toNat) = (yC h) 79 (yHh (yC h) bt (kL3).toNat) := Eq.trans (congrFun (congrFun Zh25 79) (yHh (yC h) bt (kL3).toNat)) rfl
            have wv29 := f23.r (a := 79) (A := 3) (j := 1) (B := 2) (i := yHh (yC h) bt (kL3).toNat) rfl pv19_h25.2
            rw [qv29] at wv29
            have pv29 : v29 = zv h25 2 (((yC h) 79 (yHh (yC h) bt (kL3).toNat)).toNat) ∧ ((((yC h) 79 (yHh (yC h) bt (kL3).toNat)).toNat : Nat) : Int) < fld h25 2 2 := ⟨by rw [ev29, pv19_h25.1]; exact wv29.2.2, wv29.2.1⟩
            refine zwW_cm Ch25.1 (op := 60) (k' := 105) (n := 2) (kd := 12) (m := 13) (nx := 84) (r := 1) (tl := [(2, v28), (2, v29)]) (st' := []) (by decide +kernel) rfl (by decide +kernel) rfl (x105_z h25 Ch25 v28 v29 Gv28 Gv29 f23 (((yC h) 79 (((yC h) 170 l).toNat)).toNat) pv28 (((yC h) 79 (yHh (yC h) bt (kL3).toNat)).toNat) pv29 (by rw [Zh25]; exact PF8)) ?_
            rintro v30 _ ⟨rfl, f31, f32, f33⟩
            have sv30 : v30 = yFarq (yC h) (((yC h) 79 (((yC h) 170 l).toNat)).toNat) (((yC h) 79 (yHh (yC h) bt (kL3).toNat)).toNat) := by rw [f33, Zh25]
            refine zwW_p [(2, 8, 0)] (q := 86) (ls' := [(2, 1), (0, a), (2, r), (0, (v1 - (v2 % 2))), (0, fL3), (0, cL3), (0, kL3), (2, v19), (0, v30)]) (st' := []) (by decide +kernel) rfl ?_
            have DF84 : hf (yHd q (yC h) bt) n (kL3).toNat = v30 := by
              have z := sv30
              rw [pl] at z
              exact z.symm
            refine zwW_p [(1, 4, 0), (0, -1, 0)] (q := 89) (ls' := [(2, 1), (0, a), (2, r), (0, (v1 - (v2 % 2))), (0, fL3), (0, cL3), (0, kL3), (2, v19), (0, v30)]) (st' := [(0, -1), (0, fL3)]) (by decide +kernel) rfl ?_
            refine zwic_eq (q := 99) (nx := 92) (by decide +kernel) (fun c34 => ?_) (fun c34 => ?_)
            · refine zwW_p [(1, 8, 0), (2, 4, 0), (0, 0, 0), (2, 5, 0), (1, 8, 0), (1, 4, 0)] (q := 110) (ls' := [(2, 1), (0, a), (2, r), (0, (v1 - (v2 % 2))), (0, v30), (0, 0), (0, kL3), (2, v19), (0, v30)]) (st' := [(0, v30), (0, v30)]) (by decide +kernel) rfl ?_
              refine zwic_ne (q := 122) (nx := 113) (by decide +kernel) (fun c35 => ?_) (fun c35 => ?_)
              · have O122 : hOr (yHd q (yC h) bt) n ((kL3).toNat + 1) = (v30, 0) := by
                  first
                  | exact O113.trans (by rw [gw119, gw120])
                  | (rw [hOr_0 (yHy_z (q := q) (bt := bt) (fun z => by rw [← pl, ← HNV, ← LV] at z; omega))]; exact iL3_0)
                  | (rw [hOr_f Y68 (by rw [iL3_0]; dsimp only; omega) (by rw [iL3_0]; dsimp only; omega)]; exact iL3_0)
                  | (exfalso; omega)
                (try clear O113)
                (try clear gw120)
                (try clear gw119)
                have OB := hB_o BD (k := n) (i := (kL3).toNat + 1) (by omega) (by omega)
                rw [O122] at OB
                dsimp only at OB
                refine zwW_inc (i := 6) (c := 1) (x := kL3) (nx := 125) (by decide +kernel) rfl (by first | omega | exact ⟨by omega, by omega⟩) (ls' := [(2, 1), (0, a), (2, r), (0, (v1 - (v2 % 2))), (0, v30), (0, 0), (0, (kL3 + 1)), (2, v19), (0, v30)]) rfl ?_
                refine zwW_p [(24, 21, 0)] (q := 21) (ls' := [(2, 1), (0, a), (2, r), (0, (v1 - (v2 % 2))), (0, v30), (0, 0), (0, (kL3 + 1)), (2, v19), (0, v30)]) (st' := []) (by decide +kernel) rfl ?_
                exact IHL3 ((1000 - (kL3 + 1))).toNat (by omega) v30 0 (kL3 + 1) (2, v19) (0, v30) h25 rfl (by rw [show (kL3 + 1).toNat = (kL3).toNat + 1 by omega]; exact O122) (by omega) (Vh25) (XLh25) (HOh25) (by omega) (pr_h25) (by omega) (by omega) (by omega) (Zh25) (f23) Gh25_0 Ch25 (Xh25.le (by decide) (by decide))
              · have O113 : hOr (yHd q (yC h) bt) n ((kL3).toNat + 1) = (v30, i_or 0 (i_shl 1 kL3)) := by
                  have i0 := iL3_0
                  have f0 : (hOr (yHd q (yC h) bt) n (kL3).toNat).1 = fL3 := by rw [i0]
                  have f1 : (hOr (yHd q (yC h) bt) n (kL3).toNat).2 = cL3 := by rw [i0]
                  first
                  | (rw [hOr_n Y68 (by omega), DF84, show (((kL3).toNat : Nat) : Int) = kL3 by omega]; done)
                  | (rw [hOr_s Y68 (by omega) (by omega), f0, f1, show (((kL3).toNat : Nat) : Int) = kL3 by omega]; done)
                refine zwW_p [(1, 5, 0), (0, 1, 0), (1, 6, 0)] (q := 118) (ls' := [(2, 1), (0, a), (2, r), (0, (v1 - (v2 % 2))), (0, v30), (0, 0), (0, kL3), (2, v19), (0, v30)]) (st' := [(0, kL3), (0, 1), (0, 0)]) (by decide +kernel) rfl ?_
                refine zwW_ib (a := 8) (nx := 119) (by decide +kernel) rfl ?_
                generalize gw119 : (i_shl 1 kL3) = w119
                refine zwW_ib (a := 6) (nx := 120) (by decide +kernel) rfl ?_
                generalize gw120 : (i_or 0 w119) = w120
                refine zwW_p [(2, 5, 0)] (q := 122) (ls' := [(2, 1), (0, a), (2, r), (0, (v1 - (v2 % 2))), (0, v30), (0, w120), (0, kL3), (2, v19), (0, v30)]) (st' := []) (by decide +kernel) rfl ?_
                have O122 : hOr (yHd q (yC h) bt) n ((kL3).toNat + 1) = (v30, w120) := by
                  first
                  | exact O113.trans (by rw [gw119, gw120])
                  | (rw [hOr_0 (yHy_z (q := q) (bt := bt) (fun z => by rw [← pl, ← HNV, ← LV] at z; omega))]; exact iL3_0)
                  | (rw [hOr_f Y68 (by rw [iL3_0]; dsimp only; omega) (by rw [iL3_0]; dsimp only; omega)]; exact iL3_0)
                  | (exfalso; omega)
                (try clear O113)
                (try clear gw120)
                (try clear gw119)
                have OB := hB_o BD (k := n) (i := (kL3).toNat + 1) (by omega) (by omega)
                rw [O122] at OB
                dsimp only at OB
                refine zwW_inc (i := 6) (c := 1) (x := kL3) (nx := 125) (by decide +kernel) rfl (by first | omega | exact ⟨by omega, by omega⟩) (ls' := [(2, 1), (0, a), (2, r), (0, (v1 - (v2 % 2))), (0, v30), (0, w120), (0, (kL3 + 1)), (2, v19), (0, v30)]) rfl ?_
                refine zwW_p [(24, 21, 0)] (q := 21) (ls' := [(2, 1), (0, a), (2, r), (0, (v1 - (v2 % 2))), (0, v30), (0, w120), (0, (kL3 + 1)), (2, v19), (0, v30)]) (st' := []) (by decide +kernel) rfl ?_
                exact IHL3 ((1000 - (kL3 + 1))).toNat (by omega) v30 w120 (kL3 + 1) (2, v19) (0, v30) h25 rfl (by rw [show (kL3 + 1).toNat = (kL3).toNat + 1 by omega]; exact O122) (by omega) (Vh25) (XLh25) (HOh25) (by omega) (pr_h25) (by omega) (by omega) (by omega) (Zh25) (f23) Gh25_0 Ch25 (Xh25.le (by decide) (by decide))
            · refine zwW_p [(1, 8, 0), (1, 4, 0)] (q := 96) (ls' := [(2, 1), (0, a), (2, r), (0, (v1 - (v2 % 2))), (0, fL3), (0, cL3), (0, kL3), (2, v19), (0, v30)]) (st' := [(0, fL3), (0, v30)]) (by decide +kernel) rfl ?_
              refine zwic_ge (q := 106) (nx := 99) (by decide +kernel) (fun c36 => ?_) (fun c36 => ?_)
              · refine zwW_p [(1, 8, 0), (1, 4, 0)] (q := 110) (ls' := [(2, 1), (0, a), (2, r), (0, (v1 - (v2 % 2))), (0, fL3), (0, cL3), (0, kL3), (2, v19), (0, v30)]) (st' := [(0, fL3), (0, v30)]) (by decide +kernel) rfl ?_
                refine zwic_ne (q := 122) (nx := 113) (by decide +kernel) (fun c37 => ?_) (fun c37 => ?_)
                · have O122 : hOr (yHd q (yC h) bt) n ((kL3).toNat + 1) = (fL3, cL3) := by
                    first
                    | exact O113.trans (by rw [gw119, gw120])
                    | (rw [hOr_0 (yHy_z (q := q) (bt := bt) (fun z => by rw [← pl, ← HNV, ← LV] at z; omega))]; exact iL3_0)
                    | (rw [hOr_f Y68 (by rw [iL3_0]; dsimp only; omega) (by rw [iL3_0]; dsimp only; omega)]; exact iL3_0)
                    | (exfalso; omega)
                  (try clear O113)
                  (try clear gw120)
                  (try clear gw119)
                  have OB := hB_o BD (k := n) (i := (kL3).toNat + 1) (by omega) (by omega)
                  rw [O122] at OB
                  dsimp only at OB
                  refine zwW_inc (i := 6) (c := 1) (x := kL3) (nx := 125) (by decide +kernel) rfl (by first | omega | exact ⟨by omega, by omega⟩) (ls' := [(2, 1), (0, a), (2, r), (0, (v1 - (v2 % 2))), (0, fL3), (0, cL3), (0, (kL3 + 1)), (2, v19), (0, v30)]) rfl ?_
                  refine zwW_p [(24, 21, 0)] (q := 21) (ls' := [(2, 1), (0, a), (2, r), (0, (v1 - (v2 % 2))), (0, fL3), (0, cL3), (0, (kL3 + 1)), (2, v19), (0, v30)]) (st' := []) (by decide +kernel) rfl ?_
                  exact IHL3 ((1000 - (kL3 + 1))).toNat (by omega) fL3 cL3 (kL3 + 1) (2, v19) (0, v30) h25 rfl (by rw [show (kL3 + 1).toNat = (kL3).toNat + 1 by omega]; exact O122) (by omega) (Vh25) (XLh25) (HOh25) (by omega) (pr_h25) (by omega) (by omega) (by omega) (Zh25) (f23) Gh25_0 Ch25 (Xh25.le (by decide) (by decide))
                · have O113 : hOr (yHd q (yC h) bt) n ((kL3).toNat + 1) = (fL3, i_or cL3 (i_shl 1 kL3)) := by
                    have i0 := iL3_0
                    have f0 : (hOr (yHd q (yC h) bt) n (kL3).toNat).1 = fL3 := by rw [i0]
                    have f1 : (hOr (yHd q (yC h) bt) n (kL3).toNat).2 = cL3 := by rw [i0]
                    first
                    | (rw [hOr_n Y68 (by omega), DF84, show (((kL3).toNat : Nat) : Int) = kL3 by omega]; done)
                    | (rw [hOr_s Y68 (by omega) (by omega), f0, f1, show (((kL3).toNat : Nat) : Int) = kL3 by omega]; done)
                  refine zwW_p [(1, 5, 0), (0, 1, 0), (1, 6, 0)] (q := 118) (ls' := [(2, 1), (0, a), (2, r), (0, (v1 - (v2 % 2))), (0, fL3), (0, cL3), (0, kL3), (2, v19), (0, v30)]) (st' := [(0, kL3), (0, 1), (0, cL3)]) (by decide +kernel) rfl ?_
                  refine zwW_ib (a := 8) (nx := 119) (by decide +kernel) rfl ?_
                  generalize gw119 : (i_shl 1 kL3) = w119
                  refine zwW_ib (a := 6) (nx := 120) (by decide +kernel) rfl ?_
                  generalize gw120 : (i_or cL3 w119) = w120
                  refine zwW_p [(2, 5, 0)] (q := 122) (ls' := [(2, 1), (0, a), (2, r), (0, (v1 - (v2 % 2))), (0, fL3), (0, w120), (0, kL3), (2, v19), (0, v30)]) (st' := []) (by decide +kernel) rfl ?_
                  have O122 : hOr (yHd q (yC h) bt) n ((kL3).toNat + 1) = (fL3, w120) := by
                    first
                    | exact O113.trans (by rw [gw119, gw120])
                    | (rw [hOr_0 (yHy_z (q := q) (bt := bt) (fun z => by rw [← pl, ← HNV, ← LV] at z; omega))]; exact iL3_0)
                    | (rw [hOr_f Y68 (by rw [iL3_0]; dsimp only; omega) (by rw [iL3_0]; dsimp only; omega)]; exact iL3_0)
                    | (exfalso; omega)
                  (try clear O113)
                  (try clear gw120)
                  (try clear gw119)
                  have OB := hB_o BD (k := n) (i := (kL3).toNat + 1) (by omega) (by omega)
                  rw [O122] at OB
                  dsimp only at OB
                  refine zwW_inc (i := 6) (c := 1) (x := kL3) (nx := 125) (by decide +kernel) rfl (by first | omega | exact ⟨by omega, by omega⟩) (ls' := [(2, 1), (0, a), (2, r), (0, (v1 - (v2 % 2))), (0, fL3), (0, w120), (0, (kL3 + 1)), (2, v19), (0, v30)]) rfl ?_
                  refine zwW_p [(24, 21, 0)] (q := 21) (ls' := [(2, 1), (0, a), (2, r), (0, (v1 - (v2 % 2))), (0, fL3), (0, w120), (0, (kL3 + 1)), (2, v19), (0, v30)]) (st' := []) (by decide +kernel) rfl ?_
                  exact IHL3 ((1000 - (kL3 + 1))).toNat (by omega) fL3 w120 (kL3 + 1) (2, v19) (0, v30) h25 rfl (by rw [show (kL3 + 1).toNat = (kL3).toNat + 1 by omega]; exact O122) (by omega) (Vh25) (XLh25) (HOh25) (by omega) (pr_h25) (by omega) (by omega) (by omega) (Zh25) (f23) Gh25_0 Ch25 (Xh25.le (by decide) (by decide))
              · refine zwW_p [(1, 8, 0), (2, 4, 0), (0, 0, 0), (2, 5, 0), (1, 8, 0), (1, 4, 0)] (q := 110) (ls' := [(2, 1), (0, a), (2, r), (0, (v1 - (v2 % 2))), (0, v30), (0, 0), (0, kL3), (2, v19), (0, v30)]) (st' := [(0, v30), (0, v30)]) (by decide +kernel) rfl ?_
                refine zwic_ne (q := 122) (nx := 113) (by decide +kernel) (fun c38 => ?_) (fun c38 => ?_)
                · have O122 : hOr (yHd q (yC h) bt) n ((kL3).toNat + 1) = (v30, 0) := by
                    first
                    | exact O113.trans (by rw [gw119, gw120])
                    | (rw [hOr_0 (yHy_z (q := q) (bt := bt) (fun z => by rw [← pl, ← HNV, ← LV] at z; omega))]; exact iL3_0)
                    | (rw [hOr_f Y68 (by rw [iL3_0]; dsimp only; omega) (by rw [iL3_0]; dsimp only; omega)]; exact iL3_0)
                    | (exfalso; omega)
                  (try clear O113)
                  (try clear gw120)
                  (try clear gw119)
                  have OB := hB_o BD (k := n) (i := (kL3).toNat + 1) (by omega) (by omega)
                  rw [O122] at OB
                  dsimp only at OB
                  refine zwW_inc (i := 6) (c := 1) (x := kL3) (nx := 125) (by decide +kernel) rfl (by first | omega | exact ⟨by omega, by omega⟩) (ls' := [(2, 1), (0, a), (2, r), (0, (v1 - (v2 % 2))), (0, v30), (0, 0), (0, (kL3 + 1)), (2, v19), (0, v30)]) rfl ?_
                  refine zwW_p [(24, 21, 0)] (q := 21) (ls' := [(2, 1), (0, a), (2, r), (0, (v1 - (v2 % 2))), (0, v30), (0, 0), (0, (kL3 + 1)), (2, v19), (0, v30)]) (st' := []) (by decide +kernel) rfl ?_
                  exact IHL3 ((1000 - (kL3 + 1))).toNat (by omega) v30 0 (kL3 + 1) (2, v19) (0, v30) h25 rfl (by rw [show (kL3 + 1).toNat = (kL3).toNat + 1 by omega]; exact O122) (by omega) (Vh25) (XLh25) (HOh25) (by omega) (pr_h25) (by omega) (by omega) (by omega) (Zh25) (f23) Gh25_0 Ch25 (Xh25.le (by decide) (by decide))
                · have O113 : hOr (yHd q (yC h) bt) n ((kL3).toNat + 1) = (v30, i_or 0 (i_shl 1 kL3)) := by
                    have i0 := iL3_0
                    have f0 : (hOr (yHd q (yC h) bt) n (kL3).toNat).1 = fL3 := by rw [i0]
                    have f1 : (hOr (yHd q (yC h) bt) n (kL3).toNat).2 = cL3 := by rw [i0]
                    first
                    | (rw [hOr_n Y68 (by omega), DF84, show (((kL3).toNat : Nat) : Int) = kL3 by omega]; done)
                    | (rw [hOr_s Y68 (by omega) (by omega), f0, f1, show (((kL3).toNat : Nat) : Int) = kL3 by omega]; done)
                  refine zwW_p [(1, 5, 0), (0, 1, 0), (1, 6, 0)] (q := 118) (ls' := [(2, 1), (0, a), (2, r), (0, (v1 - (v2 % 2))), (0, v30), (0, 0), (0, kL3), (2, v19), (0, v30)]) (st' := [(0, kL3), (0, 1), (0, 0)]) (by decide +kernel) rfl ?_
                  refine zwW_ib (a := 8) (nx := 119) (by decide +kernel) rfl ?_
                  generalize gw119 : (i_shl 1 kL3) = w119
                  refine zwW_ib (a := 6) (nx := 120) (by decide +kernel) rfl ?_
                  generalize gw120 : (i_or 0 w119) = w120
                  refine zwW_p [(2, 5, 0)] (q := 122) (ls' := [(2, 1), (0, a), (2, r), (0, (v1 - (v2 % 2))), (0, v30), (0, w120), (0, kL3), (2, v19), (0, v30)]) (st' := []) (by decide +kernel) rfl ?_
                  have O122 : hOr (yHd q (yC h) bt) n ((kL3).toNat + 1) = (v30, w120) := by
                    first
                    | exact O113.trans (by rw [gw119, gw120])
                    | (rw [hOr_0 (yHy_z (q := q) (bt := bt) (fun z => by rw [← pl, ← HNV, ← LV] at z; omega))]; exact iL3_0)
                    | (rw [hOr_f Y68 (by rw [iL3_0]; dsimp only; omega) (by rw [iL3_0]; dsimp only; omega)]; exact iL3_0)
                    | (exfalso; omega)
                  (try clear O113)
                  (try clear gw120)
                  (try clear gw119)
                  have OB := hB_o BD (k := n) (i := (kL3).toNat + 1) (by omega) (by omega)
                  rw [O122] at OB
                  dsimp only at OB
                  refine zwW_inc (i := 6) (c := 1) (x := kL3) (nx := 125) (by decide +kernel) rfl (by first | omega | exact ⟨by omega, by omega⟩) (ls' := [(2, 1), (0, a), (2, r), (0, (v1 - (v2 % 2))), (0, v30), (0, w120), (0, (kL3 + 1)), (2, v19), (0, v30)]) rfl ?_
                  refine zwW_p [(24, 21, 0)] (q := 21) (ls' := [(2, 1), (0, a), (2, r), (0, (v1 - (v2 % 2))), (0, v30), (0, w120), (0, (kL3 + 1)), (2, v19), (0, v30)]) (st' := []) (by decide +kernel) rfl ?_
                  exact IHL3 ((1000 - (kL3 + 1))).toNat (by omega) v30 w120 (kL3 + 1) (2, v19) (0, v30) h25 rfl (by rw [show (kL3 + 1).toNat = (kL3).toNat + 1 by omega]; exact O122) (by omega) (Vh25) (XLh25) (HOh25) (by omega) (pr_h25) (by omega) (by omega) (by omega) (Zh25) (f23) Gh25_0 Ch25 (Xh25.le (by decide) (by decide))
  exact L3 _ (-1) 0 0 (9, 0) (9, 0) h rfl (rfl) (by omega) (V) (XL) (HO) (by omega) (P_r) (by omega) (by omega) (by omega) ((rfl : yC h = yC h)) (J) G_r C (X.le (by decide) (by decide))
-- WheelLand$Handwork.search(II)V
theorem x212_z {sc : List Int} (a : Int) (D0 : Nat) (p6 : 0 ≤ a ∧ a ≤ 6) (HS : a < 6 → zKH sc D0 (a + 1)) : zKH sc (D0 + 9) a := by
  intro h C b q_b d hh k r ll gt q J B HU H HC pa pr L G GB pb QQ
  refine zwC_of (D := D0 + 8) 4 (by decide +kernel) rfl (ls := [(2, 19), (0, a), (0, b), (9, 0)]) rfl ?_
  have X : zXR msxT 0 0 h h := zXR.rf _ _
  have u86 : yC h 37 86 = fld h 20 2 := rfl
  have H1 := H.1.1
  have H2 := H.1.2.1
  have B1 := B.1
  have Q1 := QQ.1
  refine zwW_p [(1, 2, 0), (1, 0, 2)] (q := 2) (ls' := [(2, 19), (0, a), (0, b), (9, 0)]) (st' := [(2, 19), (0, b)]) (by decide +kernel) rfl ?_
  refine zwW_gs C.1 (kd := 3) (bn := 4) (n := 10) (t := 0) (lo := -2147483648) (hi := 2147483647) (nx := 5) (by decide +kernel) ?_
  intro v1 ev1 lv1 uv1
  refine zwic_lt (q := 9) (nx := 8) (by decide +kernel) (fun c2 => ?_) (fun c2 => ?_)
  · refine zwW_p [(1, 1, 0), (1, 0, 2)] (q := 11) (ls' := [(2, 19), (0, a), (0, b), (9, 0)]) (st' := [(2, 19), (0, a)]) (by decide +kernel) rfl ?_
    refine zwW_gc C.1 (kd := 3) (bn := 0) (n := 10) (c := 20) (nx := 14) (by decide +kernel) ?_
    refine zwW_cm C.1 (op := 60) (k' := 96) (n := 0) (kd := 0) (m := 3) (nx := 17) (r := 20) (tl := []) (st' := [(0, a)]) (by decide +kernel) rfl (by decide +kernel) rfl (x96_20 C) ?_
    rintro v3 _ ⟨rfl, ev3⟩
    have bv3 := zLb_20 C
    have sv3 : v3 = (yC h) 37 86 := Eq.trans ev3 (Eq.trans (Eq.symm (yC_s (h := h) (i := 86) rfl)) (Eq.trans (congrFun (congrFun (rfl : yC h = yC h) 37) 86) rfl))
    refine zwic_ge (q := 26) (nx := 20) (by decide +kernel) (fun c4 => ?_) (fun c4 => ?_)
    · refine zwW_p [(1, 0, 2), (1, 2, 0)] (q := 28) (ls' := [(2, 19), (0, a), (0, b), (9, 0)]) (st' := [(0, b), (2, 19)]) (by decide +kernel) rfl ?_
      refine zwW_ps C.1 (kd := 3) (bn := 4) (n := 10) (lo := -2147483648) (hi := 2147483647) (nx := 31) (by decide +kernel) (by first | omega | exact ⟨by omega, by omega⟩) ?_
      intro h5 eh5 Ih5
      have Ch5 : CI h5 := C.wc eh5 Ih5 (by decide) (by decide)
      have Qh5 : zXR [(19, 19, 4, 5)] 0 0 h h5 := zXR.wc eh5 rfl ⟨by decide, by decide, Or.inl (by decide)⟩ (by first | decide | exact ⟨by decide, by decide⟩)
      have Xh5 : zXR msxT (0) (0) h h5 := X.tr (c2 := 0) (s2 := 0) Qh5 (by decide +kernel) (by decide) (by decide)
      have Zh5 : yC h5 = (yC h) := (yC_fr C Qh5 (by decide +kernel) (C.1.b (a1 := 37) (a2 := 37) (j1 := 86) (j2 := 87) (lo := 0) (hi := 6) (by decide +kernel) (r := 37) (j := 86) (by decide) (by decide) (by decide) (by decide)).2).trans (rfl : yC h = yC h)
      have Jh5 : yR h5 := J.fr C Qh5 (by decide +kernel)
      have th5_21_2 : fld h5 21 2 = fld h 21 2 := Qh5.f (a1 := 21) (a2 := 21) (j1 := 2) (j2 := 3) (by decide +kernel) (by first | decide | exact ⟨by decide, by decide⟩) (by first | decide | exact ⟨by decide, by decide⟩) (by first | decide | exact ⟨by decide, by decide⟩)
      have Hh5 : xHs d hh h5 := H.fr C Qh5 (by decide +kernel)
      have Lh5 : xPk k ll h5 := L.fr Qh5 (by decide +kernel)
      have Gh5 : xGt (hm d) gt h5 := G.fr Qh5 (by decide +kernel)
      have th5_19_4 : fld h5 19 4 = b := by rw [eh5]; exact fld_wr_eq (C.1.s (a1 := 19) (a2 := 19) (k := 3) (n := 10) (by decide +kernel) (by decide) (by decide)) (by decide)
      refine zwW_p [(1, 0, 2)] (q := 32) (ls' := [(2, 19), (0, a), (0, b), (9, 0)]) (st' := [(2, 19)]) (by decide +kernel) rfl ?_
      refine zwW_gc Ch5.1 (kd := 3) (bn := 8) (n := 10) (c := 25) (nx := 35) (by decide +kernel) ?_
      refine zwW_p [(0, 0, 0), (1, 0, 2)] (q := 37) (ls' := [(2, 19), (0, a), (0, b), (9, 0)]) (st' := [(2, 19), (0, 0), (2, 25)]) (by decide +kernel) rfl ?_
      refine zwW_gc Ch5.1 (kd := 3) (bn := 9) (n := 10) (c := 26) (nx := 40) (by decide +kernel) ?_
      refine zwW_p [(0, 0, 0), (0, 6, 0)] (q := 43) (ls' := [(2, 19), (0, a), (0, b), (9, 0)]) (st' := [(0, 6), (0, 0), (2, 26), (0, 0), (2, 25)]) (by decide +kernel) rfl ?_
      refine zwX_copy Ch5 (A := 25) (B := 26) (n := 6) (nx := 46) (by decide +kernel) (by decide +kernel) (by decide +kernel) (Ch5.1.s (a1 := 25) (a2 := 25) (by decide +kernel) (by decide) (by decide)) (Ch5.1.s (a1 := 26) (a2 := 26) (by decide +kernel) (by decide) (by decide)) (by decide) rfl ?_
      rintro h6 Ch6 Qh6 fh6 oh6
      have Xh6 : zXR msxT (0) (0) h h6 := Xh5.tr (c2 := 0) (s2 := 0) Qh6 (by decide +kernel) (by decide) (by decide)
      have Zh6 : yC h6 = (yC h) := (yC_fr Ch5 Qh6 (by decide +kernel) (Ch5.1.b (a1 := 37) (a2 := 37) (j1 := 86) (j2 := 87) (lo := 0) (hi := 6) (by decide +kernel) (r := 37) (j := 86) (by decide) (by decide) (by decide) (by decide)).2).trans Zh5
      have Jh6 : yR h6 := Jh5.fr Ch5 Qh6 (by decide +kernel)
      have th6_21_2 : fld h6 21 2 = fld h5 21 2 := Qh6.f (a1 := 21) (a2 := 21) (j1 := 2) (j2 := 3) (by decide +kernel) (by first | decide | exact ⟨by decide, by decide⟩) (by first | decide | exact ⟨by decide, by decide⟩) (by first | decide | exact ⟨by decide, by decide⟩)
      have th6_19_4 : fld h6 19 4 = fld h5 19 4 := Qh6.f (a1 := 19) (a2 := 19) (j1 := 4) (j2 := 5) (by decide +kernel) (by first | decide | exact ⟨by decide, by decide⟩) (by first | decide | exact ⟨by decide, by decide⟩) (by first | decide | exact ⟨by decide, by decide⟩)
      have Hh6 : xHs d hh h6 := Hh5.fr Ch5 Qh6 (by decide +kernel)
      have Lh6 : xPk k ll h6 := Lh5.fr Qh6 (by decide +kernel)
      have Gh6 : xGt (hm d) gt h6 := Gh5.fr Qh6 (by decide +kernel)
      have Q46 : xHq d (hX d (hBe d) (hBc d) r k b ll gt q) h6 := by
        rw [show r = 0 by omega, hX_lf (by omega)]
        exact ⟨by show fld h6 19 4 = b; omega, fun j hj => (fh6 j (by omega)).trans ((congrFun (oh6 25 (by decide)) j).symm.trans (Lh6 j (by omega)))⟩
      refine zwW_retv (nx := 47) (a := 0) (b := 0) (by decide +kernel) ?_
      exact ⟨Ch6, Xh6.le (by decide) (by decide), by exact Q46, by exact Gh6, by exact Lh6, by exact Jh6⟩
    · refine zwW_p [(1, 1, 0), (0, 6, 0)] (q := 23) (ls' := [(2, 19), (0, a), (0, b), (9, 0)]) (st' := [(0, 6), (0, a)]) (by decide +kernel) rfl ?_
      refine zwic_lt (q := 47) (nx := 26) (by decide +kernel) (fun c7 => ?_) (fun c7 => ?_)
      · obtain ⟨r1, hr1⟩ : ∃ r1, r = r1 + 1 := ⟨r - 1, by omega⟩
        refine zwW_p [(1, 0, 2)] (q := 48) (ls' := [(2, 19), (0, a), (0, b), (9, 0)]) (st' := [(2, 19)]) (by decide +kernel) rfl ?_
        refine zwW_gc C.1 (kd := 3) (bn := 8) (n := 10) (c := 25) (nx := 51) (by decide +kernel) ?_
        refine zwW_p [(1, 1, 0), (0, -1, 0)] (q := 53) (ls' := [(2, 19), (0, a), (0, b), (9, 0)]) (st' := [(0, -1), (0, a), (2, 25)]) (by decide +kernel) rfl ?_
        have ib1 : 0 ≤ a ∧ a < ((6 : Nat) : Int) := (by first | omega | exact ⟨by omega, by omega⟩)
        refine zwW_as C.1 (a1 := 25) (a2 := 25) (n := 6) (lo := -2147483648) (hi := 2147483647) (nx := 54) (by decide +kernel) (by first | decide | exact ⟨by decide, by decide⟩) ib1 (by first | decide | exact ⟨by decide, by decide⟩) ?_
        intro h8 eh8 Ih8
        have Ch8 : CI h8 := C.wc eh8 Ih8 (by decide) (by decide)
        have Qh8 : zXR [(25, 25, 0, 6)] 0 0 h h8 := zXR.wc eh8 rfl ⟨by decide, by decide, Or.inl (by decide)⟩ (by first | omega | exact ⟨by omega, by omega⟩)
        have E53 := eh8
        have S53 := C.1.s (r := 25) (a1 := 25) (a2 := 25) (k := 20) (n := 6) (by decide +kernel) (by decide) (by decide)
        have Xh8 : zXR msxT (0) (0) h h8 := X.tr (c2 := 0) (s2 := 0) Qh8 (by decide +kernel) (by decide) (by decide)
        have Zh8 : yC h8 = (yC h) := (yC_fr C Qh8 (by decide +kernel) (C.1.b (a1 := 37) (a2 := 37) (j1 := 86) (j2 := 87) (lo := 0) (hi := 6) (by decide +kernel) (r := 37) (j := 86) (by decide) (by decide) (by decide) (by decide)).2).trans (rfl : yC h = yC h)
        have Jh8 : yR h8 := J.fr C Qh8 (by decide +kernel)
        have th8_21_2 : fld h8 21 2 = fld h 21 2 := Qh8.f (a1 := 21) (a2 := 21) (j1 := 2) (j2 := 3) (by decide +kernel) (by first | decide | exact ⟨by decide, by decide⟩) (by first | decide | exact ⟨by decide, by decide⟩) (by first | decide | exact ⟨by decide, by decide⟩)
        have th8_19_4 : fld h8 19 4 = fld h 19 4 := Qh8.f (a1 := 19) (a2 := 19) (j1 := 4) (j2 := 5) (by decide +kernel) (by first | decide | exact ⟨by decide, by decide⟩) (by first | decide | exact ⟨by decide, by decide⟩) (by first | decide | exact ⟨by decide, by decide⟩)
        have Hh8 : xHs d hh h8 := H.fr C Qh8 (by decide +kernel)
        have Gh8 : xGt (hm d) gt h8 := G.fr Qh8 (by decide +kernel)
        have QQh8 : xHq d q h8 := QQ.fr Qh8 (by decide +kernel)
        have P54 : xPk (k + 1) (hu ll k (-1)) h8 := L.sx E53 (by omega) (by omega) S53
        refine zwW_p [(1, 0, 2)] (q := 55) (ls' := [(2, 19), (0, a), (0, b), (9, 0)]) (st' := [(2, 19)]) (by decide +kernel) rfl ?_
        refine zwW_gc Ch8.1 (kd := 3) (bn := 6) (n := 10) (c := 23) (nx := 58) (by decide +kernel) ?_
        refine zwW_p [(1, 1, 0)] (q := 59) (ls' := [(2, 19), (0, a), (0, b), (9, 0)]) (st' := [(0, a), (2, 23)]) (by decide +kernel) rfl ?_
        refine zwW_al Ch8.1 (a1 := 23) (a2 := 23) (kd := 20) (n := 6) (t := 0) (lo := -2147483648) (hi := 2147483647) (nx := 60) (by decide +kernel) (by first | decide | exact ⟨by decide, by decide⟩) ib1 ?_
        intro v9 ev9 lv9 uv9
        have V60 : v9 = hBe d k := ev9.trans (by rw [show a.toNat = k by omega]; exact (Hh8.2 k (by omega)).2)
        refine zwif_ne (q := 71) (nx := 63) (by decide +kernel) (fun c10 => ?_) (fun c10 => ?_)
        · have L71 : xPk k ll h8 := by first | exact P54.p | exact trivial.p
          have G71 : xGt (hm d) gt h8 := by first | exact Gh8 | exact trivial
          have Q71 : xHq d (hX0 d k r1 b ll gt q) h8 := by first | (rw [hX0_n (by omega)]; exact QQh8) | (rw [hX0_z (by omega)]; exact trivial)
          refine zwW_p [(0, 0, 0)] (q := 72) (ls' := [(2, 19), (0, a), (0, b), (9, 0)]) (st' := [(0, 0)]) (by decide +kernel) rfl ?_
          refine zwW_p [(2, 3, 0)] (q := 73) (ls' := [(2, 19), (0, a), (0, b), (0, 0)]) (st' := []) (by decide +kernel) rfl ?_
          have L11 : ∀ (n0 : Nat) (iL11 : Int) (hL11 : Hp), n0 = ((1000 - iL11)).toNat → (xHs d hh hL11) → (xPk k ll hL11) → (xGt (hm d) gt hL11) → (xHq d (fo (hXs d k r1 b ll gt) (iL11).toNat (hX0 d k r1 b ll gt q)) hL11) → (iL11 ≤ hm d) → (0 ≤ iL11 ∧ iL11 ≤ 6) → (yC hL11 = (yC h)) → (yR hL11) → CI hL11 → zXR msxT (0) (0) h hL11 → zwW sc (D0 + 8) 212 73 [(2, 19), (0, a), (0, b), (0, iL11)] [] hL11 (zwRv (fun g => CI g ∧ zXR msxT (0) (0) h g ∧ (xHq d (hX d (hBe d) (hBc d) r k b ll gt q) g) ∧ (xGt (hm d) gt g) ∧ (xPk k ll g) ∧ (yR g))) := by
            intro n0
            induction n0 using Nat.strongRecOn with
            | ind n0 IHL11 =>
              intro iL11 hL11 hnL11 iL11_0 iL11_1 iL11_2 iL11_3 iL11_4 iL11_5 iL11_6 iL11_7 ChL11 XhL11
              have HL2 := iL11_0.1.2.1
              refine zwW_p [(1, 3, 0), (1, 0, 2)] (q := 75) (ls' := [(2, 19), (0, a), (0, b), (0, iL11)]) (st' := [(2, 19), (0, iL11)]) (by decide +kernel) rfl ?_
              refine zwW_gc ChL11.1 (kd := 3) (bn := 1) (n := 10) (c := 21) (nx := 78) (by decide +kernel) ?_
              refine zwW_cm ChL11.1 (op := 60) (k' := 96) (n := 0) (kd := 0) (m := 3) (nx := 81) (r := 21) (tl := []) (st' := [(0, iL11)]) (by decide +kernel) rfl (by decide +kernel) rfl (x96_21 ChL11) ?_
              rintro v12 _ ⟨rfl, ev12⟩
              have bv12 := zLb_21 ChL11
              refine zwic_ge (q := 180) (nx := 84) (by decide +kernel) (fun c13 => ?_) (fun c13 => ?_)
              · have Q180 : xHq d (hX d (hBe d) (hBc d) r k b ll gt q) hL11 := by
                  rw [hr1, hX_s (by omega)]
                  have z := iL11_3
                  rw [show (iL11).toNat = hm d by omega] at z
                  exact z
                refine zwW_retv (nx := 181) (a := 0) (b := 0) (by decide +kernel) ?_
                exact ⟨ChL11, XhL11.le (by decide) (by decide), by exact Q180, by exact iL11_2, by exact iL11_1, by exact iL11_7⟩
              · refine zwW_p [(1, 3, 0), (0, 6, 0)] (q := 87) (ls' := [(2, 19), (0, a), (0, b), (0, iL11)]) (st' := [(0, 6), (0, iL11)]) (by decide +kernel) rfl ?_
                refine zwic_ge (q := 180) (nx := 90) (by decide +kernel) (fun c14 => ?_) (fun c14 => ?_)
                · exfalso; omega
                · refine zwW_p [(1, 0, 2)] (q := 91) (ls' := [(2, 19), (0, a), (0, b), (0, iL11)]) (st' := [(2, 19)]) (by decide +kernel) rfl ?_
                  refine zwW_gc ChL11.1 (kd := 3) (bn := 6) (n := 10) (c := 23) (nx := 94) (by decide +kernel) ?_
                  refine zwW_p [(1, 1, 0)] (q := 95) (ls' := [(2, 19), (0, a), (0, b), (0, iL11)]) (st' := [(0, a), (2, 23)]) (by decide +kernel) rfl ?_
                  refine zwW_al ChL11.1 (a1 := 23) (a2 := 23) (kd := 20) (n := 6) (t := 0) (lo := -2147483648) (hi := 2147483647) (nx := 96) (by decide +kernel) (by first | decide | exact ⟨by decide, by decide⟩) ib1 ?_
                  intro v15 ev15 lv15 uv15
                  have V96 : v15 = hBe d k := ev15.trans (by rw [show a.toNat = k by omega]; exact (iL11_0.2 k (by omega)).2)
                  refine zwW_p [(1, 3, 0)] (q := 97) (ls' := [(2, 19), (0, a), (0, b), (0, iL11)]) (st' := [(0, iL11), (0, v15)]) (by decide +kernel) rfl ?_
                  refine zwW_ib (a := 9) (nx := 98) (by decide +kernel) rfl ?_
                  refine zwW_p [(0, 1, 0)] (q := 99) (ls' := [(2, 19), (0, a), (0, b), (0, iL11)]) (st' := [(0, 1), (0, (i_shr v15 iL11))]) (by decide +kernel) rfl ?_
                  refine zwW_ib (a := 5) (nx := 100) (by decide +kernel) rfl ?_
                  refine zwif_eq (q := 174) (nx := 103) (by decide +kernel) (fun c16 => ?_) (fun c16 => ?_)
                  · have G174 : xGt (hm d) gt hL11 := by first | exact iL11_2 | exact (trivial.wx E173 (by omega) S173).cg (fun i hi => hu_bk (by omega))
                    have Q174 : xHq d (fo (hXs d k r1 b ll gt) ((iL11).toNat + 1) (hX0 d k r1 b ll gt q)) hL11 := by
                      rw [fo_s]
                      first
                      | (rw [hXs_n C103, ← M156]; exact iL11_3)
                      | (rw [hXs_z (by unfold hBc yBt; rw [← V96, show (((iL11).toNat : Nat) : Int) = iL11 by omega]; omega)]; exact iL11_3)
                    refine zwW_inc (i := 3) (c := 1) (x := iL11) (nx := 177) (by decide +kernel) rfl (by first | omega | exact ⟨by omega, by omega⟩) (ls' := [(2, 19), (0, a), (0, b), (0, (iL11 + 1))]) rfl ?_
                    refine zwW_p [(24, 73, 0)] (q := 73) (ls' := [(2, 19), (0, a), (0, b), (0, (iL11 + 1))]) (st' := []) (by decide +kernel) rfl ?_
                    exact IHL11 ((1000 - (iL11 + 1))).toNat (by omega) (iL11 + 1) hL11 rfl (iL11_0) (iL11_1) (G174) (by rw [show (iL11 + 1).toNat = (iL11).toNat + 1 by omega]; exact Q174) (by omega) (by omega) (iL11_6) (iL11_7) ChL11 (XhL11.le (by decide) (by decide))
                  · have C103 : hBc d k (iL11).toNat ≠ 0 := by
                      unfold hBc yBt
                      rw [← V96, show (((iL11).toNat : Nat) : Int) = iL11 by omega]
                      omega
                    refine zwW_p [(1, 0, 2)] (q := 104) (ls' := [(2, 19), (0, a), (0, b), (0, iL11)]) (st' := [(2, 19)]) (by decide +kernel) rfl ?_
                    refine zwW_gc ChL11.1 (kd := 3) (bn := 8) (n := 10) (c := 25) (nx := 107) (by decide +kernel) ?_
                    refine zwW_p [(1, 1, 0), (1, 3, 0)] (q := 109) (ls' := [(2, 19), (0, a), (0, b), (0, iL11)]) (st' := [(0, iL11), (0, a), (2, 25)]) (by decide +kernel) rfl ?_
                    refine zwW_as ChL11.1 (a1 := 25) (a2 := 25) (n := 6) (lo := -2147483648) (hi := 2147483647) (nx := 110) (by decide +kernel) (by first | decide | exact ⟨by decide, by decide⟩) ib1 (by first | omega | exact ⟨by omega, by omega⟩) ?_
                    intro h17 eh17 Ih17
                    have Ch17 : CI h17 := ChL11.wc eh17 Ih17 (by decide) (by decide)
                    have Qh17 : zXR [(25, 25, 0, 6)] 0 0 hL11 h17 := zXR.wc eh17 rfl ⟨by decide, by decide, Or.inl (by decide)⟩ (by first | omega | exact ⟨by omega, by omega⟩)
                    have E109 := eh17
                    have S109 := ChL11.1.s (r := 25) (a1 := 25) (a2 := 25) (k := 20) (n := 6) (by decide +kernel) (by decide) (by decide)
                    have Xh17 : zXR msxT (0) (0) h h17 := XhL11.tr (c2 := 0) (s2 := 0) Qh17 (by decide +kernel) (by decide) (by decide)
                    have Zh17 : yC h17 = (yC h) := (yC_fr ChL11 Qh17 (by decide +kernel) (ChL11.1.b (a1 := 37) (a2 := 37) (j1 := 86) (j2 := 87) (lo := 0) (hi := 6) (by decide +kernel) (r := 37) (j := 86) (by decide) (by decide) (by decide) (by decide)).2).trans iL11_6
                    have Jh17 : yR h17 := iL11_7.fr ChL11 Qh17 (by decide +kernel)
                    have th17_21_2 : fld h17 21 2 = fld hL11 21 2 := Qh17.f (a1 := 21) (a2 := 21) (j1 := 2) (j2 := 3) (by decide +kernel) (by first | decide | exact ⟨by decide, by decide⟩) (by first | decide | exact ⟨by decide, by decide⟩) (by first | decide | exact ⟨by decide, by decide⟩)
                    have th17_19_4 : fld h17 19 4 = fld hL11 19 4 := Qh17.f (a1 := 19) (a2 := 19) (j1 := 4) (j2 := 5) (by decide +kernel) (by first | decide | exact ⟨by decide, by decide⟩) (by first | decide | exact ⟨by decide, by decide⟩) (by first | decide | exact ⟨by decide, by decide⟩)
                    have Hh17 : xHs d hh h17 := iL11_0.fr ChL11 Qh17 (by decide +kernel)
                    have Gh17 : xGt (hm d) gt h17 := iL11_2.fr Qh17 (by decide +kernel)
                    have QKh17 := iL11_3.fr Qh17 (by decide +kernel)
                    have P110 : xPk (k + 1) (hu ll k (((iL11).toNat : Nat) : Int)) h17 := by
                      rw [show (((iL11).toNat : Nat) : Int) = iL11 by omega]
                      exact iL11_1.sx E109 (by omega) (by omega) S109
                    refine zwW_p [(1, 0, 2)] (q := 111) (ls' := [(2, 19), (0, a), (0, b), (0, iL11)]) (st' := [(2, 19)]) (by decide +kernel) rfl ?_
                    refine zwW_gc Ch17.1 (kd := 3) (bn := 7) (n := 10) (c := 24) (nx := 114) (by decide +kernel) ?_
                    refine zwW_p [(1, 3, 0), (14, 0, 0)] (q := 116) (ls' := [(2, 19), (0, a), (0, b), (0, iL11)]) (st' := [(0, iL11), (2, 24), (0, iL11), (2, 24)]) (by decide +kernel) rfl ?_
                    have ib2 : 0 ≤ iL11 ∧ iL11 < ((6 : Nat) : Int) := (by first | omega | exact ⟨by omega, by omega⟩)
                    refine zwW_al Ch17.1 (a1 := 24) (a2 := 24) (kd := 20) (n := 6) (t := 0) (lo := -2147483648) (hi := 2147483647) (nx := 117) (by decide +kernel) (by first | decide | exact ⟨by decide, by decide⟩) ib2 ?_
                    intro v18 ev18 lv18 uv18
                    have V117 : v18 = gt (iL11).toNat := ev18.trans (Gh17 (iL11).toNat (by omega))
                    have GB1 := GB (iL11).toNat (by omega)
                    refine zwW_p [(1, 0, 2)] (q := 118) (ls' := [(2, 19), (0, a), (0, b), (0, iL11)]) (st' := [(2, 19), (0, v18), (0, iL11), (2, 24)]) (by decide +kernel) rfl ?_
                    refine zwW_gc Ch17.1 (kd := 3) (bn := 5) (n := 10) (c := 22) (nx := 121) (by decide +kernel) ?_
                    refine zwW_p [(1, 1, 0)] (q := 122) (ls' := [(2, 19), (0, a), (0, b), (0, iL11)]) (st' := [(0, a), (2, 22), (0, v18), (0, iL11), (2, 24)]) (by decide +kernel) rfl ?_
                    refine zwW_al Ch17.1 (a1 := 22) (a2 := 22) (kd := 20) (n := 6) (t := 0) (lo := -2147483648) (hi := 2147483647) (nx := 123) (by decide +kernel) (by first | decide | exact ⟨by decide, by decide⟩) ib1 ?_
                    intro v19 ev19 lv19 uv19
                    have V123 : v19 = hN d k := ev19.trans (by rw [show a.toNat = k by omega]; exact (Hh17.2 k (by omega)).1)
                    have NB := B.2.1 k (by omega)
                    refine zwW_add (nx := 124) (by decide +kernel) (by first | omega | exact ⟨by omega, by omega⟩) ?_
                    refine zwW_as Ch17.1 (a1 := 24) (a2 := 24) (n := 6) (lo := -2147483648) (hi := 2147483647) (nx := 125) (by decide +kernel) (by first | decide | exact ⟨by decide, by decide⟩) ib2 (by first | omega | exact ⟨by omega, by omega⟩) ?_
                    intro h20 eh20 Ih20
                    have Ch20 : CI h20 := Ch17.wc eh20 Ih20 (by decide) (by decide)
                    have Qh20 : zXR [(24, 24, 0, 6)] 0 0 h17 h20 := zXR.wc eh20 rfl ⟨by decide, by decide, Or.inl (by decide)⟩ (by first | omega | exact ⟨by omega, by omega⟩)
                    have E124 := eh20
                    have S124 := Ch17.1.s (r := 24) (a1 := 24) (a2 := 24) (k := 20) (n := 6) (by decide +kernel) (by decide) (by decide)
                    have Xh20 : zXR msxT (0) (0) h h20 := Xh17.tr (c2 := 0) (s2 := 0) Qh20 (by decide +kernel) (by decide) (by decide)
                    have Zh20 : yC h20 = (yC h) := (yC_fr Ch17 Qh20 (by decide +kernel) (Ch17.1.b (a1 := 37) (a2 := 37) (j1 := 86) (j2 := 87) (lo := 0) (hi := 6) (by decide +kernel) (r := 37) (j := 86) (by decide) (by decide) (by decide) (by decide)).2).trans Zh17
                    have Jh20 : yR h20 := Jh17.fr Ch17 Qh20 (by decide +kernel)
                    have th20_21_2 : fld h20 21 2 = fld h17 21 2 := Qh20.f (a1 := 21) (a2 := 21) (j1 := 2) (j2 := 3) (by decide +kernel) (by first | decide | exact ⟨by decide, by decide⟩) (by first | decide | exact ⟨by decide, by decide⟩) (by first | decide | exact ⟨by decide, by decide⟩)
                    have th20_19_4 : fld h20 19 4 = fld h17 19 4 := Qh20.f (a1 := 19) (a2 := 19) (j1 := 4) (j2 := 5) (by decide +kernel) (by first | decide | exact ⟨by decide, by decide⟩) (by first | decide | exact ⟨by decide, by decide⟩) (by first | decide | exact ⟨by decide, by decide⟩)
                    have Hh20 : xHs d hh h20 := Hh17.fr Ch17 Qh20 (by decide +kernel)
                    have Lh20 : xPk k ll h20 := P110.p.fr Qh20 (by decide +kernel)
                    have LKh20 := P110.fr Qh20 (by decide +kernel)
                    have QKh20 := QKh17.fr Qh20 (by decide +kernel)
                    have G125 : xGt (hm d) (hu gt (iL11).toNat (gt (iL11).toNat + hN d k)) h20 := by
                      rw [← V117, ← V123]
                      exact Gh17.wx E124 (by omega) S124
                    refine zwW_p [(1, 0, 2), (1, 1, 0), (0, 1, 0)] (q := 128) (ls' := [(2, 19), (0, a), (0, b), (0, iL11)]) (st' := [(0, 1), (0, a), (2, 19)]) (by decide +kernel) rfl ?_
                    refine zwW_add (nx := 129) (by decide +kernel) (by first | omega | exact ⟨by omega, by omega⟩) ?_
                    refine zwW_p [(1, 2, 0), (1, 0, 2)] (q := 131) (ls' := [(2, 19), (0, a), (0, b), (0, iL11)]) (st' := [(2, 19), (0, b), (0, (a + 1)), (2, 19)]) (by decide +kernel) rfl ?_
                    refine zwW_gc Ch20.1 (kd := 3) (bn := 7) (n := 10) (c := 24) (nx := 134) (by decide +kernel) ?_
                    refine zwW_p [(1, 3, 0)] (q := 135) (ls' := [(2, 19), (0, a), (0, b), (0, iL11)]) (st' := [(0, iL11), (2, 24), (0, b), (0, (a + 1)), (2, 19)]) (by decide +kernel) rfl ?_
                    refine zwW_al Ch20.1 (a1 := 24) (a2 := 24) (kd := 20) (n := 6) (t := 0) (lo := -2147483648) (hi := 2147483647) (nx := 136) (by decide +kernel) (by first | decide | exact ⟨by decide, by decide⟩) ib2 ?_
                    intro v21 ev21 lv21 uv21
                    have V136 : v21 = gt (iL11).toNat + hN d k := ev21.trans ((G125 (iL11).toNat (by omega)).trans hu_e)
                    have XK := Hh20.1.2.2 (iL11).toNat (by omega)
                    refine zwW_p [(1, 0, 2)] (q := 137) (ls' := [(2, 19), (0, a), (0, b), (0, iL11)]) (st' := [(2, 19), (0, v21), (0, b), (0, (a + 1)), (2, 19)]) (by decide +kernel) rfl ?_
                    refine zwW_gc Ch20.1 (kd := 3) (bn := 1) (n := 10) (c := 21) (nx := 140) (by decide +kernel) ?_
                    refine zwW_p [(1, 3, 0)] (q := 141) (ls' := [(2, 19), (0, a), (0, b), (0, iL11)]) (st' := [(0, iL11), (2, 21), (0, v21), (0, b), (0, (a + 1)), (2, 19)]) (by decide +kernel) rfl ?_
                    refine zwW_cm Ch20.1 (op := 60) (k' := 123) (n := 1) (kd := 0) (m := 3) (nx := 144) (r := 21) (tl := [(0, iL11)]) (st' := [(0, v21), (0, b), (0, (a + 1)), (2, 19)]) (by decide +kernel) rfl (by decide +kernel) rfl (x123_21 Ch20 (i := iL11) (by first | omega | exact ⟨by omega, by omega⟩)) ?_
                    rintro v22 _ ⟨rfl, Gv22, ev22⟩
                    have lv22 := Gv22.1
                    have pv22 : v22 = zv h20 21 iL11.toNat ∧ ((iL11.toNat : Nat) : Int) < fld h20 21 2 := ⟨ev22, by omega⟩
                    refine zwW_cast (a := 4) (kd := 4) (n := 19) (nx := 147) (by decide +kernel) rfl (Or.inr Gv22.2.1) ?_
                    have pv22 : v22 = zv h20 3 (hh (iL11).toNat) ∧ ((hh (iL11).toNat : Nat) : Int) < fld h20 3 2 := ⟨(ev22).trans XK.2, XK.1⟩
                    refine zwX_gi Ch20 (kd := 4) (bn := 13) (n := 19) (nx := 150) (by decide +kernel) Gv22.2.1 Gv22.1 rfl ?_
                    intro v23 ev23 lv23 uv23
                    have sv23 : v23 = (yC h) 91 (hh (iL11).toNat) := Eq.trans ev23 (Eq.trans (congrArg (fun q => fld h20 q 13) pv22.1) (Eq.trans (Eq.symm (yC_f (h := h20) (a := 91) (A := 3) (j := 13) (i := hh (iL11).toNat) rfl pv22.2)) (Eq.trans (congrFun (congrFun Zh20 91) (hh (iL11).toNat)) rfl)))
                    have V150 : v23 = hc d (iL11).toNat := sv23.trans (HC (iL11).toNat (by omega)).symm
                    have YB := (hB_ch B k (by omega)).2.2.2 (iL11).toNat (by omega) C103
                    have OB := B.2.2 k (iL11).toNat (by omega) (by omega) YB.1
                    have UB := HU (iL11).toNat (by omega)
                    have QT := hQt B (k := k) (by omega) (i := (iL11).toNat) (by omega) YB.1 GB1
                    refine zwW_cs (k' := 151) (n := 2) (nx := 153) (as := [(0, v21), (0, v23)]) (st' := [(0, b), (0, (a + 1)), (2, 19)]) (by decide +kernel) rfl (x151_s h20 Ch20 v21 v23 (by omega) (by omega) (by first | omega | exact ⟨by omega, by omega⟩) (by first | omega | exact ⟨by omega, by omega⟩)) (Nat.ble_eq_true_of_le (by omega)) ?_
                    rintro v24 _ ⟨rfl, f25, f26⟩
                    have V153 : v24 = (gt (iL11).toNat + hN d k + hc d (iL11).toNat - 1) / hc d (iL11).toNat := by
                      have z := f26.1
                      rw [z, V136, V150]
                    refine zwW_max (nx := 156) (by decide +kernel) rfl ?_
                    intro v27 ev27
                    have M156 : v27 = max b ((gt (iL11).toNat + hN d k + hc d (iL11).toNat - 1) / hc d (iL11).toNat) := by
                      rw [← V153]
                      exact ev27
                    refine zwW_cmv Ch20.1 (op := 60) (k' := 212) (n := 2) (kd := 3) (m := 10) (nx := 159) (r := 19) (tl := [(0, (a + 1)), (0, v27)]) (st' := []) (by decide +kernel) rfl (by decide +kernel) (Nat.ble_eq_true_of_le (by omega)) (HS (by omega) h20 Ch20 v27 (by omega) d hh (k + 1) r1 (hu ll k (((iL11).toNat : Nat) : Int)) (hu gt (iL11).toNat (gt (iL11).toNat + hN d k)) (fo (hXs d k r1 b ll gt) (iL11).toNat (hX0 d k r1 b ll gt q)) Jh20 B HU Hh20 (fun i hi => (HC i hi).trans (by rw [Zh20])) (by omega) (by omega) LKh20 G125 (hu_gb GB (by omega) NB) (by first | omega | exact ⟨by omega, by omega⟩) QKh20) ?_
                    rintro h32 ⟨Ch32, Qh32, f28, f29, f30, f31⟩
                    have Zh32 : yC h32 = (yC h) := (yC_fr Ch20 Qh32 (by decide +kernel) (Ch20.1.b (a1 := 37) (a2 := 37) (j1 := 86) (j2 := 87) (lo := 0) (hi := 6) (by decide +kernel) (r := 37) (j := 86) (by decide) (by decide) (by decide) (by decide)).2).trans Zh20
                    have Xh32 : zXR msxT (0) (0) h h32 := Xh20.tr (c2 := 0) (s2 := 0) Qh32 (by decide +kernel) (by decide) (by decide)
                    have th32_21_2 : fld h32 21 2 = fld h20 21 2 := Qh32.f (a1 := 21) (a2 := 21) (j1 := 2) (j2 := 3) (by decide +kernel) (by first | decide | exact ⟨by decide, by decide⟩) (by first | decide | exact ⟨by decide, by decide⟩) (by first | decide | exact ⟨by decide, by decide⟩)
                    have Hh32 : xHs d hh h32 := Hh20.fr Ch20 Qh32 (by decide +kernel)
                    refine zwW_p [(1, 0, 2)] (q := 160) (ls' := [(2, 19), (0, a), (0, b), (0, iL11)]) (st' := [(2, 19)]) (by decide +kernel) rfl ?_
                    refine zwW_gc Ch32.1 (kd := 3) (bn := 7) (n := 10) (c := 24) (nx := 163) (by decide +kernel) ?_
                    refine zwW_p [(1, 3, 0), (14, 0, 0)] (q := 165) (ls' := [(2, 19), (0, a), (0, b), (0, iL11)]) (st' := [(0, iL11), (2, 24), (0, iL11), (2, 24)]) (by decide +kernel) rfl ?_
                    refine zwW_al Ch32.1 (a1 := 24) (a2 := 24) (kd := 20) (n := 6) (t := 0) (lo := -2147483648) (hi := 2147483647) (nx := 166) (by decide +kernel) (by first | decide | exact ⟨by decide, by decide⟩) ib2 ?_
                    intro v33 ev33 lv33 uv33
                    have V166 : v33 = gt (iL11).toNat + hN d k := ev33.trans ((f29 (iL11).toNat (by omega)).trans hu_e)
                    refine zwW_p [(1, 0, 2)] (q := 167) (ls' := [(2, 19), (0, a), (0, b), (0, iL11)]) (st' := [(2, 19), (0, v33), (0, iL11), (2, 24)]) (by decide +kernel) rfl ?_
                    refine zwW_gc Ch32.1 (kd := 3) (bn := 5) (n := 10) (c := 22) (nx := 170) (by decide +kernel) ?_
                    refine zwW_p [(1, 1, 0)] (q := 171) (ls' := [(2, 19), (0, a), (0, b), (0, iL11)]) (st' := [(0, a), (2, 22), (0, v33), (0, iL11), (2, 24)]) (by decide +kernel) rfl ?_
                    refine zwW_al Ch32.1 (a1 := 22) (a2 := 22) (kd := 20) (n := 6) (t := 0) (lo := -2147483648) (hi := 2147483647) (nx := 172) (by decide +kernel) (by first | decide | exact ⟨by decide, by decide⟩) ib1 ?_
                    intro v34 ev34 lv34 uv34
                    have V172 : v34 = hN d k := ev34.trans (by rw [show a.toNat = k by omega]; exact (Hh32.2 k (by omega)).1)
                    refine zwW_sub (nx := 173) (by decide +kernel) (by first | omega | exact ⟨by omega, by omega⟩) ?_
                    refine zwW_as Ch32.1 (a1 := 24) (a2 := 24) (n := 6) (lo := -2147483648) (hi := 2147483647) (nx := 174) (by decide +kernel) (by first | decide | exact ⟨by decide, by decide⟩) ib2 (by first | omega | exact ⟨by omega, by omega⟩) ?_
                    intro h35 eh35 Ih35
                    have Ch35 : CI h35 := Ch32.wc eh35 Ih35 (by decide) (by decide)
                    have Qh35 : zXR [(24, 24, 0, 6)] 0 0 h32 h35 := zXR.wc eh35 rfl ⟨by decide, by decide, Or.inl (by decide)⟩ (by first | omega | exact ⟨by omega, by omega⟩)
                    have E173 := eh35
                    have S173 := Ch32.1.s (r := 24) (a1 := 24) (a2 := 24) (k := 20) (n := 6) (by decide +kernel) (by decide) (by decide)
                    have Xh35 : zXR msxT (0) (0) h h35 := Xh32.tr (c2 := 0) (s2 := 0) Qh35 (by decide +kernel) (by decide) (by decide)
                    have Zh35 : yC h35 = (yC h) := (yC_fr Ch32 Qh35 (by decide +kernel) (Ch32.1.b (a1 := 37) (a2 := 37) (j1 := 86) (j2 := 87) (lo := 0) (hi := 6) (by decide +kernel) (r := 37) (j := 86) (by decide) (by decide) (by decide) (by decide)).2).trans Zh32
                    have Jh35 : yR h35 := f31.fr Ch32 Qh35 (by decide +kernel)
                    have th35_21_2 : fld h35 21 2 = fld h32 21 2 := Qh35.f (a1 := 21) (a2 := 21) (j1 := 2) (j2 := 3) (by decide +kernel) (by first | decide | exact ⟨by decide, by decide⟩) (by first | decide | exact ⟨by decide, by decide⟩) (by first | decide | exact ⟨by decide, by decide⟩)
                    have th35_19_4 : fld h35 19 4 = fld h32 19 4 := Qh35.f (a1 := 19) (a2 := 19) (j1 := 4) (j2 := 5) (by decide +kernel) (by first | decide | exact ⟨by decide, by decide⟩) (by first | decide | exact ⟨by decide, by decide⟩) (by first | decide | exact ⟨by decide, by decide⟩)
                    have Hh35 : xHs d hh h35 := Hh32.fr Ch32 Qh35 (by decide +kernel)
                    have Lh35 : xPk k ll h35 := f30.p.fr Qh35 (by decide +kernel)
                    have QKh35 := f28.fr Qh35 (by decide +kernel)
                    have G174 : xGt (hm d) gt h35 := by first | exact None | exact (f29.wx E173 (by omega) S173).cg (fun i hi => hu_bk (by omega))
                    have Q174 : xHq d (fo (hXs d k r1 b ll gt) ((iL11).toNat + 1) (hX0 d k r1 b ll gt q)) h35 := by
                      rw [fo_s]
                      first
                      | (rw [hXs_n C103, ← M156]; exact QKh35)
                      | (rw [hXs_z (by unfold hBc yBt; rw [← V96, show (((iL11).toNat : Nat) : Int) = iL11 by omega]; omega)]; exact iL11_3)
                    refine zwW_inc (i := 3) (c := 1) (x := iL11) (nx := 177) (by decide +kernel) rfl (by first | omega | exact ⟨by omega, by omega⟩) (ls' := [(2, 19), (0, a), (0, b), (0, (iL11 + 1))]) rfl ?_
                    refine zwW_p [(24, 73, 0)] (q := 73) (ls' := [(2, 19), (0, a), (0, b), (0, (iL11 + 1))]) (st' := []) (by decide +kernel) rfl ?_
                    exact IHL11 ((1000 - (iL11 + 1))).toNat (by omega) (iL11 + 1) h35 rfl (Hh35) (Lh35) (G174) (by rw [show (iL11 + 1).toNat = (iL11).toNat + 1 by omega]; exact Q174) (by omega) (by omega) (Zh35) (Jh35) Ch35 (Xh35.le (by decide) (by decide))
          exact L11 _ 0 h8 rfl (Hh8) (L71) (G71) (Q71) (by omega) (by omega) (Zh8) (Jh8) Ch8 (Xh8.le (by decide) (by decide))
        · refine zwW_p [(1, 0, 2), (1, 1, 0), (0, 1, 0)] (q := 66) (ls' := [(2, 19), (0, a), (0, b), (9, 0)]) (st' := [(0, 1), (0, a), (2, 19)]) (by decide +kernel) rfl ?_
          refine zwW_add (nx := 67) (by decide +kernel) (by first | omega | exact ⟨by omega, by omega⟩) ?_
          refine zwW_p [(1, 2, 0)] (q := 68) (ls' := [(2, 19), (0, a), (0, b), (9, 0)]) (st' := [(0, b), (0, (a + 1)), (2, 19)]) (by decide +kernel) rfl ?_
          refine zwW_cmv Ch8.1 (op := 60) (k' := 212) (n := 2) (kd := 3) (m := 10) (nx := 71) (r := 19) (tl := [(0, (a + 1)), (0, b)]) (st' := []) (by decide +kernel) rfl (by decide +kernel) (Nat.ble_eq_true_of_le (by omega)) (HS (by omega) h8 Ch8 b (by omega) d hh (k + 1) r1 (hu ll k (-1)) gt q Jh8 B HU Hh8 (fun i hi => (HC i hi).trans (by rw [Zh8])) (by omega) (by omega) P54 Gh8 (fun i hi => by have := GB i hi; omega) pb QQh8) ?_
          rintro h40 ⟨Ch40, Qh40, f36, f37, f38, f39⟩
          have Zh40 : yC h40 = (yC h) := (yC_fr Ch8 Qh40 (by decide +kernel) (Ch8.1.b (a1 := 37) (a2 := 37) (j1 := 86) (j2 := 87) (lo := 0) (hi := 6) (by decide +kernel) (r := 37) (j := 86) (by decide) (by decide) (by decide) (by decide)).2).trans Zh8
          have Xh40 : zXR msxT (0) (0) h h40 := Xh8.tr (c2 := 0) (s2 := 0) Qh40 (by decide +kernel) (by decide) (by decide)
          have th40_21_2 : fld h40 21 2 = fld h8 21 2 := Qh40.f (a1 := 21) (a2 := 21) (j1 := 2) (j2 := 3) (by decide +kernel) (by first | decide | exact ⟨by decide, by decide⟩) (by first | decide | exact ⟨by decide, by decide⟩) (by first | decide | exact ⟨by decide, by decide⟩)
          have Hh40 : xHs d hh h40 := Hh8.fr Ch8 Qh40 (by decide +kernel)
          have L71 : xPk k ll h40 := by first | exact None | exact f38.p
          have G71 : xGt (hm d) gt h40 := by first | exact None | exact f37
          have Q71 : xHq d (hX0 d k r1 b ll gt q) h40 := by first | (rw [hX0_n (by omega)]; exact None) | (rw [hX0_z (by omega)]; exact f36)
          refine zwW_p [(0, 0, 0)] (q := 72) (ls' := [(2, 19), (0, a), (0, b), (9, 0)]) (st' := [(0, 0)]) (by decide +kernel) rfl ?_
          refine zwW_p [(2, 3, 0)] (q := 73) (ls' := [(2, 19), (0, a), (0, b), (0, 0)]) (st' := []) (by decide +kernel) rfl ?_
          have L41 : ∀ (n0 : Nat) (iL41 : Int) (hL41 : Hp), n0 = ((1000 - iL41)).toNat → (xHs d hh hL41) → (xPk k ll hL41) → (xGt (hm d) gt hL41) → (xHq d (fo (hXs d k r1 b ll gt) (iL41).toNat (hX0 d k r1 b ll gt q)) hL41) → (iL41 ≤ hm d) → (0 ≤ iL41 ∧ iL41 ≤ 6) → (yC hL41 = (yC h)) → (yR hL41) → CI hL41 → zXR msxT (0) (0) h hL41 → zwW sc (D0 + 8) 212 73 [(2, 19), (0, a), (0, b), (0, iL41)] [] hL41 (zwRv (fun g => CI g ∧ zXR msxT (0) (0) h g ∧ (xHq d (hX d (hBe d) (hBc d) r k b ll gt q) g) ∧ (xGt (hm d) gt g) ∧ (xPk k ll g) ∧ (yR g))) := by
            intro n0
            induction n0 using Nat.strongRecOn with
            | ind n0 IHL41 =>
              intro iL41 hL41 hnL41 iL41_0 iL41_1 iL41_2 iL41_3 iL41_4 iL41_5 iL41_6 iL41_7 ChL41 XhL41
              have HL2 := iL41_0.1.2.1
              refine zwW_p [(1, 3, 0), (1, 0, 2)] (q := 75) (ls' := [(2, 19), (0, a), (0, b), (0, iL41)]) (st' := [(2, 19), (0, iL41)]) (by decide +kernel) rfl ?_
              refine zwW_gc ChL41.1 (kd := 3) (bn := 1) (n := 10) (c := 21) (nx := 78) (by decide +kernel) ?_
              refine zwW_cm ChL41.1 (op := 60) (k' := 96) (n := 0) (kd := 0) (m := 3) (nx := 81) (r := 21) (tl := []) (st' := [(0, iL41)]) (by decide +kernel) rfl (by decide +kernel) rfl (x96_21 ChL41) ?_
              rintro v42 _ ⟨rfl, ev42⟩
              have bv42 := zLb_21 ChL41
              refine zwic_ge (q := 180) (nx := 84) (by decide +kernel) (fun c43 => ?_) (fun c43 => ?_)
              · have Q180 : xHq d (hX d (hBe d) (hBc d) r k b ll gt q) hL41 := by
                  rw [hr1, hX_s (by omega)]
                  have z := iL41_3
                  rw [show (iL41).toNat = hm d by omega] at z
                  exact z
                refine zwW_retv (nx := 181) (a := 0) (b := 0) (by decide +kernel) ?_
                exact ⟨ChL41, XhL41.le (by decide) (by decide), by exact Q180, by exact iL41_2, by exact iL41_1, by exact iL41_7⟩
              · refine zwW_p [(1, 3, 0), (0, 6, 0)] (q := 87) (ls' := [(2, 19), (0, a), (0, b), (0, iL41)]) (st' := [(0, 6), (0, iL41)]) (by decide +kernel) rfl ?_
                refine zwic_ge (q := 180) (nx := 90) (by decide +kernel) (fun c44 => ?_) (fun c44 => ?_)
                · exfalso; omega
                · refine zwW_p [(1, 0, 2)] (q := 91) (ls' := [(2, 19), (0, a), (0, b), (0, iL41)]) (st' := [(2, 19)]) (by decide +kernel) rfl ?_
                  refine zwW_gc ChL41.1 (kd := 3) (bn := 6) (n := 10) (c := 23) (nx := 94) (by decide +kernel) ?_
                  refine zwW_p [(1, 1, 0)] (q := 95) (ls' := [(2, 19), (0, a), (0, b), (0, iL41)]) (st' := [(0, a), (2, 23)]) (by decide +kernel) rfl ?_
                  refine zwW_al ChL41.1 (a1 := 23) (a2 := 23) (kd := 20) (n := 6) (t := 0) (lo := -2147483648) (hi := 2147483647) (nx := 96) (by decide +kernel) (by first | decide | exact ⟨by decide, by decide⟩) ib1 ?_
                  intro v45 ev45 lv45 uv45
                  have V96 : v45 = hBe d k := ev45.trans (by rw [show a.toNat = k by omega]; exact (iL41_0.2 k (by omega)).2)
                  refine zwW_p [(1, 3, 0)] (q := 97) (ls' := [(2, 19), (0, a), (0, b), (0, iL41)]) (st' := [(0, iL41), (0, v45)]) (by decide +kernel) rfl ?_
                  refine zwW_ib (a := 9) (nx := 98) (by decide +kernel) rfl ?_
                  refine zwW_p [(0, 1, 0)] (q := 99) (ls' := [(2, 19), (0, a), (0, b), (0, iL41)]) (st' := [(0, 1), (0, (i_shr v45 iL41))]) (by decide +kernel) rfl ?_
                  refine zwW_ib (a := 5) (nx := 100) (by decide +kernel) rfl ?_
                  refine zwif_eq (q := 174) (nx := 103) (by decide +kernel) (fun c46 => ?_) (fun c46 => ?_)
                  · have G174 : xGt (hm d) gt hL41 := by first | exact iL41_2 | exact (f37.wx E173 (by omega) S173).cg (fun i hi => hu_bk (by omega))
                    have Q174 : xHq d (fo (hXs d k r1 b ll gt) ((iL41).toNat + 1) (hX0 d k r1 b ll gt q)) hL41 := by
                      rw [fo_s]
                      first
                      | (rw [hXs_n C103, ← M156]; exact iL41_3)
                      | (rw [hXs_z (by unfold hBc yBt; rw [← V96, show (((iL41).toNat : Nat) : Int) = iL41 by omega]; omega)]; exact iL41_3)
                    refine zwW_inc (i := 3) (c := 1) (x := iL41) (nx := 177) (by decide +kernel) rfl (by first | omega | exact ⟨by omega, by omega⟩) (ls' := [(2, 19), (0, a), (0, b), (0, (iL41 + 1))]) rfl ?_
                    refine zwW_p [(24, 73, 0)] (q := 73) (ls' := [(2, 19), (0, a), (0, b), (0, (iL41 + 1))]) (st' := []) (by decide +kernel) rfl ?_
                    exact IHL41 ((1000 - (iL41 + 1))).toNat (by omega) (iL41 + 1) hL41 rfl (iL41_0) (iL41_1) (G174) (by rw [show (iL41 + 1).toNat = (iL41).toNat + 1 by omega]; exact Q174) (by omega) (by omega) (iL41_6) (iL41_7) ChL41 (XhL41.le (by decide) (by decide))
                  · have C103 : hBc d k (iL41).toNat ≠ 0 := by
                      unfold hBc yBt
                      rw [← V96, show (((iL41).toNat : Nat) : Int) = iL41 by omega]
                      omega
                    refine zwW_p [(1, 0, 2)] (q := 104) (ls' := [(2, 19), (0, a), (0, b), (0, iL41)]) (st' := [(2, 19)]) (by decide +kernel) rfl ?_
                    refine zwW_gc ChL41.1 (kd := 3) (bn := 8) (n := 10) (c := 25) (nx := 107) (by decide +kernel) ?_
                    refine zwW_p [(1, 1, 0), (1, 3, 0)] (q := 109) (ls' := [(2, 19), (0, a), (0, b), (0, iL41)]) (st' := [(0, iL41), (0, a), (2, 25)]) (by decide +kernel) rfl ?_
                    refine zwW_as ChL41.1 (a1 := 25) (a2 := 25) (n := 6) (lo := -2147483648) (hi := 2147483647) (nx := 110) (by decide +kernel) (by first | decide | exact ⟨by decide, by decide⟩) ib1 (by first | omega | exact ⟨by omega, by omega⟩) ?_
                    intro h47 eh47 Ih47
                    have Ch47 : CI h47 := ChL41.wc eh47 Ih47 (by decide) (by decide)
                    have Qh47 : zXR [(25, 25, 0, 6)] 0 0 hL41 h47 := zXR.wc eh47 rfl ⟨by decide, by decide, Or.inl (by decide)⟩ (by first | omega | exact ⟨by omega, by omega⟩)
                    have E109 := eh47
                    have S109 := ChL41.1.s (r := 25) (a1 := 25) (a2 := 25) (k := 20) (n := 6) (by decide +kernel) (by decide) (by decide)
                    have Xh47 : zXR msxT (0) (0) h h47 := XhL41.tr (c2 := 0) (s2 := 0) Qh47 (by decide +kernel) (by decide) (by decide)
                    have Zh47 : yC h47 = (yC h) := (yC_fr ChL41 Qh47 (by decide +kernel) (ChL41.1.b (a1 := 37) (a2 := 37) (j1 := 86) (j2 := 87) (lo := 0) (hi := 6) (by decide +kernel) (r := 37) (j := 86) (by decide) (by decide) (by decide) (by decide)).2).trans iL41_6
                    have Jh47 : yR h47 := iL41_7.fr ChL41 Qh47 (by decide +kernel)
                    have th47_21_2 : fld h47 21 2 = fld hL41 21 2 := Qh47.f (a1 := 21) (a2 := 21) (j1 := 2) (j2 := 3) (by decide +kernel) (by first | decide | exact ⟨by decide, by decide⟩) (by first | decide | exact ⟨by decide, by decide⟩) (by first | decide | exact ⟨by decide, by decide⟩)
                    have th47_19_4 : fld h47 19 4 = fld hL41 19 4 := Qh47.f (a1 := 19) (a2 := 19) (j1 := 4) (j2 := 5) (by decide +kernel) (by first | decide | exact ⟨by decide, by decide⟩) (by first | decide | exact ⟨by decide, by decide⟩) (by first | decide | exact ⟨by decide, by decide⟩)
                    have Hh47 : xHs d hh h47 := iL41_0.fr ChL41 Qh47 (by decide +kernel)
                    have Gh47 : xGt (hm d) gt h47 := iL41_2.fr Qh47 (by decide +kernel)
                    have QKh47 := iL41_3.fr Qh47 (by decide +kernel)
                    have P110 : xPk (k + 1) (hu ll k (((iL41).toNat : Nat) : Int)) h47 := by
                      rw [show (((iL41).toNat : Nat) : Int) = iL41 by omega]
                      exact iL41_1.sx E109 (by omega) (by omega) S109
                    refine zwW_p [(1, 0, 2)] (q := 111) (ls' := [(2, 19), (0, a), (0, b), (0, iL41)]) (st' := [(2, 19)]) (by decide +kernel) rfl ?_
                    refine zwW_gc Ch47.1 (kd := 3) (bn := 7) (n := 10) (c := 24) (nx := 114) (by decide +kernel) ?_
                    refine zwW_p [(1, 3, 0), (14, 0, 0)] (q := 116) (ls' := [(2, 19), (0, a), (0, b), (0, iL41)]) (st' := [(0, iL41), (2, 24), (0, iL41), (2, 24)]) (by decide +kernel) rfl ?_
                    have ib3 : 0 ≤ iL41 ∧ iL41 < ((6 : Nat) : Int) := (by first | omega | exact ⟨by omega, by omega⟩)
                    refine zwW_al Ch47.1 (a1 := 24) (a2 := 24) (kd := 20) (n := 6) (t := 0) (lo := -2147483648) (hi := 2147483647) (nx := 117) (by decide +kernel) (by first | decide | exact ⟨by decide, by decide⟩) ib3 ?_
                    intro v48 ev48 lv48 uv48
                    have V117 : v48 = gt (iL41).toNat := ev48.trans (Gh47 (iL41).toNat (by omega))
                    have GB1 := GB (iL41).toNat (by omega)
                    refine zwW_p [(1, 0, 2)] (q := 118) (ls' := [(2, 19), (0, a), (0, b), (0, iL41)]) (st' := [(2, 19), (0, v48), (0, iL41), (2, 24)]) (by decide +kernel) rfl ?_
                    refine zwW_gc Ch47.1 (kd := 3) (bn := 5) (n := 10) (c := 22) (nx := 121) (by decide +kernel) ?_
                    refine zwW_p [(1, 1, 0)] (q := 122) (ls' := [(2, 19), (0, a), (0, b), (0, iL41)]) (st' := [(0, a), (2, 22), (0, v48), (0, iL41), (2, 24)]) (by decide +kernel) rfl ?_
                    refine zwW_al Ch47.1 (a1 := 22) (a2 := 22) (kd := 20) (n := 6) (t := 0) (lo := -2147483648) (hi := 2147483647) (nx := 123) (by decide +kernel) (by first | decide | exact ⟨by decide, by decide⟩) ib1 ?_
                    intro v49 ev49 lv49 uv49
                    have V123 : v49 = hN d k := ev49.trans (by rw [show a.toNat = k by omega]; exact (Hh47.2 k (by omega)).1)
                    have NB := B.2.1 k (by omega)
                    refine zwW_add (nx := 124) (by decide +kernel) (by first | omega | exact ⟨by omega, by omega⟩) ?_
                    refine zwW_as Ch47.1 (a1 := 24) (a2 := 24) (n := 6) (lo := -2147483648) (hi := 2147483647) (nx := 125) (by decide +kernel) (by first | decide | exact ⟨by decide, by decide⟩) ib3 (by first | omega | exact ⟨by omega, by omega⟩) ?_
                    intro h50 eh50 Ih50
                    have Ch50 : CI h50 := Ch47.wc eh50 Ih50 (by decide) (by decide)
                    have Qh50 : zXR [(24, 24, 0, 6)] 0 0 h47 h50 := zXR.wc eh50 rfl ⟨by decide, by decide, Or.inl (by decide)⟩ (by first | omega | exact ⟨by omega, by omega⟩)
                    have E124 := eh50
                    have S124 := Ch47.1.s (r := 24) (a1 := 24) (a2 := 24) (k := 20) (n := 6) (by decide +kernel) (by decide) (by decide)
                    have Xh50 : zXR msxT (0) (0) h h50 := Xh47.tr (c2 := 0) (s2 := 0) Qh50 (by decide +kernel) (by decide) (by decide)
                    have Zh50 : yC h50 = (yC h) := (yC_fr Ch47 Qh50 (by decide +kernel) (Ch47.1.b (a1 := 37) (a2 := 37) (j1 := 86) (j2 := 87) (lo := 0) (hi := 6) (by decide +kernel) (r := 37) (j := 86) (by decide) (by decide) (by decide) (by decide)).2).trans Zh47
                    have Jh50 : yR h50 := Jh47.fr Ch47 Qh50 (by decide +kernel)
                    have th50_21_2 : fld h50 21 2 = fld h47 21 2 := Qh50.f (a1 := 21) (a2 := 21) (j1 := 2) (j2 := 3) (by decide +kernel) (by first | decide | exact ⟨by decide, by decide⟩) (by first | decide | exact ⟨by decide, by decide⟩) (by first | decide | exact ⟨by decide, by decide⟩)
                    have th50_19_4 : fld h50 19 4 = fld h47 19 4 := Qh50.f (a1 := 19) (a2 := 19) (j1 := 4) (j2 := 5) (by decide +kernel) (by first | decide | exact ⟨by decide, by decide⟩) (by first | decide | exact ⟨by decide, by decide⟩) (by first | decide | exact ⟨by decide, by decide⟩)
                    have Hh50 : xHs d hh h50 := Hh47.fr Ch47 Qh50 (by decide +kernel)
                    have Lh50 : xPk k ll h50 := P110.p.fr Qh50 (by decide +kernel)
                    have LKh50 := P110.fr Qh50 (by decide +kernel)
                    have QKh50 := QKh47.fr Qh50 (by decide +kernel)
                    have G125 : xGt (hm d) (hu gt (iL41).toNat (gt (iL41).toNat + hN d k)) h50 := by
                      rw [← V117, ← V123]
                      exact Gh47.wx E124 (by omega) S124
                    refine zwW_p [(1, 0, 2), (1, 1, 0), (0, 1, 0)] (q := 128) (ls' := [(2, 19), (0, a), (0, b), (0, iL41)]) (st' := [(0, 1), (0, a), (2, 19)]) (by decide +kernel) rfl ?_
                    refine zwW_add (nx := 129) (by decide +kernel) (by first | omega | exact ⟨by omega, by omega⟩) ?_
                    refine zwW_p [(1, 2, 0), (1, 0, 2)] (q := 131) (ls' := [(2, 19), (0, a), (0, b), (0, iL41)]) (st' := [(2, 19), (0, b), (0, (a + 1)), (2, 19)]) (by decide +kernel) rfl ?_
                    refine zwW_gc Ch50.1 (kd := 3) (bn := 7) (n := 10) (c := 24) (nx := 134) (by decide +kernel) ?_
                    refine zwW_p [(1, 3, 0)] (q := 135) (ls' := [(2, 19), (0, a), (0, b), (0, iL41)]) (st' := [(0, iL41), (2, 24), (0, b), (0, (a + 1)), (2, 19)]) (by decide +kernel) rfl ?_
                    refine zwW_al Ch50.1 (a1 := 24) (a2 := 24) (kd := 20) (n := 6) (t := 0) (lo := -2147483648) (hi := 2147483647) (nx := 136) (by decide +kernel) (by first | decide | exact ⟨by decide, by decide⟩) ib3 ?_
                    intro v51 ev51 lv51 uv51
                    have V136 : v51 = gt (iL41).toNat + hN d k := ev51.trans ((G125 (iL41).toNat (by omega)).trans hu_e)
                    have XK := Hh50.1.2.2 (iL41).toNat (by omega)
                    refine zwW_p [(1, 0, 2)] (q := 137) (ls' := [(2, 19), (0, a), (0, b), (0, iL41)]) (st' := [(2, 19), (0, v51), (0, b), (0, (a + 1)), (2, 19)]) (by decide +kernel) rfl ?_
                    refine zwW_gc Ch50.1 (kd := 3) (bn := 1) (n := 10) (c := 21) (nx := 140) (by decide +kernel) ?_
                    refine zwW_p [(1, 3, 0)] (q := 141) (ls' := [(2, 19), (0, a), (0, b), (0, iL41)]) (st' := [(0, iL41), (2, 21), (0, v51), (0, b), (0, (a + 1)), (2, 19)]) (by decide +kernel) rfl ?_
                    refine zwW_cm Ch50.1 (op := 60) (k' := 123) (n := 1) (kd := 0) (m := 3) (nx := 144) (r := 21) (tl := [(0, iL41)]) (st' := [(0, v51), (0, b), (0, (a + 1)), (2, 19)]) (by decide +kernel) rfl (by decide +kernel) rfl (x123_21 Ch50 (i := iL41) (by first | omega | exact ⟨by omega, by omega⟩)) ?_
                    rintro v52 _ ⟨rfl, Gv52, ev52⟩
                    have lv52 := Gv52.1
                    have pv52 : v52 = zv h50 21 iL41.toNat ∧ ((iL41.toNat : Nat) : Int) < fld h50 21 2 := ⟨ev52, by omega⟩
                    refine zwW_cast (a := 4) (kd := 4) (n := 19) (nx := 147) (by decide +kernel) rfl (Or.inr Gv52.2.1) ?_
                    have pv52 : v52 = zv h50 3 (hh (iL41).toNat) ∧ ((hh (iL41).toNat : Nat) : Int) < fld h50 3 2 := ⟨(ev52).trans XK.2, XK.1⟩
                    refine zwX_gi Ch50 (kd := 4) (bn := 13) (n := 19) (nx := 150) (by decide +kernel) Gv52.2.1 Gv52.1 rfl ?_
                    intro v53 ev53 lv53 uv53
                    have sv53 : v53 = (yC h) 91 (hh (iL41).toNat) := Eq.trans ev53 (Eq.trans (congrArg (fun q => fld h50 q 13) pv52.1) (Eq.trans (Eq.symm (yC_f (h := h50) (a := 91) (A := 3) (j := 13) (i := hh (iL41).toNat) rfl pv52.2)) (Eq.trans (congrFun (congrFun Zh50 91) (hh (iL41).toNat)) rfl)))
                    have V150 : v53 = hc d (iL41).toNat := sv53.trans (HC (iL41).toNat (by omega)).symm
                    have YB := (hB_ch B k (by omega)).2.2.2 (iL41).toNat (by omega) C103
                    have OB := B.2.2 k (iL41).toNat (by omega) (by omega) YB.1
                    have UB := HU (iL41).toNat (by omega)
                    have QT := hQt B (k := k) (by omega) (i := (iL41).toNat) (by omega) YB.1 GB1
                    refine zwW_cs (k' := 151) (n := 2) (nx := 153) (as := [(0, v51), (0, v53)]) (st' := [(0, b), (0, (a + 1)), (2, 19)]) (by decide +kernel) rfl (x151_s h50 Ch50 v51 v53 (by omega) (by omega) (by first | omega | exact ⟨by omega, by omega⟩) (by first | omega | exact ⟨by omega, by omega⟩)) (Nat.ble_eq_true_of_le (by omega)) ?_
                    rintro v54 _ ⟨rfl, f55, f56⟩
                    have V153 : v54 = (gt (iL41).toNat + hN d k + hc d (iL41).toNat - 1) / hc d (iL41).toNat := by
                      have z := f56.1
                      rw [z, V136, V150]
                    refine zwW_max (nx := 156) (by decide +kernel) rfl ?_
                    intro v57 ev57
                    have M156 : v57 = max b ((gt (iL41).toNat + hN d k + hc d (iL41).toNat - 1) / hc d (iL41).toNat) := by
                      rw [← V153]
                      exact ev57
                    refine zwW_cmv Ch50.1 (op := 60) (k' := 212) (n := 2) (kd := 3) (m := 10) (nx := 159) (r := 19) (tl := [(0, (a + 1)), (0, v57)]) (st' := []) (by decide +kernel) rfl (by decide +kernel) (Nat.ble_eq_true_of_le (by omega)) (HS (by omega) h50 Ch50 v57 (by omega) d hh (k + 1) r1 (hu ll k (((iL41).toNat : Nat) : Int)) (hu gt (iL41).toNat (gt (iL41).toNat + hN d k)) (fo (hXs d k r1 b ll gt) (iL41).toNat (hX0 d k r1 b ll gt q)) Jh50 B HU Hh50 (fun i hi => (HC i hi).trans (by rw [Zh50])) (by omega) (by omega) LKh50 G125 (hu_gb GB (by omega) NB) (by first | omega | exact ⟨by omega, by omega⟩) QKh50) ?_
                    rintro h62 ⟨Ch62, Qh62, f58, f59, f60, f61⟩
                    have Zh62 : yC h62 = (yC h) := (yC_fr Ch50 Qh62 (by decide +kernel) (Ch50.1.b (a1 := 37) (a2 := 37) (j1 := 86) (j2 := 87) (lo := 0) (hi := 6) (by decide +kernel) (r := 37) (j := 86) (by decide) (by decide) (by decide) (by decide)).2).trans Zh50
                    have Xh62 : zXR msxT (0) (0) h h62 := Xh50.tr (c2 := 0) (s2 := 0) Qh62 (by decide +kernel) (by decide) (by decide)
                    have th62_21_2 : fld h62 21 2 = fld h50 21 2 := Qh62.f (a1 := 21) (a2 := 21) (j1 := 2) (j2 := 3) (by decide +kernel) (by first | decide | exact ⟨by decide, by decide⟩) (by first | decide | exact ⟨by decide, by decide⟩) (by first | decide | exact ⟨by decide, by decide⟩)
                    have Hh62 : xHs d hh h62 := Hh50.fr Ch50 Qh62 (by decide +kernel)
                    refine zwW_p [(1, 0, 2)] (q := 160) (ls' := [(2, 19), (0, a), (0, b), (0, iL41)]) (st' := [(2, 19)]) (by decide +kernel) rfl ?_
                    refine zwW_gc Ch62.1 (kd := 3) (bn := 7) (n := 10) (c := 24) (nx := 163) (by decide +kernel) ?_
                    refine zwW_p [(1, 3, 0), (14, 0, 0)] (q := 165) (ls' := [(2, 19), (0, a), (0, b), (0, iL41)]) (st' := [(0, iL41), (2, 24), (0, iL41), (2, 24)]) (by decide +kernel) rfl ?_
                    refine zwW_al Ch62.1 (a1 := 24) (a2 := 24) (kd := 20) (n := 6) (t := 0) (lo := -2147483648) (hi := 2147483647) (nx := 166) (by decide +kernel) (by first | decide | exact ⟨by decide, by decide⟩) ib3 ?_
                    intro v63 ev63 lv63 uv63
                    have V166 : v63 = gt (iL41).toNat + hN d k := ev63.trans ((f59 (iL41).toNat (by omega)).trans hu_e)
                    refine zwW_p [(1, 0, 2)] (q := 167) (ls' := [(2, 19), (0, a), (0, b), (0, iL41)]) (st' := [(2, 19), (0, v63), (0, iL41), (2, 24)]) (by decide +kernel) rfl ?_
                    refine zwW_gc Ch62.1 (kd := 3) (bn := 5) (n := 10) (c := 22) (nx := 170) (by decide +kernel) ?_
                    refine zwW_p [(1, 1, 0)] (q := 171) (ls' := [(2, 19), (0, a), (0, b), (0, iL41)]) (st' := [(0, a), (2, 22), (0, v63), (0, iL41), (2, 24)]) (by decide +kernel) rfl ?_
                    refine zwW_al Ch62.1 (a1 := 22) (a2 := 22) (kd := 20) (n := 6) (t := 0) (lo := -2147483648) (hi := 2147483647) (nx := 172) (by decide +kernel) (by first | decide | exact ⟨by decide, by decide⟩) ib1 ?_
                    intro v64 ev64 lv64 uv64
                    have V172 : v64 = hN d k := ev64.trans (by rw [show a.toNat = k by omega]; exact (Hh62.2 k (by omega)).1)
                    refine zwW_sub (nx := 173) (by decide +kernel) (by first | omega | exact ⟨by omega, by omega⟩) ?_
                    refine zwW_as Ch62.1 (a1 := 24) (a2 := 24) (n := 6) (lo := -2147483648) (hi := 2147483647) (nx := 174) (by decide +kernel) (by first | decide | exact ⟨by decide, by decide⟩) ib3 (by first | omega | exact ⟨by omega, by omega⟩) ?_
                    intro h65 eh65 Ih65
                    have Ch65 : CI h65 := Ch62.wc eh65 Ih65 (by decide) (by decide)
                    have Qh65 : zXR [(24, 24, 0, 6)] 0 0 h62 h65 := zXR.wc eh65 rfl ⟨by decide, by decide, Or.inl (by decide)⟩ (by first | omega | exact ⟨by omega, by omega⟩)
                    have E173 := eh65
                    have S173 := Ch62.1.s (r := 24) (a1 := 24) (a2 := 24) (k := 20) (n := 6) (by decide +kernel) (by decide) (by decide)
                    have Xh65 : zXR msxT (0) (0) h h65 := Xh62.tr (c2 := 0) (s2 := 0) Qh65 (by decide +kernel) (by decide) (by decide)
                    have Zh65 : yC h65 = (yC h) := (yC_fr Ch62 Qh65 (by decide +kernel) (Ch62.1.b (a1 := 37) (a2 := 37) (j1 := 86) (j2 := 87) (lo := 0) (hi := 6) (by decide +kernel) (r := 37) (j := 86) (by decide) (by decide) (by decide) (by decide)).2).trans Zh62
                    have Jh65 : yR h65 := f61.fr Ch62 Qh65 (by decide +kernel)
                    have th65_21_2 : fld h65 21 2 = fld h62 21 2 := Qh65.f (a1 := 21) (a2 := 21) (j1 := 2) (j2 := 3) (by decide +kernel) (by first | decide | exact ⟨by decide, by decide⟩) (by first | decide | exact ⟨by decide, by decide⟩) (by first | decide | exact ⟨by decide, by decide⟩)
                    have th65_19_4 : fld h65 19 4 = fld h62 19 4 := Qh65.f (a1 := 19) (a2 := 19) (j1 := 4) (j2 := 5) (by decide +kernel) (by first | decide | exact ⟨by decide, by decide⟩) (by first | decide | exact ⟨by decide, by decide⟩) (by first | decide | exact ⟨by decide, by decide⟩)
                    have Hh65 : xHs d hh h65 := Hh62.fr Ch62 Qh65 (by decide +kernel)
                    have Lh65 : xPk k ll h65 := f60.p.fr Qh65 (by decide +kernel)
                    have QKh65 := f58.fr Qh65 (by decide +kernel)
                    have G174 : xGt (hm d) gt h65 := by first | exact None | exact (f59.wx E173 (by omega) S173).cg (fun i hi => hu_bk (by omega))
                    have Q174 : xHq d (fo (hXs d k r1 b ll gt) ((iL41).toNat + 1) (hX0 d k r1 b ll gt q)) h65 := by
                      rw [fo_s]
                      first
                      | (rw [hXs_n C103, ← M156]; exact QKh65)
                      | (rw [hXs_z (by unfold hBc yBt; rw [← V96, show (((iL41).toNat : Nat) : Int) = iL41 by omega]; omega)]; exact iL41_3)
                    refine zwW_inc (i := 3) (c := 1) (x := iL41) (nx := 177) (by decide +kernel) rfl (by first | omega | exact ⟨by omega, by omega⟩) (ls' := [(2, 19), (0, a), (0, b), (0, (iL41 + 1))]) rfl ?_
                    refine zwW_p [(24, 73, 0)] (q := 73) (ls' := [(2, 19), (0, a), (0, b), (0, (iL41 + 1))]) (st' := []) (by decide +kernel) rfl ?_
                    exact IHL41 ((1000 - (iL41 + 1))).toNat (by omega) (iL41 + 1) h65 rfl (Hh65) (Lh65) (G174) (by rw [show (iL41 + 1).toNat = (iL41).toNat + 1 by omega]; exact Q174) (by omega) (by omega) (Zh65) (Jh65) Ch65 (Xh65.le (by decide) (by decide))
          exact L41 _ 0 h40 rfl (Hh40) (L71) (G71) (Q71) (by omega) (by omega) (Zh40) (f39) Ch40 (Xh40.le (by decide) (by decide))
      · exfalso; omega
  · refine zwW_retv (nx := 9) (a := 0) (b := 0) (by decide +kernel) ?_
    exact ⟨C, X.le (by decide) (by decide), by exact (by rw [hX_lo (by omega)]; exact QQ), by exact G, by exact L, by exact J⟩
end
section
/-! the class's search, all depths -/
section ZKH
theorem zkhsearch (sc : List Int) : ∀ (n : Nat) (a : Int), n ≤ 6 → a = 6 - (n : Int) → zKH sc (9 * n + 9) a
  | 0, a, _, ha => by
    have ha : a = 6 := by omega
    subst ha
    exact x212_z 6 0 (by omega) (fun h => by omega)
  | n + 1, a, hn, ha => by
    have k := zkhsearch sc n (a + 1) (by omega) (by omega)
    exact x212_z a (9 * (n + 1)) (by omega) (fun _ => k)
theorem zkh_search (sc : List Int) : zKH sc 70 0 := fun h C b hb d hh k r ll gt q J B HU H HC pa pr L G GB pb QQ => zwC_up (by decide) (zkhsearch sc 6 0 (by decide) (by decide) h C b hb d hh k r ll gt q J B HU H HC pa pr L G GB pb QQ)
/-- the count of the bits -/
theorem m210_z {sc : List Int} (h : Hp) (a : Int) (ha : 0 ≤ a ∧ a < 16777216) : zwC sc 1 210 [(0, a)] h (zwRt 0 (fun x g => h = g ∧ (-2147483648 ≤ x ∧ x ≤ 2147483647) ∧ x = ((pcn a.toNat 24 : Nat) : Int))) := by
  obtain ⟨A, hA, rfl⟩ : ∃ A : Nat, A < 16777216 ∧ a = (A : Int) := ⟨a.toNat, by omega, by omega⟩
  obtain ⟨k0, k1, k2, k3⟩ := bC_ok hA
  have n1 := Nat.and_le_left (n := A / 2) (m := 1431655765)
  have p24 := pcn_b (x := A) 24
  refine zwC_of (D := 0) 1 (by decide +kernel) rfl (ls := [(0, (A : Int))]) rfl ?_
  refine zwW_p [(1, 0, 0), (1, 0, 0), (0, 1, 0)] (q := 3) (ls' := [(0, (A : Int))]) (st' := [(0, 1), (0, (A : Int)), (0, (A : Int))]) (by decide +kernel) rfl ?_
  refine zwW_ib (a := 10) (nx := 4) (z := ((A / 2 : Nat) : Int)) (by decide +kernel) (congrArg some (us_n (A := A) (K := 1) (by omega) (by decide))) ?_
  refine zwW_p [(0, 1431655765, 0)] (q := 7) (ls' := [(0, (A : Int))]) (st' := [(0, 1431655765), (0, ((A / 2 : Nat) : Int)), (0, (A : Int))]) (by decide +kernel) rfl ?_
  refine zwW_ib (a := 5) (nx := 8) (z := ((A / 2 &&& 1431655765 : Nat) : Int)) (by decide +kernel) (congrArg some (an_n (A := A / 2) (B := 1431655765) (by omega) (by decide))) ?_
  refine zwW_sub (nx := 9) (by decide +kernel) (by first | omega | exact ⟨by omega, by omega⟩) ?_
  rw [show (A : Int) - ((A / 2 &&& 1431655765 : Nat) : Int) = ((bC1 A : Nat) : Int) by unfold bC1; omega]
  generalize eB : bC1 A = B at *
  have n2 := Nat.and_le_left (n := B) (m := 858993459)
  have n3 := Nat.and_le_left (n := B / 4) (m := 858993459)
  refine zwW_p [(2, 0, 0), (1, 0, 0), (0, 858993459, 0)] (q := 14) (ls' := [(0, (B : Int))]) (st' := [(0, 858993459), (0, (B : Int))]) (by decide +kernel) rfl ?_
  refine zwW_ib (a := 5) (nx := 15) (z := ((B &&& 858993459 : Nat) : Int)) (by decide +kernel) (congrArg some (an_n (A := B) (B := 858993459) (by omega) (by decide))) ?_
  refine zwW_p [(1, 0, 0), (0, 2, 0)] (q := 17) (ls' := [(0, (B : Int))]) (st' := [(0, 2), (0, (B : Int)), (0, ((B &&& 858993459 : Nat) : Int))]) (by decide +kernel) rfl ?_
  refine zwW_ib (a := 10) (nx := 18) (z := ((B / 4 : Nat) : Int)) (by decide +kernel) (congrArg some (us_n (A := B) (K := 2) (by omega) (by decide))) ?_
  refine zwW_p [(0, 858993459, 0)] (q := 21) (ls' := [(0, (B : Int))]) (st' := [(0, 858993459), (0, ((B / 4 : Nat) : Int)), (0, ((B &&& 858993459 : Nat) : Int))]) (by decide +kernel) rfl ?_
  refine zwW_ib (a := 5) (nx := 22) (z := ((B / 4 &&& 858993459 : Nat) : Int)) (by decide +kernel) (congrArg some (an_n (A := B / 4) (B := 858993459) (by omega) (by decide))) ?_
  refine zwW_add (nx := 23) (by decide +kernel) (by first | omega | exact ⟨by omega, by omega⟩) ?_
  rw [show ((B &&& 858993459 : Nat) : Int) + ((B / 4 &&& 858993459 : Nat) : Int) = ((bC2 B : Nat) : Int) by unfold bC2; omega]
  generalize eE : bC2 B = E at *
  refine zwW_p [(2, 0, 0), (1, 0, 0), (1, 0, 0), (0, 4, 0)] (q := 27) (ls' := [(0, (E : Int))]) (st' := [(0, 4), (0, (E : Int)), (0, (E : Int))]) (by decide +kernel) rfl ?_
  refine zwW_ib (a := 10) (nx := 28) (z := ((E / 16 : Nat) : Int)) (by decide +kernel) (congrArg some (us_n (A := E) (K := 4) (by omega) (by decide))) ?_
  refine zwW_add (nx := 29) (by decide +kernel) (by first | omega | exact ⟨by omega, by omega⟩) ?_
  rw [show (E : Int) + ((E / 16 : Nat) : Int) = ((E + E / 16 : Nat) : Int) by omega]
  refine zwW_p [(0, 252645135, 0)] (q := 32) (ls' := [(0, (E : Int))]) (st' := [(0, 252645135), (0, ((E + E / 16 : Nat) : Int))]) (by decide +kernel) rfl ?_
  refine zwW_ib (a := 5) (nx := 33) (z := ((bC3 E : Nat) : Int)) (by decide +kernel) (congrArg some (an_n (A := E + E / 16) (B := 252645135) (by omega) (by decide))) ?_
  generalize eF : bC3 E = F at *
  refine zwW_p [(2, 0, 0), (1, 0, 0), (1, 0, 0), (0, 8, 0)] (q := 38) (ls' := [(0, (F : Int))]) (st' := [(0, 8), (0, (F : Int)), (0, (F : Int))]) (by decide +kernel) rfl ?_
  refine zwW_ib (a := 10) (nx := 39) (z := ((F / 256 : Nat) : Int)) (by decide +kernel) (congrArg some (us_n (A := F) (K := 8) (by omega) (by decide))) ?_
  refine zwW_add (nx := 40) (by decide +kernel) (by first | omega | exact ⟨by omega, by omega⟩) ?_
  rw [show (F : Int) + ((F / 256 : Nat) : Int) = ((F + F / 256 : Nat) : Int) by omega]
  generalize eG : F + F / 256 = G at *
  refine zwW_p [(2, 0, 0), (1, 0, 0), (1, 0, 0), (0, 16, 0)] (q := 45) (ls' := [(0, (G : Int))]) (st' := [(0, 16), (0, (G : Int)), (0, (G : Int))]) (by decide +kernel) rfl ?_
  refine zwW_ib (a := 10) (nx := 46) (z := ((G / 65536 : Nat) : Int)) (by decide +kernel) (congrArg some (us_n (A := G) (K := 16) (by omega) (by decide))) ?_
  refine zwW_add (nx := 47) (by decide +kernel) (by first | omega | exact ⟨by omega, by omega⟩) ?_
  rw [show (G : Int) + ((G / 65536 : Nat) : Int) = ((G + G / 65536 : Nat) : Int) by omega]
  refine zwW_p [(2, 0, 0), (1, 0, 0), (0, 63, 0)] (q := 51) (ls' := [(0, ((G + G / 65536 : Nat) : Int))]) (st' := [(0, 63), (0, ((G + G / 65536 : Nat) : Int))]) (by decide +kernel) rfl ?_
  refine zwW_ib (a := 5) (nx := 52) (z := ((G + G / 65536 &&& 63 : Nat) : Int)) (by decide +kernel) (congrArg some (an_n (A := G + G / 65536) (B := 63) (by omega) (by decide))) ?_
  have m6 : G + G / 65536 &&& 63 = (G + G / 65536) % 64 := Nat.and_two_pow_sub_one_eq_mod (G + G / 65536) 6
  have k5 : (G + G / 65536) % 64 = pcn A 24 := by rw [← k0, ← eG]; rfl
  rw [m6, k5]
  refine zwW_ret (nx := 53) (a := 0) (b := 0) (by decide +kernel) rfl (Or.inl rfl) ?_
  exact ⟨rfl, by omega, rfl⟩
end ZKH
end
section
/-! contracts of the class -/
def msx146_z : Zms := [(19, 19, 4, 5), (24, 24, 0, 6), (25, 25, 0, 6), (26, 26, 0, 6)]
-- WheelLand$Handwork.find()V
theorem x146_z {sc : List Int} (h : Hp) (C : CI h) (d : hD) (hh : Nat → Nat) (J : yR h) (B : hOk d) (HU : ∀ i, i < hm d → hc d i ≤ 1000) (H : xHs d hh h) (HC : ∀ i, i < hm d → hc d i = yC h 91 (hh i)) (G : xGt (hm d) (fun _ => 0) h) : zwC sc 71 146 [(2, 19)] h (zwRv (fun g => CI g ∧ zXR msx146_z (0) (0) h g ∧ (xHq d (hX d (hBe d) (hBc d) (hn d) 0 0 (fun _ => 0) (fun _ => 0) (1000000, fun _ => 0)) g) ∧ (yR g))) := by
  refine zwC_of (D := 70) 1 (by decide +kernel) rfl (ls := [(2, 19)]) rfl ?_
  have X : zXR msx146_z 0 0 h h := zXR.rf _ _
  have u86 : yC h 37 86 = fld h 20 2 := rfl
  refine zwW_p [(1, 0, 2), (0, 1000000, 0)] (q := 3) (ls' := [(2, 19)]) (st' := [(0, 1000000), (2, 19)]) (by decide +kernel) rfl ?_
  refine zwW_ps C.1 (kd := 3) (bn := 4) (n := 10) (lo := -2147483648) (hi := 2147483647) (nx := 6) (by decide +kernel) (by first | decide | exact ⟨by decide, by decide⟩) ?_
  intro h1 eh1 Ih1
  have Ch1 : CI h1 := C.wc eh1 Ih1 (by decide) (by decide)
  have Qh1 : zXR [(19, 19, 4, 5)] 0 0 h h1 := zXR.wc eh1 rfl ⟨by decide, by decide, Or.inl (by decide)⟩ (by first | decide | exact ⟨by decide, by decide⟩)
  have Xh1 : zXR msx146_z (0) (0) h h1 := X.tr (c2 := 0) (s2 := 0) Qh1 (by decide +kernel) (by decide) (by decide)
  have Zh1 : yC h1 = (yC h) := (yC_fr C Qh1 (by decide +kernel) (C.1.b (a1 := 37) (a2 := 37) (j1 := 86) (j2 := 87) (lo := 0) (hi := 6) (by decide +kernel) (r := 37) (j := 86) (by decide) (by decide) (by decide) (by decide)).2).trans (rfl : yC h = yC h)
  have Jh1 : yR h1 := J.fr C Qh1 (by decide +kernel)
  have Hh1 : xHs d hh h1 := H.fr C Qh1 (by decide +kernel)
  have Gh1 : xGt (hm d) (fun _ => 0) h1 := G.fr Qh1 (by decide +kernel)
  have th1_19_4 : fld h1 19 4 = 1000000 := by rw [eh1]; exact fld_wr_eq (C.1.s (a1 := 19) (a2 := 19) (k := 3) (n := 10) (by decide +kernel) (by decide) (by decide)) (by decide)
  refine zwW_p [(1, 0, 2), (0, 0, 0), (0, 0, 0)] (q := 9) (ls' := [(2, 19)]) (st' := [(0, 0), (0, 0), (2, 19)]) (by decide +kernel) rfl ?_
  refine zwW_cmv Ch1.1 (op := 60) (k' := 212) (n := 2) (kd := 3) (m := 10) (nx := 12) (r := 19) (tl := [(0, 0), (0, 0)]) (st' := []) (by decide +kernel) rfl (by decide +kernel) rfl (zkh_search sc h1 Ch1 0 (by omega) d hh 0 (hn d) (fun _ => 0) (fun _ => 0) (1000000, fun j => fld h 26 j) Jh1 B HU Hh1 (fun i hi => (HC i hi).trans (by rw [Zh1])) rfl (by omega) (fun j hj => absurd hj (Nat.not_lt_zero _)) Gh1 (fun i hi => ⟨Int.le_refl _, by show (0 : Int) ≤ _; omega⟩) (by first | decide | exact ⟨by decide, by decide⟩) ⟨by show fld h1 19 4 = 1000000; omega, fun j _ => congrFun (Qh1.fa (a := 26) (by decide +kernel) (by decide)) j⟩) ?_
  rintro h6 ⟨Ch6, Qh6, f2, f3, f4, f5⟩
  have Zh6 : yC h6 = (yC h) := (yC_fr Ch1 Qh6 (by decide +kernel) (Ch1.1.b (a1 := 37) (a2 := 37) (j1 := 86) (j2 := 87) (lo := 0) (hi := 6) (by decide +kernel) (r := 37) (j := 86) (by decide) (by decide) (by decide) (by decide)).2).trans Zh1
  have Xh6 : zXR msx146_z (0) (0) h h6 := Xh1.tr (c2 := 0) (s2 := 0) Qh6 (by decide +kernel) (by decide) (by decide)
  have Hh6 : xHs d hh h6 := Hh1.fr Ch1 Qh6 (by decide +kernel)
  have Q9 := f2
  refine zwW_retv (nx := 13) (a := 0) (b := 0) (by decide +kernel) ?_
  exact ⟨Ch6, Xh6.le (by decide) (by decide), by exact xHq.ind B Q9, by exact f5⟩
-- WheelLand$Handwork.whoWeaves(I)I
theorem x147_z {sc : List Int} (h : Hp) (C : CI h) (a : Int) (m : Nat) (hh : Nat → Nat) (q_a : -2147483648 ≤ a ∧ a ≤ 2147483647) (J : yR h) (XL : xLm m hh h) (pa : 0 ≤ a ∧ a ≤ 5) : zwC sc 5 147 [(2, 19), (0, a)] h (zwRt 0 (fun x g => h = g ∧ (-2147483648 ≤ x ∧ x ≤ 2147483647) ∧ (x = if 0 ≤ fld h 26 a.toNat ∧ fld h 26 a.toNat < (m : Int) then ((hh (fld h 26 a.toNat).toNat : Nat) : Int) else -1))) := by
  refine zwC_of (D := 4) 3 (by decide +kernel) rfl (ls := [(2, 19), (0, a), (9, 0)]) rfl ?_
  have u86 : yC h 37 86 = fld h 20 2 := rfl
  have XL1 := XL.1
  refine zwW_p [(1, 1, 0)] (q := 1) (ls' := [(2, 19), (0, a), (9, 0)]) (st' := [(0, a)]) (by decide +kernel) rfl ?_
  refine zwif_lt (q := 19) (nx := 4) (by decide +kernel) (fun c1 => ?_) (fun c1 => ?_)
  · exfalso; omega
  · refine zwW_p [(1, 1, 0), (0, 6, 0)] (q := 7) (ls' := [(2, 19), (0, a), (9, 0)]) (st' := [(0, 6), (0, a)]) (by decide +kernel) rfl ?_
    refine zwic_ge (q := 19) (nx := 10) (by decide +kernel) (fun c2 => ?_) (fun c2 => ?_)
    · exfalso; omega
    · refine zwW_p [(1, 0, 2)] (q := 11) (ls' := [(2, 19), (0, a), (9, 0)]) (st' := [(2, 19)]) (by decide +kernel) rfl ?_
      refine zwW_gc C.1 (kd := 3) (bn := 9) (n := 10) (c := 26) (nx := 14) (by decide +kernel) ?_
      refine zwW_p [(1, 1, 0)] (q := 15) (ls' := [(2, 19), (0, a), (9, 0)]) (st' := [(0, a), (2, 26)]) (by decide +kernel) rfl ?_
      have ib1 : 0 ≤ a ∧ a < ((6 : Nat) : Int) := (by first | omega | exact ⟨by omega, by omega⟩)
      refine zwW_al C.1 (a1 := 26) (a2 := 26) (kd := 20) (n := 6) (t := 0) (lo := -2147483648) (hi := 2147483647) (nx := 16) (by decide +kernel) (by first | decide | exact ⟨by decide, by decide⟩) ib1 ?_
      intro v3 ev3 lv3 uv3
      refine zwW_p [(24, 20, 0), (2, 2, 0), (1, 2, 0)] (q := 22) (ls' := [(2, 19), (0, a), (0, v3)]) (st' := [(0, v3)]) (by decide +kernel) rfl ?_
      refine zwif_lt (q := 53) (nx := 25) (by decide +kernel) (fun c4 => ?_) (fun c4 => ?_)
      · refine zwW_p [(0, -1, 0)] (q := 54) (ls' := [(2, 19), (0, a), (0, v3)]) (st' := [(0, -1)]) (by decide +kernel) rfl ?_
        refine zwW_ret (nx := 55) (a := 0) (b := 0) (by decide +kernel) rfl (Or.inl rfl) ?_
        exact ⟨rfl, by omega, by first | (rw [← ev3, if_pos ⟨by omega, by omega⟩]; omega) | (rw [← ev3, if_neg (by omega)])⟩
      · refine zwW_p [(1, 2, 0), (1, 0, 2)] (q := 27) (ls' := [(2, 19), (0, a), (0, v3)]) (st' := [(2, 19), (0, v3)]) (by decide +kernel) rfl ?_
        refine zwW_gc C.1 (kd := 3) (bn := 1) (n := 10) (c := 21) (nx := 30) (by decide +kernel) ?_
        refine zwW_cm C.1 (op := 60) (k' := 96) (n := 0) (kd := 0) (m := 3) (nx := 33) (r := 21) (tl := []) (st' := [(0, v3)]) (by decide +kernel) rfl (by decide +kernel) rfl (x96_21 C) ?_
        rintro v5 _ ⟨rfl, ev5⟩
        have bv5 := zLb_21 C
        refine zwic_ge (q := 53) (nx := 36) (by decide +kernel) (fun c6 => ?_) (fun c6 => ?_)
        · refine zwW_p [(0, -1, 0)] (q := 54) (ls' := [(2, 19), (0, a), (0, v3)]) (st' := [(0, -1)]) (by decide +kernel) rfl ?_
          refine zwW_ret (nx := 55) (a := 0) (b := 0) (by decide +kernel) rfl (Or.inl rfl) ?_
          exact ⟨rfl, by omega, by first | (rw [← ev3, if_pos ⟨by omega, by omega⟩]; omega) | (rw [← ev3, if_neg (by omega)])⟩
        · have XK := XL.2 (v3).toNat (by omega)
          refine zwW_p [(1, 0, 2)] (q := 37) (ls' := [(2, 19), (0, a), (0, v3)]) (st' := [(2, 19)]) (by decide +kernel) rfl ?_
          refine zwW_gc C.1 (kd := 3) (bn := 1) (n := 10) (c := 21) (nx := 40) (by decide +kernel) ?_
          refine zwW_p [(1, 2, 0)] (q := 41) (ls' := [(2, 19), (0, a), (0, v3)]) (st' := [(0, v3), (2, 21)]) (by decide +kernel) rfl ?_
          refine zwW_cm C.1 (op := 60) (k' := 123) (n := 1) (kd := 0) (m := 3) (nx := 44) (r := 21) (tl := [(0, v3)]) (st' := []) (by decide +kernel) rfl (by decide +kernel) rfl (x123_21 C (i := v3) (by first | omega | exact ⟨by omega, by omega⟩)) ?_
          rintro v7 _ ⟨rfl, Gv7, ev7⟩
          have lv7 := Gv7.1
          have pv7 : v7 = zv h 21 v3.toNat ∧ ((v3.toNat : Nat) : Int) < fld h 21 2 := ⟨ev7, by omega⟩
          refine zwW_cast (a := 4) (kd := 4) (n := 19) (nx := 47) (by decide +kernel) rfl (Or.inr Gv7.2.1) ?_
          have pv7 : v7 = zv h 3 (hh (v3).toNat) ∧ ((hh (v3).toNat : Nat) : Int) < fld h 3 2 := ⟨(ev7).trans XK.2, XK.1⟩
          refine zwX_gi C (kd := 4) (bn := 0) (n := 19) (nx := 50) (by decide +kernel) Gv7.2.1 Gv7.1 rfl ?_
          intro v8 ev8 lv8 uv8
          have sv8 : v8 = ((hh (v3).toNat : Nat) : Int) := Eq.trans ev8 (Eq.trans (congrArg (fun q => fld h q 0) pv7.1) (J.1 3 (by decide) _ pv7.2))
          refine zwW_p [(24, 54, 0)] (q := 54) (ls' := [(2, 19), (0, a), (0, v3)]) (st' := [(0, v8)]) (by decide +kernel) rfl ?_
          refine zwW_ret (nx := 55) (a := 0) (b := 0) (by decide +kernel) rfl (Or.inl rfl) ?_
          exact ⟨rfl, by omega, by first | (rw [← ev3, if_pos ⟨by omega, by omega⟩]; omega) | (rw [← ev3, if_neg (by omega)])⟩
-- WheelLand.handsCanBe(II)Z
theorem x142_z {sc : List Int} (h : Hp) (C : CI h) (a b : Int) (q_a : -2147483648 ≤ a ∧ a ≤ 2147483647) (q_b : -2147483648 ≤ b ∧ b ≤ 2147483647) (J : yR h) : zwC sc 2 142 [(2, 1), (0, a), (0, b)] h (zwRt 0 (fun x g => h = g ∧ ((x = 1 ∧ (((0 ≤ b ∧ b ≤ 2) ∨ (10 ≤ b ∧ b ≤ 9 + yC h 37 86)) ∧ yHok (yC h) a)) ∨ (x = 0 ∧ (¬ (((0 ≤ b ∧ b ≤ 2) ∨ (10 ≤ b ∧ b ≤ 9 + yC h 37 86)) ∧ yHok (yC h) a)))))) := by
  refine zwC_of (D := 1) 5 (by decide +kernel) rfl (ls := [(2, 1), (0, a), (0, b), (9, 0), (9, 0)]) rfl ?_
  have u2 : yC h 37 2 = fld h 3 2 := rfl
  have u86 : yC h 37 86 = fld h 20 2 := rfl
  have b33 := zLb_3 C
  have b20 := zLb_20 C
  refine zwW_p [(1, 0, 2)] (q := 1) (ls' := [(2, 1), (0, a), (0, b), (9, 0), (9, 0)]) (st' := [(2, 1)]) (by decide +kernel) rfl ?_
  refine zwW_gc C.1 (kd := 12) (bn := 9) (n := 13) (c := 19) (nx := 4) (by decide +kernel) ?_
  refine zwW_gc C.1 (kd := 3) (bn := 0) (n := 10) (c := 20) (nx := 7) (by decide +kernel) ?_
  refine zwW_cm C.1 (op := 60) (k' := 96) (n := 0) (kd := 0) (m := 3) (nx := 10) (r := 20) (tl := []) (st' := []) (by decide +kernel) rfl (by decide +kernel) rfl (x96_20 C) ?_
  rintro v1 _ ⟨rfl, ev1⟩
  have bv1 := zLb_20 C
  have sv1 : v1 = (yC h) 37 86 := Eq.trans ev1 (Eq.trans (Eq.symm (yC_s (h := h) (i := 86) rfl)) (Eq.trans (congrFun (congrFun (rfl : yC h = yC h) 37) 86) rfl))
  refine zwW_p [(2, 3, 0), (1, 2, 0), (0, 0, 0), (0, 2, 0)] (q := 14) (ls' := [(2, 1), (0, a), (0, b), (0, v1), (9, 0)]) (st' := [(0, 2), (0, 0), (0, b)]) (by decide +kernel) rfl ?_
  refine zwW_cs (k' := 98) (n := 3) (nx := 17) (as := [(0, b), (0, 0), (0, 2)]) (st' := []) (by decide +kernel) rfl (x98 h C b 0 2 (by omega) (by omega) (by omega)) rfl ?_
  rintro x _ ⟨rfl, ⟨rfl, c2⟩ | ⟨rfl, c2⟩⟩
  · refine zwif_eq (q := 33) (nx := 20) (by decide +kernel) (fun c3 => ?_) (fun c3 => ?_)
    · exfalso; omega
    · refine zwW_p [(1, 2, 0), (0, 10, 0), (0, 9, 0), (1, 3, 0)] (q := 26) (ls' := [(2, 1), (0, a), (0, b), (0, v1), (9, 0)]) (st' := [(0, v1), (0, 9), (0, 10), (0, b)]) (by decide +kernel) rfl ?_
      refine zwW_add (nx := 27) (by decide +kernel) (by first | omega | exact ⟨by omega, by omega⟩) ?_
      refine zwW_cs (k' := 98) (n := 3) (nx := 30) (as := [(0, b), (0, 10), (0, (9 + v1))]) (st' := []) (by decide +kernel) rfl (x98 h C b 10 (9 + v1) (by omega) (by omega) (by omega)) rfl ?_
      rintro x _ ⟨rfl, ⟨rfl, c4⟩ | ⟨rfl, c4⟩⟩
      · refine zwif_ne (q := 37) (nx := 33) (by decide +kernel) (fun c5 => ?_) (fun c5 => ?_)
        · refine zwW_p [(0, 0, 0), (2, 4, 0), (1, 4, 0)] (q := 42) (ls' := [(2, 1), (0, a), (0, b), (0, v1), (0, 0)]) (st' := [(0, 0)]) (by decide +kernel) rfl ?_
          refine zwif_eq (q := 78) (nx := 45) (by decide +kernel) (fun c6 => ?_) (fun c6 => ?_)
          · refine zwW_p [(0, 0, 0)] (q := 79) (ls' := [(2, 1), (0, a), (0, b), (0, v1), (0, 0)]) (st' := [(0, 0)]) (by decide +kernel) rfl ?_
            refine zwW_ret (nx := 80) (a := 1) (b := 0) (by decide +kernel) rfl (Or.inr (Or.inl ⟨rfl, Or.inl rfl⟩)) ?_
            exact ⟨rfl, Or.inr ⟨rfl, by rintro ⟨k1, k2, k3, k4, k5⟩; first | omega | exact absurd (U57.mpr k3) (by omega)⟩⟩
          · exfalso; omega
        · exfalso; omega
      · refine zwif_ne (q := 37) (nx := 33) (by decide +kernel) (fun c7 => ?_) (fun c7 => ?_)
        · exfalso; omega
        · refine zwW_p [(0, 1, 0), (24, 38, 0), (2, 4, 0), (1, 4, 0)] (q := 42) (ls' := [(2, 1), (0, a), (0, b), (0, v1), (0, 1)]) (st' := [(0, 1)]) (by decide +kernel) rfl ?_
          refine zwif_eq (q := 78) (nx := 45) (by decide +kernel) (fun c8 => ?_) (fun c8 => ?_)
          · exfalso; omega
          · refine zwW_p [(1, 3, 0)] (q := 46) (ls' := [(2, 1), (0, a), (0, b), (0, v1), (0, 1)]) (st' := [(0, v1)]) (by decide +kernel) rfl ?_
            refine zwif_le (q := 78) (nx := 49) (by decide +kernel) (fun c9 => ?_) (fun c9 => ?_)
            · refine zwW_p [(0, 0, 0)] (q := 79) (ls' := [(2, 1), (0, a), (0, b), (0, v1), (0, 1)]) (st' := [(0, 0)]) (by decide +kernel) rfl ?_
              refine zwW_ret (nx := 80) (a := 1) (b := 0) (by decide +kernel) rfl (Or.inr (Or.inl ⟨rfl, Or.inl rfl⟩)) ?_
              exact ⟨rfl, Or.inr ⟨rfl, by rintro ⟨k1, k2, k3, k4, k5⟩; first | omega | exact absurd (U57.mpr k3) (by omega)⟩⟩
            · refine zwW_p [(1, 1, 0), (1, 0, 2)] (q := 51) (ls' := [(2, 1), (0, a), (0, b), (0, v1), (0, 1)]) (st' := [(2, 1), (0, a)]) (by decide +kernel) rfl ?_
              refine zwW_gc C.1 (kd := 12) (bn := 3) (n := 13) (c := 3) (nx := 54) (by decide +kernel) ?_
              refine zwW_cm C.1 (op := 60) (k' := 96) (n := 0) (kd := 0) (m := 3) (nx := 57) (r := 3) (tl := []) (st' := [(0, a)]) (by decide +kernel) rfl (by decide +kernel) rfl (x96_3 C) ?_
              rintro v10 _ ⟨rfl, ev10⟩
              have bv10 := zLb_3 C
              have sv10 : v10 = (yC h) 37 2 := Eq.trans ev10 (Eq.trans (Eq.symm (yC_s (h := h) (i := 2) rfl)) (Eq.trans (congrFun (congrFun (rfl : yC h = yC h) 37) 2) rfl))
              have U57 := us_0 (a := a) (n := (v10).toNat) (by first | omega | exact ⟨by omega, by omega⟩) (by omega)
              rw [show (((v10).toNat : Nat) : Int) = v10 by omega, show (v10).toNat = (yC h 37 2).toNat by omega] at U57
              refine zwW_ib (a := 10) (nx := 58) (by decide +kernel) rfl ?_
              refine zwif_ne (q := 78) (nx := 61) (by decide +kernel) (fun c11 => ?_) (fun c11 => ?_)
              · refine zwW_p [(0, 0, 0)] (q := 79) (ls' := [(2, 1), (0, a), (0, b), (0, v1), (0, 1)]) (st' := [(0, 0)]) (by decide +kernel) rfl ?_
                refine zwW_ret (nx := 80) (a := 1) (b := 0) (by decide +kernel) rfl (Or.inr (Or.inl ⟨rfl, Or.inl rfl⟩)) ?_
                exact ⟨rfl, Or.inr ⟨rfl, by rintro ⟨k1, k2, k3, k4, k5⟩; first | omega | exact absurd (U57.mpr k3) (by omega)⟩⟩
              · have V61 := U57.mp (by omega)
                have W61 : a < 1048576 := Int.lt_of_lt_of_le V61.2 (Int.ofNat_le.mpr (p2_b _ (by omega)).2)
                refine zwW_p [(1, 1, 0)] (q := 62) (ls' := [(2, 1), (0, a), (0, b), (0, v1), (0, 1)]) (st' := [(0, a)]) (by decide +kernel) rfl ?_
                refine zwW_cs (k' := 210) (n := 1) (nx := 65) (as := [(0, a)]) (st' := []) (by decide +kernel) rfl (m210_z h a (by omega)) rfl ?_
                rintro v12 _ ⟨rfl, f13, f14⟩
                have HM65 : v12 = ((yHm (yC h) a : Nat) : Int) := f14.trans (yHm_c V61 (by omega))
                refine zwW_p [(0, 1, 0), (0, 6, 0)] (q := 68) (ls' := [(2, 1), (0, a), (0, b), (0, v1), (0, 1)]) (st' := [(0, 6), (0, 1), (0, v12)]) (by decide +kernel) rfl ?_
                refine zwW_cs (k' := 98) (n := 3) (nx := 71) (as := [(0, v12), (0, 1), (0, 6)]) (st' := []) (by decide +kernel) rfl (x98 h C v12 1 6 (by omega) (by omega) (by omega)) rfl ?_
                rintro x _ ⟨rfl, ⟨rfl, c15⟩ | ⟨rfl, c15⟩⟩
                · refine zwif_ne (q := 78) (nx := 74) (by decide +kernel) (fun c16 => ?_) (fun c16 => ?_)
                  · refine zwW_p [(0, 0, 0)] (q := 79) (ls' := [(2, 1), (0, a), (0, b), (0, v1), (0, 1)]) (st' := [(0, 0)]) (by decide +kernel) rfl ?_
                    refine zwW_ret (nx := 80) (a := 1) (b := 0) (by decide +kernel) rfl (Or.inr (Or.inl ⟨rfl, Or.inl rfl⟩)) ?_
                    exact ⟨rfl, Or.inr ⟨rfl, by rintro ⟨k1, k2, k3, k4, k5⟩; first | omega | exact absurd (U57.mpr k3) (by omega)⟩⟩
                  · exfalso; omega
                · refine zwif_ne (q := 78) (nx := 74) (by decide +kernel) (fun c17 => ?_) (fun c17 => ?_)
                  · exfalso; omega
                  · refine zwW_p [(0, 1, 0), (24, 79, 0)] (q := 79) (ls' := [(2, 1), (0, a), (0, b), (0, v1), (0, 1)]) (st' := [(0, 1)]) (by decide +kernel) rfl ?_
                    refine zwW_ret (nx := 80) (a := 1) (b := 0) (by decide +kernel) rfl (Or.inr (Or.inl ⟨rfl, Or.inr rfl⟩)) ?_
                    exact ⟨rfl, Or.inl ⟨rfl, by exact ⟨by omega, by omega, V61, by omega, by omega⟩⟩⟩
  · refine zwif_eq (q := 33) (nx := 20) (by decide +kernel) (fun c18 => ?_) (fun c18 => ?_)
    · refine zwW_p [(0, 1, 0), (24, 38, 0), (2, 4, 0), (1, 4, 0)] (q := 42) (ls' := [(2, 1), (0, a), (0, b), (0, v1), (0, 1)]) (st' := [(0, 1)]) (by decide +kernel) rfl ?_
      refine zwif_eq (q := 78) (nx := 45) (by decide +kernel) (fun c19 => ?_) (fun c19 => ?_)
      · exfalso; omega
      · refine zwW_p [(1, 3, 0)] (q := 46) (ls' := [(2, 1), (0, a), (0, b), (0, v1), (0, 1)]) (st' := [(0, v1)]) (by decide +kernel) rfl ?_
        refine zwif_le (q := 78) (nx := 49) (by decide +kernel) (fun c20 => ?_) (fun c20 => ?_)
        · refine zwW_p [(0, 0, 0)] (q := 79) (ls' := [(2, 1), (0, a), (0, b), (0, v1), (0, 1)]) (st' := [(0, 0)]) (by decide +kernel) rfl ?_
          refine zwW_ret (nx := 80) (a := 1) (b := 0) (by decide +kernel) rfl (Or.inr (Or.inl ⟨rfl, Or.inl rfl⟩)) ?_
          exact ⟨rfl, Or.inr ⟨rfl, by rintro ⟨k1, k2, k3, k4, k5⟩; first | omega | exact absurd (U57.mpr k3) (by omega)⟩⟩
        · refine zwW_p [(1, 1, 0), (1, 0, 2)] (q := 51) (ls' := [(2, 1), (0, a), (0, b), (0, v1), (0, 1)]) (st' := [(2, 1), (0, a)]) (by decide +kernel) rfl ?_
          refine zwW_gc C.1 (kd := 12) (bn := 3) (n := 13) (c := 3) (nx := 54) (by decide +kernel) ?_
          refine zwW_cm C.1 (op := 60) (k' := 96) (n := 0) (kd := 0) (m := 3) (nx := 57) (r := 3) (tl := []) (st' := [(0, a)]) (by decide +kernel) rfl (by decide +kernel) rfl (x96_3 C) ?_
          rintro v21 _ ⟨rfl, ev21⟩
          have bv21 := zLb_3 C
          have sv21 : v21 = (yC h) 37 2 := Eq.trans ev21 (Eq.trans (Eq.symm (yC_s (h := h) (i := 2) rfl)) (Eq.trans (congrFun (congrFun (rfl : yC h = yC h) 37) 2) rfl))
          have U57 := us_0 (a := a) (n := (v21).toNat) (by first | omega | exact ⟨by omega, by omega⟩) (by omega)
          rw [show (((v21).toNat : Nat) : Int) = v21 by omega, show (v21).toNat = (yC h 37 2).toNat by omega] at U57
          refine zwW_ib (a := 10) (nx := 58) (by decide +kernel) rfl ?_
          refine zwif_ne (q := 78) (nx := 61) (by decide +kernel) (fun c22 => ?_) (fun c22 => ?_)
          · refine zwW_p [(0, 0, 0)] (q := 79) (ls' := [(2, 1), (0, a), (0, b), (0, v1), (0, 1)]) (st' := [(0, 0)]) (by decide +kernel) rfl ?_
            refine zwW_ret (nx := 80) (a := 1) (b := 0) (by decide +kernel) rfl (Or.inr (Or.inl ⟨rfl, Or.inl rfl⟩)) ?_
            exact ⟨rfl, Or.inr ⟨rfl, by rintro ⟨k1, k2, k3, k4, k5⟩; first | omega | exact absurd (U57.mpr k3) (by omega)⟩⟩
          · have V61 := U57.mp (by omega)
            have W61 : a < 1048576 := Int.lt_of_lt_of_le V61.2 (Int.ofNat_le.mpr (p2_b _ (by omega)).2)
            refine zwW_p [(1, 1, 0)] (q := 62) (ls' := [(2, 1), (0, a), (0, b), (0, v1), (0, 1)]) (st' := [(0, a)]) (by decide +kernel) rfl ?_
            refine zwW_cs (k' := 210) (n := 1) (nx := 65) (as := [(0, a)]) (st' := []) (by decide +kernel) rfl (m210_z h a (by omega)) rfl ?_
            rintro v23 _ ⟨rfl, f24, f25⟩
            have HM65 : v23 = ((yHm (yC h) a : Nat) : Int) := f25.trans (yHm_c V61 (by omega))
            refine zwW_p [(0, 1, 0), (0, 6, 0)] (q := 68) (ls' := [(2, 1), (0, a), (0, b), (0, v1), (0, 1)]) (st' := [(0, 6), (0, 1), (0, v23)]) (by decide +kernel) rfl ?_
            refine zwW_cs (k' := 98) (n := 3) (nx := 71) (as := [(0, v23), (0, 1), (0, 6)]) (st' := []) (by decide +kernel) rfl (x98 h C v23 1 6 (by omega) (by omega) (by omega)) rfl ?_
            rintro x _ ⟨rfl, ⟨rfl, c26⟩ | ⟨rfl, c26⟩⟩
            · refine zwif_ne (q := 78) (nx := 74) (by decide +kernel) (fun c27 => ?_) (fun c27 => ?_)
              · refine zwW_p [(0, 0, 0)] (q := 79) (ls' := [(2, 1), (0, a), (0, b), (0, v1), (0, 1)]) (st' := [(0, 0)]) (by decide +kernel) rfl ?_
                refine zwW_ret (nx := 80) (a := 1) (b := 0) (by decide +kernel) rfl (Or.inr (Or.inl ⟨rfl, Or.inl rfl⟩)) ?_
                exact ⟨rfl, Or.inr ⟨rfl, by rintro ⟨k1, k2, k3, k4, k5⟩; first | omega | exact absurd (U57.mpr k3) (by omega)⟩⟩
              · exfalso; omega
            · refine zwif_ne (q := 78) (nx := 74) (by decide +kernel) (fun c28 => ?_) (fun c28 => ?_)
              · exfalso; omega
              · refine zwW_p [(0, 1, 0), (24, 79, 0)] (q := 79) (ls' := [(2, 1), (0, a), (0, b), (0, v1), (0, 1)]) (st' := [(0, 1)]) (by decide +kernel) rfl ?_
                refine zwW_ret (nx := 80) (a := 1) (b := 0) (by decide +kernel) rfl (Or.inr (Or.inl ⟨rfl, Or.inr rfl⟩)) ?_
                exact ⟨rfl, Or.inl ⟨rfl, by exact ⟨by omega, by omega, V61, by omega, by omega⟩⟩⟩
    · exfalso; omega
def msx49_z : Zms := [(17, 17, 0, 13), (18, 18, 0, 400), (19, 19, 2, 3), (19, 19, 3, 4), (19, 19, 4, 5), (21, 21, 0, 3), (22, 22, 0, 6), (23, 23, 0, 6), (24, 24, 0, 6), (25, 25, 0, 6), (26, 26, 0, 6)]
-- WheelLand.hands(II)I
theorem x49_z {sc : List Int} (h : Hp) (C : CI h) (a b : Int) (q : qT) (q_a : -2147483648 ≤ a ∧ a ≤ 2147483647) (q_b : -2147483648 ≤ b ∧ b ≤ 2147483647) (J : yR h) (V : zRq q h) (ok : yOK (yC h)) (PF8 : yF8 (yC h)) (LF : yLf (yC h)) (HA : yHa (yC h)) (BR : ∀ k : Nat, (k : Int) < yC h 37 2 → yC h 91 k ≤ 1000) (hl : h.length ≤ 999280000) : zwC sc 72 49 [(2, 1), (0, a), (0, b)] h (zwRt 0 (fun x g => CI g ∧ zXR msx49_z (6) (6000) h g ∧ (-2147483648 ≤ x ∧ x ≤ 2147483647) ∧ (x = yHnA q (yC h) a b) ∧ (yR g))) := by
  refine zwC_of (D := 71) 4 (by decide +kernel) rfl (ls := [(2, 1), (0, a), (0, b), (9, 0)]) rfl ?_
  have X : zXR msx49_z 0 0 h h := zXR.rf _ _
  have u0 : yC h 37 0 = fld h 1 0 := rfl
  have u1 : yC h 37 1 = fld h 2 2 := rfl
  have u2 : yC h 37 2 = fld h 3 2 := rfl
  have u64 : yC h 37 64 = fld h 4 2 := rfl
  have u86 : yC h 37 86 = fld h 20 2 := rfl
  have b33 := zLb_3 C
  have b20 := zLb_20 C
  have HA1 := HA.1
  refine zwW_p [(1, 0, 2), (1, 1, 0), (1, 2, 0)] (q := 3) (ls' := [(2, 1), (0, a), (0, b), (9, 0)]) (st' := [(0, b), (0, a), (2, 1)]) (by decide +kernel) rfl ?_
  refine zwW_cm C.1 (op := 60) (k' := 142) (n := 2) (kd := 12) (m := 13) (nx := 6) (r := 1) (tl := [(0, a), (0, b)]) (st' := []) (by decide +kernel) rfl (by decide +kernel) rfl (x142_z h C a b (by omega) (by omega) J) ?_
  rintro x _ ⟨rfl, ⟨rfl, c1⟩ | ⟨rfl, c1⟩⟩
  · refine zwif_ne (q := 11) (nx := 9) (by decide +kernel) (fun c2 => ?_) (fun c2 => ?_)
    · have CB11 := c1
      have OK := c1.2
      have KN := c1.1
      have OK6 := OK.2.2.2
      have HMd : yHm (yC h) a = yLc a (yC h 37 2).toNat := rfl
      have BD := yHd_ok (q := q) (b := a) ok PF8 LF HA OK6
      have HU : ∀ i, i < hm (yHd q (yC h) a) → hc (yHd q (yC h) a) i ≤ 1000 := fun i hi => BR _ (by have := yHh_b (S := yC h) (b := a) hi; omega)
      refine zwW_p [(1, 0, 2)] (q := 12) (ls' := [(2, 1), (0, a), (0, b), (9, 0)]) (st' := [(2, 1)]) (by decide +kernel) rfl ?_
      refine zwW_gc C.1 (kd := 12) (bn := 9) (n := 13) (c := 19) (nx := 15) (by decide +kernel) ?_
      refine zwW_cmv C.1 (op := 60) (k' := 143) (n := 0) (kd := 3) (m := 10) (nx := 18) (r := 19) (tl := []) (st' := []) (by decide +kernel) rfl (by decide +kernel) rfl (x143_z h C J) ?_
      rintro h6 ⟨Ch6, Qh6, f3, f4, f5⟩
      have Zh6 : yC h6 = (yC h) := (yC_fr C Qh6 (by decide +kernel) (C.1.b (a1 := 37) (a2 := 37) (j1 := 86) (j2 := 87) (lo := 0) (hi := 6) (by decide +kernel) (r := 37) (j := 86) (by decide) (by decide) (by decide) (by decide)).2).trans (rfl : yC h = yC h)
      have Xh6 : zXR msx49_z (6) (6000) h h6 := X.tr (c2 := 6) (s2 := 6000) Qh6 (by decide +kernel) (by decide) (by decide)
      have th6_3_2 : fld h6 3 2 = fld h 3 2 := Qh6.f (a1 := 3) (a2 := 3) (j1 := 2) (j2 := 3) (by decide +kernel) (by first | decide | exact ⟨by decide, by decide⟩) (by first | decide | exact ⟨by decide, by decide⟩) (by first | decide | exact ⟨by decide, by decide⟩)
      have th6_20_2 : fld h6 20 2 = fld h 20 2 := Qh6.f (a1 := 20) (a2 := 20) (j1 := 2) (j2 := 3) (by decide +kernel) (by first | decide | exact ⟨by decide, by decide⟩) (by first | decide | exact ⟨by decide, by decide⟩) (by first | decide | exact ⟨by decide, by decide⟩)
      have Vh6 : zRq q h6 := V.fr C Qh6 (by decide +kernel)
      have XL18 : xLm (yLc a 0) (yLh a 0) h6 := xLm.z f3.1
      have XG18 : xGt 6 (fun _ => 0) h6 := f4
      have HO18 : xHo (yHd q (yC h) a) 0 h6 := ⟨fun k hk => absurd hk (Nat.not_lt_zero _), f3.2.1, f3.2.2⟩
      refine zwW_p [(0, 0, 0), (2, 3, 0)] (q := 20) (ls' := [(2, 1), (0, a), (0, b), (0, 0)]) (st' := []) (by decide +kernel) rfl ?_
      have L7 : ∀ (n0 : Nat) (kL7 : Int) (hL7 : Hp), n0 = ((1000 - kL7)).toNat → (xLm (yLc a (kL7).toNat) (yLh a (kL7).toNat) hL7) → (xGt 6 (fun _ => 0) hL7) → (xHo (yHd q (yC h) a) 0 hL7) → (zRq q hL7) → (kL7 ≤ fld h 3 2 ∧ fld hL7 3 2 = fld h 3 2 ∧ fld hL7 20 2 = fld h 20 2) → (0 ≤ kL7 ∧ kL7 ≤ 20) → (yC hL7 = (yC h)) → (yR hL7) → CI hL7 → zXR msx49_z (6) (6000) h hL7 → zwW sc (71) 49 20 [(2, 1), (0, a), (0, b), (0, kL7)] [] hL7 (zwRt 0 (fun x g => CI g ∧ zXR msx49_z (6) (6000) h g ∧ (-2147483648 ≤ x ∧ x ≤ 2147483647) ∧ (x = yHnA q (yC h) a b) ∧ (yR g))) := by
        intro n0
        induction n0 using Nat.strongRecOn with
        | ind n0 IHL7 =>
          intro kL7 hL7 hnL7 iL7_0 iL7_1 iL7_2 iL7_3 iL7_4 iL7_5 iL7_6 iL7_7 ChL7 XhL7
          refine zwW_p [(1, 3, 0), (1, 0, 2)] (q := 22) (ls' := [(2, 1), (0, a), (0, b), (0, kL7)]) (st' := [(2, 1), (0, kL7)]) (by decide +kernel) rfl ?_
          refine zwW_gc ChL7.1 (kd := 12) (bn := 3) (n := 13) (c := 3) (nx := 25) (by decide +kernel) ?_
          refine zwW_cm ChL7.1 (op := 60) (k' := 96) (n := 0) (kd := 0) (m := 3) (nx := 28) (r := 3) (tl := []) (st' := [(0, kL7)]) (by decide +kernel) rfl (by decide +kernel) rfl (x96_3 ChL7) ?_
          rintro v8 _ ⟨rfl, ev8⟩
          have bv8 := zLb_3 ChL7
          have sv8 : v8 = (yC h) 37 2 := Eq.trans ev8 (Eq.trans (Eq.symm (yC_s (h := hL7) (i := 2) rfl)) (Eq.trans (congrFun (congrFun iL7_6 37) 2) rfl))
          refine zwic_ge (q := 63) (nx := 31) (by decide +kernel) (fun c9 => ?_) (fun c9 => ?_)
          · have XL63 : xLm (yHm (yC h) a) (yHh (yC h) a) hL7 := by
              have z := iL7_0
              rw [show (kL7).toNat = (yC h 37 2).toNat by omega] at z
              exact z
            refine zwW_p [(0, 0, 0), (2, 3, 0)] (q := 65) (ls' := [(2, 1), (0, a), (0, b), (0, 0)]) (st' := []) (by decide +kernel) rfl ?_
            have L10 : ∀ (n0 : Nat) (kL10 : Int) (hL10 : Hp), n0 = ((1000 - kL10)).toNat → (xHo (yHd q (yC h) a) (kL10).toNat hL10) → (xLm (yHm (yC h) a) (yHh (yC h) a) hL10) → (xGt 6 (fun _ => 0) hL10) → (zRq q hL10) → (kL10 ≤ fld h 20 2 ∧ fld hL10 3 2 = fld h 3 2 ∧ fld hL10 20 2 = fld h 20 2) → (0 ≤ kL10 ∧ kL10 ≤ 6) → (yC hL10 = (yC h)) → (yR hL10) → CI hL10 → zXR msx49_z (6) (6000) h hL10 → zwW sc (71) 49 65 [(2, 1), (0, a), (0, b), (0, kL10)] [] hL10 (zwRt 0 (fun x g => CI g ∧ zXR msx49_z (6) (6000) h g ∧ (-2147483648 ≤ x ∧ x ≤ 2147483647) ∧ (x = yHnA q (yC h) a b) ∧ (yR g))) := by
              intro n0
              induction n0 using Nat.strongRecOn with
              | ind n0 IHL10 =>
                intro kL10 hL10 hnL10 iL10_0 iL10_1 iL10_2 iL10_3 iL10_4 iL10_5 iL10_6 iL10_7 ChL10 XhL10
                refine zwW_p [(1, 3, 0), (1, 0, 2)] (q := 67) (ls' := [(2, 1), (0, a), (0, b), (0, kL10)]) (st' := [(2, 1), (0, kL10)]) (by decide +kernel) rfl ?_
                refine zwW_gc ChL10.1 (kd := 12) (bn := 9) (n := 13) (c := 19) (nx := 70) (by decide +kernel) ?_
                refine zwW_gc ChL10.1 (kd := 3) (bn := 0) (n := 10) (c := 20) (nx := 73) (by decide +kernel) ?_
                refine zwW_cm ChL10.1 (op := 60) (k' := 96) (n := 0) (kd := 0) (m := 3) (nx := 76) (r := 20) (tl := []) (st' := [(0, kL10)]) (by decide +kernel) rfl (by decide +kernel) rfl (x96_20 ChL10) ?_
                rintro v11 _ ⟨rfl, ev11⟩
                have bv11 := zLb_20 ChL10
                have sv11 : v11 = (yC h) 37 86 := Eq.trans ev11 (Eq.trans (Eq.symm (yC_s (h := hL10) (i := 86) rfl)) (Eq.trans (congrFun (congrFun iL10_6 37) 86) rfl))
                refine zwic_ge (q := 104) (nx := 79) (by decide +kernel) (fun c12 => ?_) (fun c12 => ?_)
                · have HN104 : xHo (yHd q (yC h) a) (hn (yHd q (yC h) a)) hL10 := by
                    have z := iL10_0
                    rw [show (kL10).toNat = (yC h 37 86).toNat by omega] at z
                    exact z
                  have HS104 : xHs (yHd q (yC h) a) (yHh (yC h) a) hL10 := ⟨⟨by show _ = (((yC h 37 86).toNat : Nat) : Int); omega, iL10_1⟩, HN104.1⟩
                  refine zwW_p [(1, 0, 2)] (q := 105) (ls' := [(2, 1), (0, a), (0, b), (0, kL10)]) (st' := [(2, 1)]) (by decide +kernel) rfl ?_
                  refine zwW_gc ChL10.1 (kd := 12) (bn := 9) (n := 13) (c := 19) (nx := 108) (by decide +kernel) ?_
                  refine zwW_cmv ChL10.1 (op := 60) (k' := 146) (n := 0) (kd := 3) (m := 10) (nx := 111) (r := 19) (tl := []) (st' := []) (by decide +kernel) rfl (by decide +kernel) rfl (x146_z hL10 ChL10 (yHd q (yC h) a) (yHh (yC h) a) iL10_7 BD HU HS104 (fun i hi => by rw [iL10_6]; rfl) (fun j hj => iL10_2 j (by have := BD.1.2; omega))) ?_
                  rintro h15 ⟨Ch15, Qh15, f13, f14⟩
                  have Zh15 : yC h15 = (yC h) := (yC_fr ChL10 Qh15 (by decide +kernel) (ChL10.1.b (a1 := 37) (a2 := 37) (j1 := 86) (j2 := 87) (lo := 0) (hi := 6) (by decide +kernel) (r := 37) (j := 86) (by decide) (by decide) (by decide) (by decide)).2).trans iL10_6
                  have Xh15 : zXR msx49_z (6) (6000) h h15 := XhL10.tr (c2 := 6) (s2 := 6000) Qh15 (by decide +kernel) (by decide) (by decide)
                  have th15_3_2 : fld h15 3 2 = fld hL10 3 2 := Qh15.f (a1 := 3) (a2 := 3) (j1 := 2) (j2 := 3) (by decide +kernel) (by first | decide | exact ⟨by decide, by decide⟩) (by first | decide | exact ⟨by decide, by decide⟩) (by first | decide | exact ⟨by decide, by decide⟩)
                  have th15_20_2 : fld h15 20 2 = fld hL10 20 2 := Qh15.f (a1 := 20) (a2 := 20) (j1 := 2) (j2 := 3) (by decide +kernel) (by first | decide | exact ⟨by decide, by decide⟩) (by first | decide | exact ⟨by decide, by decide⟩) (by first | decide | exact ⟨by decide, by decide⟩)
                  have Vh15 : zRq q h15 := iL10_3.fr ChL10 Qh15 (by decide +kernel)
                  have XLh15 := iL10_1.fr ChL10 Qh15 (by decide +kernel)
                  have HOh15 := HN104.fr Qh15 (by decide +kernel)
                  refine zwW_p [(1, 2, 0)] (q := 112) (ls' := [(2, 1), (0, a), (0, b), (0, kL10)]) (st' := [(0, b)]) (by decide +kernel) rfl ?_
                  refine zwW_sw (d := 164) (os := [0, 140, 1, 148, 2, 156]) (by decide +kernel) ?_
                  refine ⟨fun c16 => ?_, fun c16 => ?_⟩
                  · show zwW _ _ _ 140 _ _ _ _
                    refine zwW_p [(1, 0, 2)] (q := 141) (ls' := [(2, 1), (0, a), (0, b), (0, kL10)]) (st' := [(2, 1)]) (by decide +kernel) rfl ?_
                    refine zwW_gc Ch15.1 (kd := 12) (bn := 9) (n := 13) (c := 19) (nx := 144) (by decide +kernel) ?_
                    refine zwW_gs Ch15.1 (kd := 3) (bn := 2) (n := 10) (t := 0) (lo := -2147483648) (hi := 2147483647) (nx := 147) (by decide +kernel) ?_
                    intro v17 ev17 lv17 uv17
                    refine zwW_ret (nx := 148) (a := 0) (b := 0) (by decide +kernel) rfl (Or.inl rfl) ?_
                    exact ⟨Ch15, Xh15.le (by decide) (by decide), by omega, by first | exact (yHnA_x c1).symm | exact (ev17.trans HOh15.2.1).trans (yHnA_0 OK (by omega)).symm | exact (ev17.trans HOh15.2.2).trans (yHnA_1 OK (by omega)).symm | exact (ev17.trans f13.1).trans (yHnA_2 OK (by omega)).symm | exact (f14.trans (show _ = yHw q (yC h) a (b - 10).toNat by rw [f13.2 (b - 10).toNat (by show _ < (yC h 37 86).toNat; omega)]; rfl)).trans (yHnA_w OK (by first | omega | exact ⟨by omega, by omega⟩)).symm, by exact f14⟩
                  refine ⟨fun c18 => ?_, fun c18 => ?_⟩
                  · show zwW _ _ _ 148 _ _ _ _
                    refine zwW_p [(1, 0, 2)] (q := 149) (ls' := [(2, 1), (0, a), (0, b), (0, kL10)]) (st' := [(2, 1)]) (by decide +kernel) rfl ?_
                    refine zwW_gc Ch15.1 (kd := 12) (bn := 9) (n := 13) (c := 19) (nx := 152) (by decide +kernel) ?_
                    refine zwW_gs Ch15.1 (kd := 3) (bn := 3) (n := 10) (t := 0) (lo := -2147483648) (hi := 2147483647) (nx := 155) (by decide +kernel) ?_
                    intro v19 ev19 lv19 uv19
                    refine zwW_ret (nx := 156) (a := 0) (b := 0) (by decide +kernel) rfl (Or.inl rfl) ?_
                    exact ⟨Ch15, Xh15.le (by decide) (by decide), by omega, by first | exact (yHnA_x c1).symm | exact (ev19.trans HOh15.2.1).trans (yHnA_0 OK (by omega)).symm | exact (ev19.trans HOh15.2.2).trans (yHnA_1 OK (by omega)).symm | exact (ev19.trans f13.1).trans (yHnA_2 OK (by omega)).symm | exact (f14.trans (show _ = yHw q (yC h) a (b - 10).toNat by rw [f13.2 (b - 10).toNat (by show _ < (yC h 37 86).toNat; omega)]; rfl)).trans (yHnA_w OK (by first | omega | exact ⟨by omega, by omega⟩)).symm, by exact f14⟩
                  refine ⟨fun c20 => ?_, fun c20 => ?_⟩
                  · show zwW _ _ _ 156 _ _ _ _
                    refine zwW_p [(1, 0, 2)] (q := 157) (ls' := [(2, 1), (0, a), (0, b), (0, kL10)]) (st' := [(2, 1)]) (by decide +kernel) rfl ?_
                    refine zwW_gc Ch15.1 (kd := 12) (bn := 9) (n := 13) (c := 19) (nx := 160) (by decide +kernel) ?_
                    refine zwW_gs Ch15.1 (kd := 3) (bn := 4) (n := 10) (t := 0) (lo := -2147483648) (hi := 2147483647) (nx := 163) (by decide +kernel) ?_
                    intro v21 ev21 lv21 uv21
                    refine zwW_ret (nx := 164) (a := 0) (b := 0) (by decide +kernel) rfl (Or.inl rfl) ?_
                    exact ⟨Ch15, Xh15.le (by decide) (by decide), by omega, by first | exact (yHnA_x c1).symm | exact (ev21.trans HOh15.2.1).trans (yHnA_0 OK (by omega)).symm | exact (ev21.trans HOh15.2.2).trans (yHnA_1 OK (by omega)).symm | exact (ev21.trans f13.1).trans (yHnA_2 OK (by omega)).symm | exact (f14.trans (show _ = yHw q (yC h) a (b - 10).toNat by rw [f13.2 (b - 10).toNat (by show _ < (yC h 37 86).toNat; omega)]; rfl)).trans (yHnA_w OK (by first | omega | exact ⟨by omega, by omega⟩)).symm, by exact f14⟩
                  show zwW _ _ _ 164 _ _ _ _
                  refine zwW_p [(1, 0, 2)] (q := 165) (ls' := [(2, 1), (0, a), (0, b), (0, kL10)]) (st' := [(2, 1)]) (by decide +kernel) rfl ?_
                  refine zwW_gc Ch15.1 (kd := 12) (bn := 9) (n := 13) (c := 19) (nx := 168) (by decide +kernel) ?_
                  refine zwW_p [(1, 2, 0), (0, 10, 0)] (q := 171) (ls' := [(2, 1), (0, a), (0, b), (0, kL10)]) (st' := [(0, 10), (0, b), (2, 19)]) (by decide +kernel) rfl ?_
                  refine zwW_sub (nx := 172) (by decide +kernel) (by first | omega | exact ⟨by omega, by omega⟩) ?_
                  refine zwW_cm Ch15.1 (op := 60) (k' := 147) (n := 1) (kd := 3) (m := 10) (nx := 175) (r := 19) (tl := [(0, (b - 10))]) (st' := []) (by decide +kernel) rfl (by decide +kernel) rfl (x147_z h15 Ch15 (b - 10) (yHm (yC h) a) (yHh (yC h) a) (by omega) f14 XLh15 (by first | omega | exact ⟨by omega, by omega⟩)) ?_
                  rintro v22 _ ⟨rfl, f23, f24⟩
                  refine zwW_ret (nx := 176) (a := 0) (b := 0) (by decide +kernel) rfl (Or.inl rfl) ?_
                  exact ⟨Ch15, Xh15.le (by decide) (by decide), by omega, by first | exact (yHnA_x c1).symm | exact (ea.trans HOh15.2.1).trans (yHnA_0 OK (by omega)).symm | exact (ea.trans HOh15.2.2).trans (yHnA_1 OK (by omega)).symm | exact (ea.trans f13.1).trans (yHnA_2 OK (by omega)).symm | exact (f24.trans (show _ = yHw q (yC h) a (b - 10).toNat by rw [f13.2 (b - 10).toNat (by show _ < (yC h 37 86).toNat; omega)]; rfl)).trans (yHnA_w OK (by first | omega | exact ⟨by omega, by omega⟩)).symm, by exact f14⟩
                · have LL79 := iL10_7.l20 (k := (kL10).toNat) (by omega)
                  rw [iL10_6] at LL79
                  have Z79 := iL10_6
                  refine zwW_p [(1, 0, 2), (1, 3, 0), (1, 0, 2)] (q := 82) (ls' := [(2, 1), (0, a), (0, b), (0, kL10)]) (st' := [(2, 1), (0, kL10), (2, 1)]) (by decide +kernel) rfl ?_
                  refine zwW_gc ChL10.1 (kd := 12) (bn := 9) (n := 13) (c := 19) (nx := 85) (by decide +kernel) ?_
                  refine zwW_gc ChL10.1 (kd := 3) (bn := 0) (n := 10) (c := 20) (nx := 88) (by decide +kernel) ?_
                  refine zwW_p [(1, 3, 0)] (q := 89) (ls' := [(2, 1), (0, a), (0, b), (0, kL10)]) (st' := [(0, kL10), (2, 20), (0, kL10), (2, 1)]) (by decide +kernel) rfl ?_
                  refine zwW_cm ChL10.1 (op := 60) (k' := 123) (n := 1) (kd := 0) (m := 3) (nx := 92) (r := 20) (tl := [(0, kL10)]) (st' := [(0, kL10), (2, 1)]) (by decide +kernel) rfl (by decide +kernel) rfl (x123_20 ChL10 (i := kL10) (by first | omega | exact ⟨by omega, by omega⟩)) ?_
                  rintro v25 _ ⟨rfl, Gv25, ev25⟩
                  have lv25 := Gv25.1
                  have pv25 : v25 = zv hL10 20 kL10.toNat ∧ ((kL10.toNat : Nat) : Int) < fld hL10 20 2 := ⟨ev25, by omega⟩
                  refine zwW_cast (a := 6) (kd := 6) (n := 7) (nx := 95) (by decide +kernel) rfl (Or.inr Gv25.2.1) ?_
                  have pv25 : v25 = zv hL10 4 (yHl (yC h) (kL10).toNat) ∧ ((yHl (yC h) (kL10).toNat : Nat) : Int) < fld hL10 4 2 := ⟨(ev25).trans LL79.2.2, LL79.2.1⟩
                  refine zwW_cmv ChL10.1 (op := 60) (k' := 145) (n := 2) (kd := 12) (m := 13) (nx := 98) (r := 1) (tl := [(0, kL10), (2, v25)]) (st' := []) (by decide +kernel) rfl (by decide +kernel) rfl (x145_z hL10 ChL10 kL10 v25 q a (kL10).toNat (by omega) Gv25 iL10_7 (yHl (yC h) (kL10).toNat) pv25 iL10_3 (by rw [iL10_6]; exact ok) (by rw [iL10_6]; exact PF8) (by rw [iL10_6]; exact LF) (by rw [iL10_6]; exact HA) (by rw [iL10_6]; exact OK6) (by rw [iL10_6]; exact (by first | omega | exact ⟨by omega, by omega⟩)) (by rw [iL10_6]) (by rw [iL10_6]; exact iL10_1) (by rw [iL10_6]; exact iL10_0)) ?_
                  rintro h29 ⟨Ch29, Qh29, f26, f27, f28⟩
                  have Zh29 : yC h29 = (yC h) := (yC_fr ChL10 Qh29 (by decide +kernel) (ChL10.1.b (a1 := 37) (a2 := 37) (j1 := 86) (j2 := 87) (lo := 0) (hi := 6) (by decide +kernel) (r := 37) (j := 86) (by decide) (by decide) (by decide) (by decide)).2).trans iL10_6
                  have Xh29 : zXR msx49_z (6) (6000) h h29 := XhL10.tr (c2 := 6) (s2 := 6000) Qh29 (by decide +kernel) (by decide) (by decide)
                  have th29_3_2 : fld h29 3 2 = fld hL10 3 2 := Qh29.f (a1 := 3) (a2 := 3) (j1 := 2) (j2 := 3) (by decide +kernel) (by first | decide | exact ⟨by decide, by decide⟩) (by first | decide | exact ⟨by decide, by decide⟩) (by first | decide | exact ⟨by decide, by decide⟩)
                  have th29_20_2 : fld h29 20 2 = fld hL10 20 2 := Qh29.f (a1 := 20) (a2 := 20) (j1 := 2) (j2 := 3) (by decide +kernel) (by first | decide | exact ⟨by decide, by decide⟩) (by first | decide | exact ⟨by decide, by decide⟩) (by first | decide | exact ⟨by decide, by decide⟩)
                  have Vh29 : zRq q h29 := iL10_3.fr ChL10 Qh29 (by decide +kernel)
                  have XLh29 := iL10_1.fr ChL10 Qh29 (by decide +kernel)
                  have XGh29 : xGt 6 (fun _ => 0) h29 := iL10_2.fr Qh29 (by decide +kernel)
                  have HO98 : xHo (yHd q (yC h) a) ((kL10).toNat + 1) h29 := by
                    have z := f27
                    rw [Z79] at z
                    exact z
                  refine zwW_inc (i := 3) (c := 1) (x := kL10) (nx := 101) (by decide +kernel) rfl (by first | omega | exact ⟨by omega, by omega⟩) (ls' := [(2, 1), (0, a), (0, b), (0, (kL10 + 1))]) rfl ?_
                  refine zwW_p [(24, 65, 0)] (q := 65) (ls' := [(2, 1), (0, a), (0, b), (0, (kL10 + 1))]) (st' := []) (by decide +kernel) rfl ?_
                  exact IHL10 ((1000 - (kL10 + 1))).toNat (by omega) (kL10 + 1) h29 rfl (by rw [show (kL10 + 1).toNat = (kL10).toNat + 1 by omega]; exact HO98) (XLh29) (XGh29) (Vh29) (by omega) (by omega) (Zh29) (f28) Ch29 (Xh29.le (by decide) (by decide))
            exact L10 _ 0 hL7 rfl (iL7_2) (XL63) (iL7_1) (iL7_3) (by omega) (by omega) (iL7_6) (iL7_7) ChL7 (XhL7.le (by decide) (by decide))
          · refine zwW_p [(1, 1, 0), (1, 3, 0)] (q := 33) (ls' := [(2, 1), (0, a), (0, b), (0, kL7)]) (st' := [(0, kL7), (0, a)]) (by decide +kernel) rfl ?_
            refine zwW_ib (a := 9) (nx := 34) (by decide +kernel) rfl ?_
            refine zwW_p [(0, 1, 0)] (q := 35) (ls' := [(2, 1), (0, a), (0, b), (0, kL7)]) (st' := [(0, 1), (0, (i_shr a kL7))]) (by decide +kernel) rfl ?_
            refine zwW_ib (a := 5) (nx := 36) (by decide +kernel) rfl ?_
            refine zwif_eq (q := 57) (nx := 39) (by decide +kernel) (fun c30 => ?_) (fun c30 => ?_)
            · have XL57 : xLm (yLc a ((kL7).toNat + 1)) (yLh a ((kL7).toNat + 1)) hL7 := by
                first
                | exact f3.lb YB39
                | exact iL7_0.la (by unfold yBt; rw [show (((kL7).toNat : Nat) : Int) = kL7 by omega]; omega)
              refine zwW_inc (i := 3) (c := 1) (x := kL7) (nx := 60) (by decide +kernel) rfl (by first | omega | exact ⟨by omega, by omega⟩) (ls' := [(2, 1), (0, a), (0, b), (0, (kL7 + 1))]) rfl ?_
              refine zwW_p [(24, 20, 0)] (q := 20) (ls' := [(2, 1), (0, a), (0, b), (0, (kL7 + 1))]) (st' := []) (by decide +kernel) rfl ?_
              exact IHL7 ((1000 - (kL7 + 1))).toNat (by omega) (kL7 + 1) hL7 rfl (by rw [show (kL7 + 1).toNat = (kL7).toNat + 1 by omega]; exact XL57) (iL7_1) (iL7_2) (iL7_3) (by omega) (by omega) (iL7_6) (iL7_7) ChL7 (XhL7.le (by decide) (by decide))
            · have YB39 : yBt a (((kL7).toNat : Nat) : Int) ≠ 0 := by
                unfold yBt
                rw [show (((kL7).toNat : Nat) : Int) = kL7 by omega]
                omega
              have ML39 := yLc_mono (b := a) (n := (kL7).toNat + 1) (yC h 37 2).toNat (by omega)
              have MS39 : yLc a ((kL7).toNat + 1) = yLc a (kL7).toNat + 1 := by rw [yLc_s, if_neg YB39]
              refine zwW_p [(1, 0, 2)] (q := 40) (ls' := [(2, 1), (0, a), (0, b), (0, kL7)]) (st' := [(2, 1)]) (by decide +kernel) rfl ?_
              refine zwW_gc ChL7.1 (kd := 12) (bn := 9) (n := 13) (c := 19) (nx := 43) (by decide +kernel) ?_
              refine zwW_p [(1, 0, 2)] (q := 44) (ls' := [(2, 1), (0, a), (0, b), (0, kL7)]) (st' := [(2, 1), (2, 19)]) (by decide +kernel) rfl ?_
              refine zwW_gc ChL7.1 (kd := 12) (bn := 3) (n := 13) (c := 3) (nx := 47) (by decide +kernel) ?_
              refine zwW_p [(1, 3, 0)] (q := 48) (ls' := [(2, 1), (0, a), (0, b), (0, kL7)]) (st' := [(0, kL7), (2, 3), (2, 19)]) (by decide +kernel) rfl ?_
              refine zwW_cm ChL7.1 (op := 60) (k' := 123) (n := 1) (kd := 0) (m := 3) (nx := 51) (r := 3) (tl := [(0, kL7)]) (st' := [(2, 19)]) (by decide +kernel) rfl (by decide +kernel) rfl (x123_3 ChL7 (i := kL7) (by first | omega | exact ⟨by omega, by omega⟩)) ?_
              rintro v31 _ ⟨rfl, Gv31, ev31⟩
              have lv31 := Gv31.1
              have pv31 : v31 = zv hL7 3 kL7.toNat ∧ ((kL7.toNat : Nat) : Int) < fld hL7 3 2 := ⟨ev31, by omega⟩
              refine zwW_cast (a := 4) (kd := 4) (n := 19) (nx := 54) (by decide +kernel) rfl (Or.inr Gv31.2.1) ?_
              refine zwW_cmv ChL7.1 (op := 60) (k' := 144) (n := 1) (kd := 3) (m := 10) (nx := 57) (r := 19) (tl := [(2, v31)]) (st' := []) (by decide +kernel) rfl (by decide +kernel) rfl (x144_z hL7 ChL7 v31 (yLc a (kL7).toNat) (yLh a (kL7).toNat) Gv31 iL7_7 kL7.toNat pv31 iL7_0 (by omega) (by have := XhL7.hl C ChL7 (by decide) hl; omega)) ?_
              rintro h34 ⟨Ch34, Qh34, f32, f33⟩
              have Zh34 : yC h34 = (yC h) := (yC_fr ChL7 Qh34 (by decide +kernel) (ChL7.1.b (a1 := 37) (a2 := 37) (j1 := 86) (j2 := 87) (lo := 0) (hi := 6) (by decide +kernel) (r := 37) (j := 86) (by decide) (by decide) (by decide) (by decide)).2).trans iL7_6
              have Xh34 : zXR msx49_z (6) (6000) h h34 := XhL7.tr (c2 := 6) (s2 := 6000) Qh34 (by decide +kernel) (by decide) (by decide)
              have th34_3_2 : fld h34 3 2 = fld hL7 3 2 := Qh34.f (a1 := 3) (a2 := 3) (j1 := 2) (j2 := 3) (by decide +kernel) (by first | decide | exact ⟨by decide, by decide⟩) (by first | decide | exact ⟨by decide, by decide⟩) (by first | decide | exact ⟨by decide, by decide⟩)
              have th34_20_2 : fld h34 20 2 = fld hL7 20 2 := Qh34.f (a1 := 20) (a2 := 20) (j1 := 2) (j2 := 3) (by decide +kernel) (by first | decide | exact ⟨by decide, by decide⟩) (by first | decide | exact ⟨by decide, by decide⟩) (by first | decide | exact ⟨by decide, by decide⟩)
              have Vh34 : zRq q h34 := iL7_3.fr ChL7 Qh34 (by decide +kernel)
              have XGh34 : xGt 6 (fun _ => 0) h34 := iL7_1.fr Qh34 (by decide +kernel)
              have HOh34 := iL7_2.fr Qh34 (by decide +kernel)
              have XL57 : xLm (yLc a ((kL7).toNat + 1)) (yLh a ((kL7).toNat + 1)) h34 := by
                first
                | exact f32.lb YB39
                | exact None.la (by unfold yBt; rw [show (((kL7).toNat : Nat) : Int) = kL7 by omega]; omega)
              refine zwW_inc (i := 3) (c := 1) (x := kL7) (nx := 60) (by decide +kernel) rfl (by first | omega | exact ⟨by omega, by omega⟩) (ls' := [(2, 1), (0, a), (0, b), (0, (kL7 + 1))]) rfl ?_
              refine zwW_p [(24, 20, 0)] (q := 20) (ls' := [(2, 1), (0, a), (0, b), (0, (kL7 + 1))]) (st' := []) (by decide +kernel) rfl ?_
              exact IHL7 ((1000 - (kL7 + 1))).toNat (by omega) (kL7 + 1) h34 rfl (by rw [show (kL7 + 1).toNat = (kL7).toNat + 1 by omega]; exact XL57) (XGh34) (HOh34) (Vh34) (by omega) (by omega) (Zh34) (f33) Ch34 (Xh34.le (by decide) (by decide))
      exact L7 _ 0 h6 rfl (XL18) (XG18) (HO18) (Vh6) (by omega) (by omega) (Zh6) (f5) Ch6 (Xh6.le (by decide) (by decide))
    · exfalso; omega
  · refine zwif_ne (q := 11) (nx := 9) (by decide +kernel) (fun c35 => ?_) (fun c35 => ?_)
    · exfalso; omega
    · refine zwW_p [(0, -1, 0)] (q := 10) (ls' := [(2, 1), (0, a), (0, b), (9, 0)]) (st' := [(0, -1)]) (by decide +kernel) rfl ?_
      refine zwW_ret (nx := 11) (a := 0) (b := 0) (by decide +kernel) rfl (Or.inl rfl) ?_
      exact ⟨C, X.le (by decide) (by decide), by omega, by first | exact (yHnA_x c1).symm | exact (ea.trans None.2.1).trans (yHnA_0 OK (by omega)).symm | exact (ea.trans None.2.2).trans (yHnA_1 OK (by omega)).symm | exact (ea.trans trivial.1).trans (yHnA_2 OK (by omega)).symm | exact (trivial.trans (show _ = yHw q (yC h) a (b - 10).toNat by rw [trivial.2 (b - 10).toNat (by show _ < (yC h 37 86).toNat; omega)]; rfl)).trans (yHnA_w OK (by first | omega | exact ⟨by omega, by omega⟩)).symm, by exact J⟩
end
section
/-! hands, the model: what lies in its arrays -/
section YMH
variable {d : hD} {ll : Nat → Int} {hh h2 : Nat → Nat} {h g : Hp} {ms : Zms} {x y b : Int} {i j k m n r u v : Nat} {t : hS}
def mLm (n : Nat) (hh : Nat → Nat) (h : Hp) : Prop := ∀ i : Nat, i < n → fld h 188 i = ((hh i : Nat) : Int)
def mNd (d : hD) (n : Nat) (h : Hp) : Prop := ∀ k : Nat, k < n → fld h 187 k = hN d k
def mRy (d : hD) (k i : Nat) (h : Hp) : Prop := ∀ j v : Nat, j < 6 → v < hm d → (j < k ∨ (j = k ∧ v < i)) → fld h (192 + (j : Int)) v = hy d j v
def mRf (d : hD) (k i : Nat) (h : Hp) : Prop := ∀ j v : Nat, j < 6 → v < hm d → (j < k ∨ (j = k ∧ v < i)) → fld h (199 + (j : Int)) v = hf d j v
def mHs (d : hD) (hh : Nat → Nat) (h : Hp) : Prop := (fld h 37 86 = hn d ∧ fld h 37 87 = hm d) ∧ (mNd d (hn d) h ∧ mLm (hm d) hh h) ∧ (∀ i : Nat, i < hm d → hh i < 20 ∧ fld h 91 (hh i) = hc d i) ∧ mRy d (hn d) 0 h ∧ mRf d (hn d) 0 h
def mLn (n : Nat) (ll : Nat → Int) (h : Hp) : Prop := ∀ j : Nat, j < n → fld h 189 j = ll j
def mHq (d : hD) (t : hS) (h : Hp) : Prop := (fld h 37 88 = t.1 ∧ fld h 37 89 = t.2.1 ∧ fld h 37 90 = t.2.2.1) ∧ ∀ j : Nat, j < hn d → fld h 190 j = t.2.2.2 j
theorem mLm.fr (H : mLm n hh h) (R : zMR ms h g) (e : zun ms 188 = true) : mLm n hh g := fun i hi => (congrFun (R.un (a := 188) e) i).trans (H i hi)
theorem mNd.fr (H : mNd d n h) (R : zMR ms h g) (e : zun ms 187 = true) : mNd d n g := fun i hi => (congrFun (R.un (a := 187) e) i).trans (H i hi)
theorem mRy.fr (H : mRy d k i h) (R : zMR ms h g) (e : zuw ms 192 197 = true) : mRy d k i g := fun j v hj hv hk => (congrFun (R.rw e (r := 192 + (j : Int)) (by omega) (by omega)) v).trans (H j v hj hv hk)
theorem mRf.fr (H : mRf d k i h) (R : zMR ms h g) (e : zuw ms 199 204 = true) : mRf d k i g := fun j v hj hv hk => (congrFun (R.rw e (r := 199 + (j : Int)) (by omega) (by omega)) v).trans (H j v hj hv hk)
theorem mLn.fr (H : mLn n ll h) (R : zMR ms h g) (e : zun ms 189 = true) : mLn n ll g := fun i hi => (congrFun (R.un (a := 189) e) i).trans (H i hi)
def zkMs (ms : Zms) : Bool := zqN ms 37 37 86 88 && ((zun ms 187 && zun ms 188) && (zun ms 91 && (zuw ms 192 197 && zuw ms 199 204)))
theorem mHs.fr (H : mHs d hh h) (R : zMR ms h g) (e : zkMs ms = true) : mHs d hh g := by
  unfold zkMs at e
  simp only [Bool.and_eq_true] at e
  obtain ⟨e1, ⟨e2, e3⟩, e4, e5, e6⟩ := e
  obtain ⟨⟨a1, a2⟩, ⟨b1, b2⟩, c, d1, d2⟩ := H
  refine ⟨⟨?_, ?_⟩, ⟨b1.fr R e2, b2.fr R e3⟩, fun i hi => ⟨(c i hi).1, (congrFun (R.un (a := 91) e4) _).trans (c i hi).2⟩, d1.fr R e5, d2.fr R e6⟩
  · exact (R.f (a1 := 37) (a2 := 37) (j1 := 86) (j2 := 88) e1 (by first | decide | exact ⟨by decide, by decide⟩) (by first | decide | exact ⟨by decide, by decide⟩)).trans a1
  · exact (R.f (a1 := 37) (a2 := 37) (j1 := 86) (j2 := 88) e1 (by first | decide | exact ⟨by decide, by decide⟩) (by first | decide | exact ⟨by decide, by decide⟩)).trans a2
def zkBq (ms : Zms) : Bool := zqN ms 37 37 88 91 && zun ms 190
theorem mHq.fr (H : mHq d t h) (R : zMR ms h g) (e : zkBq ms = true) : mHq d t g := by
  unfold zkBq at e
  rw [Bool.and_eq_true] at e
  obtain ⟨⟨a1, a2, a3⟩, b⟩ := H
  refine ⟨⟨?_, ?_, ?_⟩, fun j hj => (congrFun (R.un (a := 190) e.2) j).trans (b j hj)⟩
  · exact (R.f (a1 := 37) (a2 := 37) (j1 := 88) (j2 := 91) e.1 (by first | decide | exact ⟨by decide, by decide⟩) (by first | decide | exact ⟨by decide, by decide⟩)).trans a1
  · exact (R.f (a1 := 37) (a2 := 37) (j1 := 88) (j2 := 91) e.1 (by first | decide | exact ⟨by decide, by decide⟩) (by first | decide | exact ⟨by decide, by decide⟩)).trans a2
  · exact (R.f (a1 := 37) (a2 := 37) (j1 := 88) (j2 := 91) e.1 (by first | decide | exact ⟨by decide, by decide⟩) (by first | decide | exact ⟨by decide, by decide⟩)).trans a3
theorem mLn.sx (H : mLn n ll h) (e : g = wr h 189 j x) (hj : j = n) (h6 : j < 6) (s' : sh h 189 = some (20, 6)) : mLn (n + 1) (hu ll n x) g := fun i hi => by
  subst hj
  rw [fwi e s' h6 i]
  by_cases z : i = j
  · rw [if_pos z, z, hu_e]
  · rw [if_neg z, hu_n z]
    exact H i (by omega)
theorem mLn.px (H : mLn (n + 1) (hu ll n x) h) : mLn n ll h := fun i hi => (H i (by omega)).trans (hu_n (by omega))
theorem mNd.sx (H : mNd d n h) (e : g = wr h 187 j x) (hj : j = n) (h6 : j < 6) (s' : sh h 187 = some (20, 6)) (hx : x = hN d n) : mNd d (n + 1) g := fun i hi => by
  subst hj
  rw [fwi e s' h6 i]
  by_cases z : i = j
  · rw [if_pos z, z, hx]
  · rw [if_neg z]
    exact H i (by omega)
theorem mLm.wx (H : mLm n hh h) (e : g = wr h 188 j x) (hj : j = n) (h6 : j < 6) (s' : sh h 188 = some (20, 6)) (hx : x = ((k : Nat) : Int)) : mLm (n + 1) (fun i => if i = n then k else hh i) g := fun i hi => by
  subst hj
  rw [fwi e s' h6 i]
  dsimp only
  by_cases z : i = j
  · rw [if_pos z, if_pos z, hx]
  · rw [if_neg z, if_neg z]
    exact H i (by omega)
theorem mLm.cg (H : mLm n hh h) (hn : n = m) (e : ∀ i, i < n → hh i = h2 i) : mLm m h2 h := by
  subst hn
  exact fun i hi => by rw [← e i hi]; exact H i hi
theorem mLm.la (H : mLm (yLc b k) (yLh b k) h) (y : yBt b k = 0) : mLm (yLc b (k + 1)) (yLh b (k + 1)) h := H.cg (by have z := yLc_s (b := b) (k := k); rw [if_pos y] at z; omega) (fun i hi => (yLh_old hi).symm)
theorem mLm.lb (H : mLm (yLc b k + 1) (fun i => if i = yLc b k then k else yLh b k i) h) (y : yBt b k ≠ 0) : mLm (yLc b (k + 1)) (yLh b (k + 1)) h := H.cg (by have z := yLc_s (b := b) (k := k); rw [if_neg y] at z; omega) (fun i hi => by
  by_cases z : i = yLc b k
  · rw [if_pos z, z, yLh_new y]
  · rw [if_neg z, yLh_n (fun q => z q.2.symm)])
theorem mRy.wx (H : mRy d k i h) (e : g = wr h (192 + x) j y) (hx : x = (k : Int)) (hj : j = i) (hi : i < 6) (s' : sh h (192 + x) = some (22, 6)) (hy' : y = hy d k i) : mRy d k (i + 1) g := fun u v hu hv hk => by
  subst hj
  subst hx
  by_cases z : u = k
  · rw [z, fwi e s' hi v]
    by_cases w : v = j
    · rw [if_pos w, w, hy']
    · rw [if_neg w, ← z]
      exact H u v hu hv (by omega)
  · rw [fld_oth e (Or.inl (by omega))]
    exact H u v hu hv (by omega)
theorem mRf.wx (H : mRf d k i h) (e : g = wr h (199 + x) j y) (hx : x = (k : Int)) (hj : j = i) (hi : i < 6) (s' : sh h (199 + x) = some (20, 6)) (hy' : y = hf d k i) : mRf d k (i + 1) g := fun u v hu hv hk => by
  subst hj
  subst hx
  by_cases z : u = k
  · rw [z, fwi e s' hi v]
    by_cases w : v = j
    · rw [if_pos w, w, hy']
    · rw [if_neg w, ← z]
      exact H u v hu hv (by omega)
  · rw [fld_oth e (Or.inl (by omega))]
    exact H u v hu hv (by omega)
theorem mRy.nx (H : mRy d k (hm d) h) : mRy d (k + 1) 0 h := fun u v hu hv hk => H u v hu hv (by omega)
theorem mRf.nx (H : mRf d k (hm d) h) : mRf d (k + 1) 0 h := fun u v hu hv hk => H u v hu hv (by omega)
/-- sums, loom by loom -/
theorem hL_s1 (z : ll k = (i : Int)) : hL d ll i (k + 1) = hL d ll i k + hN d k := by
  show hL d ll i k + (if ll k = (i : Int) then hN d k else 0) = _
  rw [if_pos z]
theorem hL_s0 (z : ll k ≠ (i : Int)) : hL d ll i (k + 1) = hL d ll i k := by
  show hL d ll i k + (if ll k = (i : Int) then hN d k else 0) = _
  rw [if_neg z, Int.add_zero]
theorem hG_s1 (z : ll k = (i : Int)) : hG d ll i (k + 1) = hG d ll i k + hf d k i := by
  show hG d ll i k + (if ll k = (i : Int) then hf d k i else 0) = _
  rw [if_pos z]
theorem hG_s0 (z : ll k ≠ (i : Int)) : hG d ll i (k + 1) = hG d ll i k := by
  show hG d ll i k + (if ll k = (i : Int) then hf d k i else 0) = _
  rw [if_neg z, Int.add_zero]
theorem hVc_y (V : hVc d k x) (hx : x = (i : Int)) : hy d k i ≠ 0 := by
  rcases V with z | ⟨_, z⟩
  · omega
  · rw [show x.toNat = i by omega] at z
    exact z
theorem hG_b (B : hOk d) (hi : i < hm d) : ∀ k : Nat, k ≤ hn d → hV d ll k → 0 ≤ hG d ll i k ∧ hG d ll i k ≤ 999999 * (k : Int)
  | 0, _, _ => ⟨Int.le_refl _, by show (0 : Int) ≤ _; omega⟩
  | k + 1, hk, V => by
    have w := hG_b B hi k (by omega) (fun j hj => V j (by omega))
    by_cases z : ll k = (i : Int)
    · have b := B.2.2 k i (by omega) hi (hVc_y (V k (by omega)) z)
      rw [hG_s1 z]
      omega
    · rw [hG_s0 z]
      omega
theorem hH_b (B : hOk d) : ∀ i : Nat, 0 ≤ hH d ll i ∧ hH d ll i ≤ 24000 * (i : Int)
  | 0 => ⟨Int.le_refl _, by show (0 : Int) ≤ _; omega⟩
  | i + 1 => by
    have w := hH_b B i
    have b := hL_b B (l := ll) (i := i) (hn d) (Nat.le_refl _)
    have b6 := B.1.1
    show 0 ≤ hH d ll i + hL d ll i (hn d) ∧ hH d ll i + hL d ll i (hn d) ≤ _
    omega
theorem hY_b (B : hOk d) (V : hV d ll (hn d)) : ∀ i : Nat, i ≤ hm d → 0 ≤ hY d ll i ∧ hY d ll i ≤ 5999994 * (i : Int)
  | 0, _ => ⟨Int.le_refl _, by show (0 : Int) ≤ _; omega⟩
  | i + 1, hi => by
    have w := hY_b B V i (by omega)
    have b := hG_b B (i := i) (by omega) (hn d) (Nat.le_refl _) V
    have b6 := B.1.1
    show 0 ≤ hY d ll i + hG d ll i (hn d) ∧ hY d ll i + hG d ll i (hn d) ≤ _
    omega
/-- the model's steps -/
def hTs (d : hD) (k r : Nat) (l : Nat → Int) (i : Nat) (q : hS) : hS := if hy d k i = 0 then q else hT d r (k + 1) (hu l k i) q
theorem hTs_n (h : hy d k i ≠ 0) : hTs d k r ll i t = hT d r (k + 1) (hu ll k i) t := if_neg h
theorem hTs_z (h : hy d k i = 0) : hTs d k r ll i t = t := if_pos h
theorem hT_s : hT d (r + 1) k ll t = hT d r (k + 1) (hu ll k (-1)) (fo (hTs d k r ll) (hm d) t) := rfl
theorem hT_0 : hT d 0 k ll t = hLk d ll t := rfl
def zTH (sc : List Int) (D : Nat) (a : Int) : Prop := ∀ (h : Hp) (I : zI h) (d : hD) (hh : Nat → Nat) (ll : Nat → Int) (t : hS) (k r : Nat) (B : hOk d) (HU : ∀ i, i < hm d → hc d i ≤ 1000) (H : mHs d hh h) (pa : a = (k : Int)) (pr : k + r = hn d) (V : hV d ll k) (L : mLn k ll h) (QQ : mHq d t h), zwC sc D 213 [(2, 37), (0, a)] h (zwRv (fun g => zI g ∧ zMR msT h g ∧ (mHq d (hT d r k ll t) g) ∧ (mLn k ll g)))
theorem yM_a (hk : (k : Int) < fld h 37 86) : fld h 186 k = yM h 186 k := ((yM_186 (h := h) (i := k)).trans (if_pos hk)).symm
end YMH
end
section
/-! contracts of methods -/
-- WheelLandModel.barOf(III)I
theorem m208_h {sc : List Int} (h : Hp) (I : zI h) (a b c : Int) (q : qT) (q_c : -2147483648 ≤ c ∧ c ≤ 2147483647) (p1 : 0 ≤ a) (p2 : a ≤ 19) (p3 : 0 ≤ b) (p4 : b ≤ 299) (pa : a < fld h 37 2) (pb : b < fld h 37 64) (pc : 0 ≤ c ∧ c ≤ 4000) (V : mRq q h) (ok : yOK (yM h)) (PF8 : yF8 (yM h)) (hR : zRO h) : zwC sc 6 208 [(2, 37), (0, a), (0, b), (0, c)] h (zwRt 0 (fun x g => zI g ∧ zMR ms208 h g ∧ (-2147483648 ≤ x ∧ x ≤ 2147483647) ∧ (0 ≤ x ∧ x ≤ 5) ∧ (x = yLbar q (yM h) a.toNat b.toNat c))) := by
  refine zwC_of (D := 5) 4 (by decide +kernel) rfl (ls := [(2, 37), (0, a), (0, b), (0, c)]) rfl ?_
  have R : zMR ms208 h h := zMR.rf _ _
  have u0 : yM h 37 0 = fld h 37 0 := rfl
  have u1 : yM h 37 1 = fld h 37 1 := rfl
  have u2 : yM h 37 2 = fld h 37 2 := rfl
  have u64 : yM h 37 64 = fld h 37 64 := rfl
  have KL := ok.lo (l := b.toNat) (by show _ < fld h 37 64; omega)
  have KS := ok.ho (k := (yM h 170 b.toNat).toNat) (by omega)
  have KH := ok.ho (k := a.toNat) (by show _ < fld h 37 2; omega)
  have WNS := eNs_wm ok PF8 (k := a.toNat) (l := b.toNat) (x := c) (by show _ < fld h 37 2; omega) (by show _ < fld h 37 64; omega) (by first | omega | exact ⟨by omega, by omega⟩)
  have BT3 := V.bit (c := 3) (w := yM h 37 0) WNS (by first | decide | exact ⟨by decide, by decide⟩)
  unfold eBit at BT3
  have W30 : w32 (yM h 172 b.toNat + 30) = yM h 172 b.toNat + 30 := w32_id (by first | omega | exact ⟨by omega, by omega⟩)
  have w91 : yM h 91 a.toNat = fld h 91 a.toNat := yM_p (a := 91) (n := 20) rfl (by omega)
  refine zwW_p [(1, 0, 2), (1, 1, 0)] (q := 2) (ls' := [(2, 37), (0, a), (0, b), (0, c)]) (st' := [(0, a), (2, 37)]) (by decide +kernel) rfl ?_
  refine zwW_cm I (op := 60) (k' := 112) (n := 1) (kd := 13) (m := 97) (nx := 5) (r := 37) (tl := [(0, a)]) (st' := []) (by decide +kernel) rfl (by decide +kernel) rfl (m112 h I a (by omega) (by omega)) ?_
  rintro x _ ⟨rfl, ⟨rfl, c1⟩ | ⟨rfl, c1⟩⟩
  · refine zwif_ne (q := 10) (nx := 8) (by decide +kernel) (fun c2 => ?_) (fun c2 => ?_)
    · refine zwW_p [(1, 0, 2)] (q := 11) (ls' := [(2, 37), (0, a), (0, b), (0, c)]) (st' := [(2, 37)]) (by decide +kernel) rfl ?_
      refine zwW_gc I (kd := 13) (bn := 60) (n := 97) (c := 172) (nx := 14) (by decide +kernel) ?_
      refine zwW_p [(1, 2, 0)] (q := 15) (ls' := [(2, 37), (0, a), (0, b), (0, c)]) (st' := [(0, b), (2, 172)]) (by decide +kernel) rfl ?_
      have ib1 : 0 ≤ b ∧ b < ((300 : Nat) : Int) := (by first | omega | exact ⟨by omega, by omega⟩)
      refine zwW_al I (a1 := 172) (a2 := 172) (kd := 20) (n := 300) (t := 0) (lo := -2147483648) (hi := 2147483647) (nx := 16) (by decide +kernel) (by first | decide | exact ⟨by decide, by decide⟩) ib1 ?_
      intro v3 ev3 lv3 uv3
      have sv3 : v3 = (yM h) 172 b.toNat := Eq.trans ev3 (Eq.trans (Eq.symm (yM_p (h := h) (a := 172) (n := 300) (i := b.toNat) rfl (zit ib1))) (Eq.trans (congrFun (congrFun (rfl : yM h = yM h) 172) b.toNat) rfl))
      refine zwW_p [(7, 0, 0), (1, 0, 2)] (q := 18) (ls' := [(2, 37), (0, a), (0, b), (0, c)]) (st' := [(2, 37), (1, v3)]) (by decide +kernel) rfl ?_
      refine zwW_gc I (kd := 13) (bn := 30) (n := 97) (c := 89) (nx := 21) (by decide +kernel) ?_
      refine zwW_p [(1, 1, 0)] (q := 22) (ls' := [(2, 37), (0, a), (0, b), (0, c)]) (st' := [(0, a), (2, 89), (1, v3)]) (by decide +kernel) rfl ?_
      have ib2 : 0 ≤ a ∧ a < ((20 : Nat) : Int) := (by first | omega | exact ⟨by omega, by omega⟩)
      refine zwW_al I (a1 := 89) (a2 := 89) (kd := 20) (n := 20) (t := 0) (lo := -2147483648) (hi := 2147483647) (nx := 23) (by decide +kernel) (by first | decide | exact ⟨by decide, by decide⟩) ib2 ?_
      intro v4 ev4 lv4 uv4
      have sv4 : v4 = (yM h) 89 a.toNat := Eq.trans ev4 (Eq.trans (Eq.symm (yM_p (h := h) (a := 89) (n := 20) (i := a.toNat) rfl (zit ib2))) (Eq.trans (congrFun (congrFun (rfl : yM h = yM h) 89) a.toNat) rfl))
      refine zwW_p [(7, 0, 0), (1, 0, 2)] (q := 25) (ls' := [(2, 37), (0, a), (0, b), (0, c)]) (st' := [(2, 37), (1, v4), (1, v3)]) (by decide +kernel) rfl ?_
      refine zwW_gc I (kd := 13) (bn := 31) (n := 97) (c := 90) (nx := 28) (by decide +kernel) ?_
      refine zwW_p [(1, 1, 0)] (q := 29) (ls' := [(2, 37), (0, a), (0, b), (0, c)]) (st' := [(0, a), (2, 90), (1, v4), (1, v3)]) (by decide +kernel) rfl ?_
      refine zwW_al I (a1 := 90) (a2 := 90) (kd := 20) (n := 20) (t := 0) (lo := -2147483648) (hi := 2147483647) (nx := 30) (by decide +kernel) (by first | decide | exact ⟨by decide, by decide⟩) ib2 ?_
      intro v5 ev5 lv5 uv5
      have sv5 : v5 = (yM h) 90 a.toNat := Eq.trans ev5 (Eq.trans (Eq.symm (yM_p (h := h) (a := 90) (n := 20) (i := a.toNat) rfl (zit ib2))) (Eq.trans (congrFun (congrFun (rfl : yM h = yM h) 90) a.toNat) rfl))
      refine zwW_p [(7, 0, 0)] (q := 31) (ls' := [(2, 37), (0, a), (0, b), (0, c)]) (st' := [(1, v5), (1, v4), (1, v3)]) (by decide +kernel) rfl ?_
      refine zwW_cs (k' := 101) (n := 3) (nx := 34) (as := [(1, v3), (1, v4), (1, v5)]) (st' := []) (by decide +kernel) rfl (m101 h v3 v4 v5) rfl ?_
      rintro x _ ⟨rfl, ⟨rfl, c6⟩ | ⟨rfl, c6⟩⟩
      · refine zwif_ne (q := 39) (nx := 37) (by decide +kernel) (fun c7 => ?_) (fun c7 => ?_)
        · refine zwW_p [(1, 0, 2)] (q := 40) (ls' := [(2, 37), (0, a), (0, b), (0, c)]) (st' := [(2, 37)]) (by decide +kernel) rfl ?_
          refine zwW_gc I (kd := 13) (bn := 61) (n := 97) (c := 173) (nx := 43) (by decide +kernel) ?_
          refine zwW_p [(1, 2, 0)] (q := 44) (ls' := [(2, 37), (0, a), (0, b), (0, c)]) (st' := [(0, b), (2, 173)]) (by decide +kernel) rfl ?_
          refine zwW_al I (a1 := 173) (a2 := 173) (kd := 20) (n := 300) (t := 0) (lo := -2147483648) (hi := 2147483647) (nx := 45) (by decide +kernel) (by first | decide | exact ⟨by decide, by decide⟩) ib1 ?_
          intro v8 ev8 lv8 uv8
          have sv8 : v8 = (yM h) 173 b.toNat := Eq.trans ev8 (Eq.trans (Eq.symm (yM_p (h := h) (a := 173) (n := 300) (i := b.toNat) rfl (zit ib1))) (Eq.trans (congrFun (congrFun (rfl : yM h = yM h) 173) b.toNat) rfl))
          refine zwW_p [(1, 0, 2)] (q := 46) (ls' := [(2, 37), (0, a), (0, b), (0, c)]) (st' := [(2, 37), (0, v8)]) (by decide +kernel) rfl ?_
          refine zwW_gc I (kd := 13) (bn := 60) (n := 97) (c := 172) (nx := 49) (by decide +kernel) ?_
          refine zwW_p [(1, 2, 0)] (q := 50) (ls' := [(2, 37), (0, a), (0, b), (0, c)]) (st' := [(0, b), (2, 172), (0, v8)]) (by decide +kernel) rfl ?_
          refine zwW_al I (a1 := 172) (a2 := 172) (kd := 20) (n := 300) (t := 0) (lo := -2147483648) (hi := 2147483647) (nx := 51) (by decide +kernel) (by first | decide | exact ⟨by decide, by decide⟩) ib1 ?_
          intro v9 ev9 lv9 uv9
          have sv9 : v9 = (yM h) 172 b.toNat := Eq.trans ev9 (Eq.trans (Eq.symm (yM_p (h := h) (a := 172) (n := 300) (i := b.toNat) rfl (zit ib1))) (Eq.trans (congrFun (congrFun (rfl : yM h = yM h) 172) b.toNat) rfl))
          refine zwW_p [(0, 30, 0)] (q := 53) (ls' := [(2, 37), (0, a), (0, b), (0, c)]) (st' := [(0, 30), (0, v9), (0, v8)]) (by decide +kernel) rfl ?_
          refine zwW_adw (nx := 54) (by decide +kernel) ?_
          intro v10 ev10 lv10 uv10
          have Ev10 : v10 = w32 (((yM h) 172 b.toNat) + 30) := by rw [ev10, sv9]
          refine zwic_ge (q := 59) (nx := 57) (by decide +kernel) (fun c11 => ?_) (fun c11 => ?_)
          · refine zwW_p [(1, 0, 2), (1, 0, 2)] (q := 61) (ls' := [(2, 37), (0, a), (0, b), (0, c)]) (st' := [(2, 37), (2, 37)]) (by decide +kernel) rfl ?_
            refine zwW_gc I (kd := 13) (bn := 20) (n := 97) (c := 79) (nx := 64) (by decide +kernel) ?_
            refine zwW_p [(1, 0, 2)] (q := 65) (ls' := [(2, 37), (0, a), (0, b), (0, c)]) (st' := [(2, 37), (2, 79), (2, 37)]) (by decide +kernel) rfl ?_
            refine zwW_gc I (kd := 13) (bn := 58) (n := 97) (c := 170) (nx := 68) (by decide +kernel) ?_
            refine zwW_p [(1, 2, 0)] (q := 69) (ls' := [(2, 37), (0, a), (0, b), (0, c)]) (st' := [(0, b), (2, 170), (2, 79), (2, 37)]) (by decide +kernel) rfl ?_
            refine zwW_al I (a1 := 170) (a2 := 170) (kd := 20) (n := 300) (t := 0) (lo := 0) (hi := 19) (nx := 70) (by decide +kernel) (by first | decide | exact ⟨by decide, by decide⟩) ib1 ?_
            intro v12 ev12 lv12 uv12
            have sv12 : v12 = (yM h) 170 b.toNat := Eq.trans ev12 (Eq.trans (Eq.symm (yM_p (h := h) (a := 170) (n := 300) (i := b.toNat) rfl (zit ib1))) (Eq.trans (congrFun (congrFun (rfl : yM h = yM h) 170) b.toNat) rfl))
            have ib3 : 0 ≤ v12 ∧ v12 < ((20 : Nat) : Int) := (by first | omega | exact ⟨by omega, by omega⟩)
            refine zwW_al I (a1 := 79) (a2 := 79) (kd := 20) (n := 20) (t := 0) (lo := 0) (hi := 7) (nx := 71) (by decide +kernel) (by first | decide | exact ⟨by decide, by decide⟩) ib3 ?_
            intro v13 ev13 lv13 uv13
            have sv13 : v13 = (yM h) 79 (((yM h) 170 b.toNat).toNat) := Eq.trans ev13 (Eq.trans (Eq.symm (yM_p (h := h) (a := 79) (n := 20) (i := v12.toNat) rfl (zit ib3))) (Eq.trans (congrArg (yM h 79) (show v12.toNat = ((yM h) 170 b.toNat).toNat by rw [sv12])) (Eq.trans (congrFun (congrFun (rfl : yM h = yM h) 79) (((yM h) 170 b.toNat).toNat)) rfl)))
            refine zwW_p [(1, 0, 2)] (q := 72) (ls' := [(2, 37), (0, a), (0, b), (0, c)]) (st' := [(2, 37), (0, v13), (2, 37)]) (by decide +kernel) rfl ?_
            refine zwW_gc I (kd := 13) (bn := 20) (n := 97) (c := 79) (nx := 75) (by decide +kernel) ?_
            refine zwW_p [(1, 1, 0)] (q := 76) (ls' := [(2, 37), (0, a), (0, b), (0, c)]) (st' := [(0, a), (2, 79), (0, v13), (2, 37)]) (by decide +kernel) rfl ?_
            refine zwW_al I (a1 := 79) (a2 := 79) (kd := 20) (n := 20) (t := 0) (lo := 0) (hi := 7) (nx := 77) (by decide +kernel) (by first | decide | exact ⟨by decide, by decide⟩) ib2 ?_
            intro v14 ev14 lv14 uv14
            have sv14 : v14 = (yM h) 79 a.toNat := Eq.trans ev14 (Eq.trans (Eq.symm (yM_p (h := h) (a := 79) (n := 20) (i := a.toNat) rfl (zit ib2))) (Eq.trans (congrFun (congrFun (rfl : yM h = yM h) 79) a.toNat) rfl))
            have Z77 := (rfl : yM h = yM h)
            refine zwW_cm I (op := 60) (k' := 106) (n := 2) (kd := 13) (m := 97) (nx := 80) (r := 37) (tl := [(0, v13), (0, v14)]) (st' := []) (by decide +kernel) rfl (by decide +kernel) rfl (m106_f h I v13 v14 (by omega) (by omega) hR (by first | omega | exact ⟨by omega, by omega⟩) (by omega)) ?_
            rintro v15 h20 ⟨Ih20, Qh20, f16, f17, f18, f19⟩
            have Rh20 : zMR ms208 h h20 := R.tr Qh20 (by decide +kernel)
            have Vh20 : mRq q h20 := V.fr Qh20 (by decide +kernel)
            have th20_37_0 : fld h20 37 0 = fld h 37 0 := Qh20.f (a1 := 37) (a2 := 37) (j1 := 0) (j2 := 1) (by decide +kernel) (by first | decide | exact ⟨by decide, by decide⟩) (by first | decide | exact ⟨by decide, by decide⟩)
            have th20_37_1 : fld h20 37 1 = fld h 37 1 := Qh20.f (a1 := 37) (a2 := 37) (j1 := 1) (j2 := 2) (by decide +kernel) (by first | decide | exact ⟨by decide, by decide⟩) (by first | decide | exact ⟨by decide, by decide⟩)
            have th20_37_2 : fld h20 37 2 = fld h 37 2 := Qh20.f (a1 := 37) (a2 := 37) (j1 := 2) (j2 := 3) (by decide +kernel) (by first | decide | exact ⟨by decide, by decide⟩) (by first | decide | exact ⟨by decide, by decide⟩)
            have th20_37_64 : fld h20 37 64 = fld h 37 64 := Qh20.f (a1 := 37) (a2 := 37) (j1 := 64) (j2 := 65) (by decide +kernel) (by first | decide | exact ⟨by decide, by decide⟩) (by first | decide | exact ⟨by decide, by decide⟩)
            have Zh20 : yM h20 = (yM h) := (yM_fr Qh20 (by decide +kernel) (I.b (a1 := 37) (a2 := 37) (j1 := 86) (j2 := 87) (lo := 0) (hi := 6) (by decide +kernel) (r := 37) (j := 86) (by decide) (by decide) (by decide) (by decide)).2).trans (rfl : yM h = yM h)
            have A77 : v15 = (yFarq (yM h) (yM h 79 (yM h 170 b.toNat).toNat).toNat (yM h 79 a.toNat).toNat) := by
              have z := f19
              rw [z, yFq_m (by omega) (by omega), Z77, sv13, sv14]
            refine zwW_p [(0, -1, 0)] (q := 81) (ls' := [(2, 37), (0, a), (0, b), (0, c)]) (st' := [(0, -1), (0, v15)]) (by decide +kernel) rfl ?_
            refine zwic_ne (q := 86) (nx := 84) (by decide +kernel) (fun c21 => ?_) (fun c21 => ?_)
            · refine zwW_p [(1, 0, 2), (1, 1, 0), (1, 2, 0), (1, 3, 0)] (q := 90) (ls' := [(2, 37), (0, a), (0, b), (0, c)]) (st' := [(0, c), (0, b), (0, a), (2, 37)]) (by decide +kernel) rfl ?_
              have Z90 := Zh20
              refine zwW_cmv Ih20 (op := 60) (k' := 136) (n := 3) (kd := 13) (m := 97) (nx := 93) (r := 37) (tl := [(0, a), (0, b), (0, c)]) (st' := []) (by decide +kernel) rfl (by decide +kernel) rfl (m136_z h20 Ih20 a b c (by omega) (by omega) (by omega) (by omega) (by omega) (by omega) (by omega) (by rw [Zh20]; exact ok) (hR.mr Rh20 (by decide +kernel) (by omega))) ?_
              rintro h23 ⟨Ih23, Qh23, f22⟩
              have Rh23 : zMR ms208 h h23 := Rh20.tr Qh23 (by decide +kernel)
              have Vh23 : mRq q h23 := Vh20.fr Qh23 (by decide +kernel)
              have th23_37_0 : fld h23 37 0 = fld h20 37 0 := Qh23.f (a1 := 37) (a2 := 37) (j1 := 0) (j2 := 1) (by decide +kernel) (by first | decide | exact ⟨by decide, by decide⟩) (by first | decide | exact ⟨by decide, by decide⟩)
              have th23_37_1 : fld h23 37 1 = fld h20 37 1 := Qh23.f (a1 := 37) (a2 := 37) (j1 := 1) (j2 := 2) (by decide +kernel) (by first | decide | exact ⟨by decide, by decide⟩) (by first | decide | exact ⟨by decide, by decide⟩)
              have th23_37_2 : fld h23 37 2 = fld h20 37 2 := Qh23.f (a1 := 37) (a2 := 37) (j1 := 2) (j2 := 3) (by decide +kernel) (by first | decide | exact ⟨by decide, by decide⟩) (by first | decide | exact ⟨by decide, by decide⟩)
              have th23_37_64 : fld h23 37 64 = fld h20 37 64 := Qh23.f (a1 := 37) (a2 := 37) (j1 := 64) (j2 := 65) (by decide +kernel) (by first | decide | exact ⟨by decide, by decide⟩) (by first | decide | exact ⟨by decide, by decide⟩)
              have Zh23 : yM h23 = (yM h) := (yM_fr Qh23 (by decide +kernel) (Ih20.b (a1 := 37) (a2 := 37) (j1 := 86) (j2 := 87) (lo := 0) (hi := 6) (by decide +kernel) (r := 37) (j := 86) (by decide) (by decide) (by decide) (by decide)).2).trans Zh20
              have G90 : n13 168 h23 (yWN (yM h) a.toNat b.toNat c) := by
                have z := f22
                rw [Z90] at z
                exact z
              refine zwW_p [(1, 0, 2), (0, 3, 0)] (q := 95) (ls' := [(2, 37), (0, a), (0, b), (0, c)]) (st' := [(0, 3), (2, 37)]) (by decide +kernel) rfl ?_
              refine zwW_cm Ih23 (op := 60) (k' := 137) (n := 1) (kd := 13) (m := 97) (nx := 98) (r := 37) (tl := [(0, 3)]) (st' := []) (by decide +kernel) rfl (by decide +kernel) rfl (m137_e h23 Ih23 3 (by decide) (by decide) Vh23.2.1 Vh23.1 (G90.ns WNS)) ?_
              rintro v24 h27 ⟨Ih27, Qh27, f25, f26⟩
              have Rh27 : zMR ms208 h h27 := Rh23.tr Qh27 (by decide +kernel)
              have Vh27 : mRq q h27 := Vh23.fr Qh27 (by decide +kernel)
              have th27_37_0 : fld h27 37 0 = fld h23 37 0 := Qh27.f (a1 := 37) (a2 := 37) (j1 := 0) (j2 := 1) (by decide +kernel) (by first | decide | exact ⟨by decide, by decide⟩) (by first | decide | exact ⟨by decide, by decide⟩)
              have th27_37_1 : fld h27 37 1 = fld h23 37 1 := Qh27.f (a1 := 37) (a2 := 37) (j1 := 1) (j2 := 2) (by decide +kernel) (by first | decide | exact ⟨by decide, by decide⟩) (by first | decide | exact ⟨by decide, by decide⟩)
              have th27_37_2 : fld h27 37 2 = fld h23 37 2 := Qh27.f (a1 := 37) (a2 := 37) (j1 := 2) (j2 := 3) (by decide +kernel) (by first | decide | exact ⟨by decide, by decide⟩) (by first | decide | exact ⟨by decide, by decide⟩)
              have th27_37_64 : fld h27 37 64 = fld h23 37 64 := Qh27.f (a1 := 37) (a2 := 37) (j1 := 64) (j2 := 65) (by decide +kernel) (by first | decide | exact ⟨by decide, by decide⟩) (by first | decide | exact ⟨by decide, by decide⟩)
              have Zh27 : yM h27 = (yM h) := (yM_fr Qh27 (by decide +kernel) (Ih23.b (a1 := 37) (a2 := 37) (j1 := 86) (j2 := 87) (lo := 0) (hi := 6) (by decide +kernel) (r := 37) (j := 86) (by decide) (by decide) (by decide) (by decide)).2).trans Zh23
              have A95 : v24 = q 3 (yM h 37 0) (yWN (yM h) a.toNat b.toNat c) := by
                have z := f26
                rw [z, G90.tl, Vh23.2.2.2 _ _ _ (by decide) (by decide), show fld h23 37 0 = yM h 37 0 by show _ = fld h 37 0; omega]
              refine zwW_p [(0, 1, 0)] (q := 99) (ls' := [(2, 37), (0, a), (0, b), (0, c)]) (st' := [(0, 1), (0, v24)]) (by decide +kernel) rfl ?_
              refine zwic_ne (q := 106) (nx := 102) (by decide +kernel) (fun c28 => ?_) (fun c28 => ?_)
              · refine zwW_p [(0, 5, 0)] (q := 107) (ls' := [(2, 37), (0, a), (0, b), (0, c)]) (st' := [(0, 5)]) (by decide +kernel) rfl ?_
                refine zwW_ret (nx := 108) (a := 0) (b := 0) (by decide +kernel) rfl (Or.inl rfl) ?_
                exact ⟨Ih27, Rh27, by omega, by omega, by unfold yLbar; (repeat' (first | rw [if_pos (by omega)] | rw [if_neg (by omega)])); all_goals (first | rfl | omega)⟩
              · refine zwW_p [(0, 0, 0), (24, 107, 0)] (q := 107) (ls' := [(2, 37), (0, a), (0, b), (0, c)]) (st' := [(0, 0)]) (by decide +kernel) rfl ?_
                refine zwW_ret (nx := 108) (a := 0) (b := 0) (by decide +kernel) rfl (Or.inl rfl) ?_
                exact ⟨Ih27, Rh27, by omega, by omega, by unfold yLbar; (repeat' (first | rw [if_pos (by omega)] | rw [if_neg (by omega)])); all_goals (first | rfl | omega)⟩
            · refine zwW_p [(0, 4, 0)] (q := 85) (ls' := [(2, 37), (0, a), (0, b), (0, c)]) (st' := [(0, 4)]) (by decide +kernel) rfl ?_
              refine zwW_ret (nx := 86) (a := 0) (b := 0) (by decide +kernel) rfl (Or.inl rfl) ?_
              exact ⟨Ih20, Rh20, by omega, by omega, by unfold yLbar; (repeat' (first | rw [if_pos (by omega)] | rw [if_neg (by omega)])); all_goals (first | rfl | omega)⟩
          · refine zwW_p [(0, 3, 0)] (q := 58) (ls' := [(2, 37), (0, a), (0, b), (0, c)]) (st' := [(0, 3)]) (by decide +kernel) rfl ?_
            refine zwW_ret (nx := 59) (a := 0) (b := 0) (by decide +kernel) rfl (Or.inl rfl) ?_
            exact ⟨I, R, by omega, by omega, by unfold yLbar; (repeat' (first | rw [if_pos (by omega)] | rw [if_neg (by omega)])); all_goals (first | rfl | omega)⟩
        · exfalso; omega
      · refine zwif_ne (q := 39) (nx := 37) (by decide +kernel) (fun c29 => ?_) (fun c29 => ?_)
        · exfalso; omega
        · refine zwW_p [(0, 2, 0)] (q := 38) (ls' := [(2, 37), (0, a), (0, b), (0, c)]) (st' := [(0, 2)]) (by decide +kernel) rfl ?_
          refine zwW_ret (nx := 39) (a := 0) (b := 0) (by decide +kernel) rfl (Or.inl rfl) ?_
          exact ⟨I, R, by omega, by omega, by unfold yLbar; (repeat' (first | rw [if_pos (by omega)] | rw [if_neg (by omega)])); all_goals (first | rfl | omega)⟩
    · exfalso; omega
  · refine zwif_ne (q := 10) (nx := 8) (by decide +kernel) (fun c30 => ?_) (fun c30 => ?_)
    · exfalso; omega
    · refine zwW_p [(0, 1, 0)] (q := 9) (ls' := [(2, 37), (0, a), (0, b), (0, c)]) (st' := [(0, 1)]) (by decide +kernel) rfl ?_
      refine zwW_ret (nx := 10) (a := 0) (b := 0) (by decide +kernel) rfl (Or.inl rfl) ?_
      exact ⟨I, R, by omega, by omega, by unfold yLbar; (repeat' (first | rw [if_pos (by omega)] | rw [if_neg (by omega)])); all_goals (first | rfl | omega)⟩
-- WheelLandModel.looks()V
theorem m253_z {sc : List Int} (h : Hp) (I : zI h) (d : hD) (hh : Nat → Nat) (ll : Nat → Int) (t : hS) (B : hOk d) (HU : ∀ i, i < hm d → hc d i ≤ 1000) (H : mHs d hh h) (V : hV d ll (hn d)) (L : mLn (hn d) ll h) (QQ : mHq d t h) : zwC sc 1 253 [(2, 37)] h (zwRv (fun g => zI g ∧ zMR ms253 h g ∧ (mHq d (hLk d ll t) g))) := by
  refine zwC_of (D := 0) 7 (by decide +kernel) rfl (ls := [(2, 37), (9, 0), (9, 0), (9, 0), (9, 0), (9, 0), (9, 0)]) rfl ?_
  have R : zMR ms253 h h := zMR.rf _ _
  have u86 : yM h 37 86 = fld h 37 86 := rfl
  obtain ⟨⟨H1, H2⟩, ⟨HN, HL⟩, HC, HY, HF⟩ := H
  have B1 := B.1
  obtain ⟨⟨Q1, Q2, Q3⟩, Q4⟩ := QQ
  refine zwW_p [(0, 0, 0), (2, 1, 0), (0, 0, 0), (2, 2, 0), (0, 0, 0), (2, 3, 0), (0, 0, 0), (2, 4, 0)] (q := 9) (ls' := [(2, 37), (0, 0), (0, 0), (0, 0), (0, 0), (9, 0), (9, 0)]) (st' := []) (by decide +kernel) rfl ?_
  have L1 : ∀ (n0 : Nat) (nL1 yL1 wL1 iL1 : Int) (w5L1 w6L1 : Vl), n0 = ((100 - iL1)).toNat → (nL1 = hH d ll (iL1).toNat) → (yL1 = hY d ll (iL1).toNat) → (wL1 = hW d ll (hn d) (iL1).toNat) → ((0 ≤ iL1 ∧ iL1 ≤ 6) ∧ iL1 ≤ hm d) → ((0 ≤ nL1 ∧ nL1 ≤ 144000) ∧ (0 ≤ yL1 ∧ yL1 ≤ 36000000) ∧ (0 ≤ wL1 ∧ wL1 ≤ 24000)) → zwW sc (0) 253 9 [(2, 37), (0, nL1), (0, yL1), (0, wL1), (0, iL1), w5L1, w6L1] [] h (zwRv (fun g => zI g ∧ zMR ms253 h g ∧ (mHq d (hLk d ll t) g))) := by
    intro n0
    induction n0 using Nat.strongRecOn with
    | ind n0 IHL1 =>
      intro nL1 yL1 wL1 iL1 w5L1 w6L1 hnL1 iL1_0 iL1_1 iL1_2 iL1_3 iL1_4
      refine zwW_p [(1, 4, 0), (1, 0, 2)] (q := 12) (ls' := [(2, 37), (0, nL1), (0, yL1), (0, wL1), (0, iL1), w5L1, w6L1]) (st' := [(2, 37), (0, iL1)]) (by decide +kernel) rfl ?_
      refine zwW_gs I (kd := 13) (bn := 87) (n := 97) (t := 0) (lo := 0) (hi := 6) (nx := 15) (by decide +kernel) ?_
      intro v2 ev2 lv2 uv2
      refine zwic_ge (q := 140) (nx := 18) (by decide +kernel) (fun c3 => ?_) (fun c3 => ?_)
      · have E140 : nL1 = hH d ll (hm d) ∧ yL1 = hY d ll (hm d) ∧ wL1 = hW d ll (hn d) (hm d) := by
          rw [iL1_0, iL1_1, iL1_2, show (iL1).toNat = hm d by omega]
          exact ⟨rfl, rfl, rfl⟩
        refine zwW_p [(1, 1, 0), (1, 0, 2)] (q := 142) (ls' := [(2, 37), (0, nL1), (0, yL1), (0, wL1), (0, iL1), w5L1, w6L1]) (st' := [(2, 37), (0, nL1)]) (by decide +kernel) rfl ?_
        refine zwW_gs I (kd := 13) (bn := 88) (n := 97) (t := 0) (lo := -2147483648) (hi := 2147483647) (nx := 145) (by decide +kernel) ?_
        intro v4 ev4 lv4 uv4
        refine zwic_lt (q := 180) (nx := 148) (by decide +kernel) (fun c5 => ?_) (fun c5 => ?_)
        · have Q180 : mHq d (hLk d ll t) h := by
            unfold hLk
            rw [if_pos (by omega)]
            exact ⟨⟨Q1, Q2, Q3⟩, Q4⟩
          refine zwW_retv (nx := 181) (a := 0) (b := 0) (by decide +kernel) ?_
          exact ⟨I, R, by exact Q180⟩
        · refine zwW_p [(1, 1, 0), (1, 0, 2)] (q := 150) (ls' := [(2, 37), (0, nL1), (0, yL1), (0, wL1), (0, iL1), w5L1, w6L1]) (st' := [(2, 37), (0, nL1)]) (by decide +kernel) rfl ?_
          refine zwW_gs I (kd := 13) (bn := 88) (n := 97) (t := 0) (lo := -2147483648) (hi := 2147483647) (nx := 153) (by decide +kernel) ?_
          intro v6 ev6 lv6 uv6
          refine zwic_ne (q := 181) (nx := 156) (by decide +kernel) (fun c7 => ?_) (fun c7 => ?_)
          · refine zwW_p [(1, 0, 2), (1, 1, 0)] (q := 183) (ls' := [(2, 37), (0, nL1), (0, yL1), (0, wL1), (0, iL1), w5L1, w6L1]) (st' := [(0, nL1), (2, 37)]) (by decide +kernel) rfl ?_
            refine zwW_ps I (kd := 13) (bn := 88) (n := 97) (lo := -2147483648) (hi := 2147483647) (nx := 186) (by decide +kernel) (by first | omega | exact ⟨by omega, by omega⟩) ?_
            intro h8 eh8 Ih8
            have th8_37_86 : fld h8 37 86 = fld h 37 86 := by rw [eh8]; exact fld_wr (by decide)
            have th8_37_88 : fld h8 37 88 = nL1 := by rw [eh8]; exact fld_wr_eq (I.s (a1 := 37) (a2 := 37) (k := 13) (n := 97) (by decide +kernel) (by decide) (by decide)) (by decide)
            have th8_37_89 : fld h8 37 89 = fld h 37 89 := by rw [eh8]; exact fld_wr (by decide)
            have th8_37_90 : fld h8 37 90 = fld h 37 90 := by rw [eh8]; exact fld_wr (by decide)
            have Lh8 : mLn (hn d) ll h8 := L.fr (zMR.one (a1 := 37) (a2 := 37) (j1 := 88) (j2 := 89) (by first | decide | exact ⟨by decide, by decide⟩) (by first | decide | exact ⟨by decide, by decide⟩) eh8) (by decide +kernel)
            have Zh8 : yM h8 = (yM h) := (yM_fr (ms := [(37, 37, 88, 89)]) (zMR.one (a1 := 37) (a2 := 37) (j1 := 88) (j2 := 89) (by first | decide | exact ⟨by decide, by decide⟩) (by first | decide | exact ⟨by decide, by decide⟩) eh8) (by decide +kernel) (I.b (a1 := 37) (a2 := 37) (j1 := 86) (j2 := 87) (lo := 0) (hi := 6) (by decide +kernel) (r := 37) (j := 86) (by decide) (by decide) (by decide) (by decide)).2).trans (rfl : yM h = yM h)
            have Rh8 : zMR ms253 h h8 := R.w (a1 := 37) (a2 := 37) (j1 := 88) (j2 := 89) (by decide +kernel) (by first | decide | exact ⟨by decide, by decide⟩) (by first | decide | exact ⟨by decide, by decide⟩) eh8
            refine zwW_p [(1, 0, 2), (1, 2, 0)] (q := 188) (ls' := [(2, 37), (0, nL1), (0, yL1), (0, wL1), (0, iL1), w5L1, w6L1]) (st' := [(0, yL1), (2, 37)]) (by decide +kernel) rfl ?_
            refine zwW_ps Ih8 (kd := 13) (bn := 89) (n := 97) (lo := -2147483648) (hi := 2147483647) (nx := 191) (by decide +kernel) (by first | omega | exact ⟨by omega, by omega⟩) ?_
            intro h9 eh9 Ih9
            have th9_37_86 : fld h9 37 86 = fld h8 37 86 := by rw [eh9]; exact fld_wr (by decide)
            have th9_37_88 : fld h9 37 88 = fld h8 37 88 := by rw [eh9]; exact fld_wr (by decide)
            have th9_37_89 : fld h9 37 89 = yL1 := by rw [eh9]; exact fld_wr_eq (Ih8.s (a1 := 37) (a2 := 37) (k := 13) (n := 97) (by decide +kernel) (by decide) (by decide)) (by decide)
            have th9_37_90 : fld h9 37 90 = fld h8 37 90 := by rw [eh9]; exact fld_wr (by decide)
            have Lh9 : mLn (hn d) ll h9 := Lh8.fr (zMR.one (a1 := 37) (a2 := 37) (j1 := 89) (j2 := 90) (by first | decide | exact ⟨by decide, by decide⟩) (by first | decide | exact ⟨by decide, by decide⟩) eh9) (by decide +kernel)
            have Zh9 : yM h9 = (yM h) := (yM_fr (ms := [(37, 37, 89, 90)]) (zMR.one (a1 := 37) (a2 := 37) (j1 := 89) (j2 := 90) (by first | decide | exact ⟨by decide, by decide⟩) (by first | decide | exact ⟨by decide, by decide⟩) eh9) (by decide +kernel) (Ih8.b (a1 := 37) (a2 := 37) (j1 := 86) (j2 := 87) (lo := 0) (hi := 6) (by decide +kernel) (r := 37) (j := 86) (by decide) (by decide) (by decide) (by decide)).2).trans Zh8
            have Rh9 : zMR ms253 h h9 := Rh8.w (a1 := 37) (a2 := 37) (j1 := 89) (j2 := 90) (by decide +kernel) (by first | decide | exact ⟨by decide, by decide⟩) (by first | decide | exact ⟨by decide, by decide⟩) eh9
            refine zwW_p [(1, 0, 2), (1, 3, 0)] (q := 193) (ls' := [(2, 37), (0, nL1), (0, yL1), (0, wL1), (0, iL1), w5L1, w6L1]) (st' := [(0, wL1), (2, 37)]) (by decide +kernel) rfl ?_
            refine zwW_ps Ih9 (kd := 13) (bn := 90) (n := 97) (lo := -2147483648) (hi := 2147483647) (nx := 196) (by decide +kernel) (by first | omega | exact ⟨by omega, by omega⟩) ?_
            intro h10 eh10 Ih10
            have th10_37_86 : fld h10 37 86 = fld h9 37 86 := by rw [eh10]; exact fld_wr (by decide)
            have th10_37_88 : fld h10 37 88 = fld h9 37 88 := by rw [eh10]; exact fld_wr (by decide)
            have th10_37_89 : fld h10 37 89 = fld h9 37 89 := by rw [eh10]; exact fld_wr (by decide)
            have th10_37_90 : fld h10 37 90 = wL1 := by rw [eh10]; exact fld_wr_eq (Ih9.s (a1 := 37) (a2 := 37) (k := 13) (n := 97) (by decide +kernel) (by decide) (by decide)) (by decide)
            have Lh10 : mLn (hn d) ll h10 := Lh9.fr (zMR.one (a1 := 37) (a2 := 37) (j1 := 90) (j2 := 91) (by first | decide | exact ⟨by decide, by decide⟩) (by first | decide | exact ⟨by decide, by decide⟩) eh10) (by decide +kernel)
            have Zh10 : yM h10 = (yM h) := (yM_fr (ms := [(37, 37, 90, 91)]) (zMR.one (a1 := 37) (a2 := 37) (j1 := 90) (j2 := 91) (by first | decide | exact ⟨by decide, by decide⟩) (by first | decide | exact ⟨by decide, by decide⟩) eh10) (by decide +kernel) (Ih9.b (a1 := 37) (a2 := 37) (j1 := 86) (j2 := 87) (lo := 0) (hi := 6) (by decide +kernel) (r := 37) (j := 86) (by decide) (by decide) (by decide) (by decide)).2).trans Zh9
            have Rh10 : zMR ms253 h h10 := Rh9.w (a1 := 37) (a2 := 37) (j1 := 90) (j2 := 91) (by decide +kernel) (by first | decide | exact ⟨by decide, by decide⟩) (by first | decide | exact ⟨by decide, by decide⟩) eh10
            refine zwW_p [(0, 0, 0), (2, 4, 0)] (q := 199) (ls' := [(2, 37), (0, nL1), (0, yL1), (0, wL1), (0, 0), w5L1, w6L1]) (st' := []) (by decide +kernel) rfl ?_
            have L11 : ∀ (n0 : Nat) (kL11 : Int) (hL11 : Hp), n0 = ((100 - kL11)).toNat → ((0 ≤ kL11 ∧ kL11 ≤ 6) ∧ kL11 ≤ hn d) → (∀ j : Nat, (j : Int) < kL11 → fld hL11 190 j = ll j) → (fld hL11 37 86 = fld h 37 86 ∧ fld hL11 37 88 = nL1 ∧ fld hL11 37 89 = yL1 ∧ fld hL11 37 90 = wL1) → (mLn (hn d) ll hL11) → zI hL11 → zMR ms253 h hL11 → zwW sc (0) 253 199 [(2, 37), (0, nL1), (0, yL1), (0, wL1), (0, kL11), w5L1, w6L1] [] hL11 (zwRv (fun g => zI g ∧ zMR ms253 h g ∧ (mHq d (hLk d ll t) g))) := by
              intro n0
              induction n0 using Nat.strongRecOn with
              | ind n0 IHL11 =>
                intro kL11 hL11 hnL11 iL11_0 iL11_1 iL11_2 iL11_3 IhL11 RhL11
                refine zwW_p [(1, 4, 0), (1, 0, 2)] (q := 202) (ls' := [(2, 37), (0, nL1), (0, yL1), (0, wL1), (0, kL11), w5L1, w6L1]) (st' := [(2, 37), (0, kL11)]) (by decide +kernel) rfl ?_
                refine zwW_gs IhL11 (kd := 13) (bn := 86) (n := 97) (t := 0) (lo := 0) (hi := 6) (nx := 205) (by decide +kernel) ?_
                intro v12 ev12 lv12 uv12
                refine zwic_ge (q := 228) (nx := 208) (by decide +kernel) (fun c13 => ?_) (fun c13 => ?_)
                · have Q180 : mHq d (hLk d ll t) hL11 := by
                    unfold hLk
                    rw [if_neg (by omega)]
                    exact ⟨⟨(show fld hL11 37 88 = hH d ll (hm d) by omega), (show fld hL11 37 89 = hY d ll (hm d) by omega), (show fld hL11 37 90 = hW d ll (hn d) (hm d) by omega)⟩, fun j hj => iL11_1 j (by omega)⟩
                  refine zwW_retv (nx := 229) (a := 0) (b := 0) (by decide +kernel) ?_
                  exact ⟨IhL11, RhL11, by exact Q180⟩
                · refine zwW_p [(1, 0, 2)] (q := 209) (ls' := [(2, 37), (0, nL1), (0, yL1), (0, wL1), (0, kL11), w5L1, w6L1]) (st' := [(2, 37)]) (by decide +kernel) rfl ?_
                  refine zwW_gc IhL11 (kd := 13) (bn := 83) (n := 97) (c := 190) (nx := 212) (by decide +kernel) ?_
                  refine zwW_p [(1, 4, 0), (1, 0, 2)] (q := 215) (ls' := [(2, 37), (0, nL1), (0, yL1), (0, wL1), (0, kL11), w5L1, w6L1]) (st' := [(2, 37), (0, kL11), (2, 190)]) (by decide +kernel) rfl ?_
                  refine zwW_gc IhL11 (kd := 13) (bn := 82) (n := 97) (c := 189) (nx := 218) (by decide +kernel) ?_
                  refine zwW_p [(1, 4, 0)] (q := 220) (ls' := [(2, 37), (0, nL1), (0, yL1), (0, wL1), (0, kL11), w5L1, w6L1]) (st' := [(0, kL11), (2, 189), (0, kL11), (2, 190)]) (by decide +kernel) rfl ?_
                  have ib1 : 0 ≤ kL11 ∧ kL11 < ((6 : Nat) : Int) := (by first | omega | exact ⟨by omega, by omega⟩)
                  refine zwW_al IhL11 (a1 := 189) (a2 := 189) (kd := 20) (n := 6) (t := 0) (lo := -1) (hi := 5) (nx := 221) (by decide +kernel) (by first | decide | exact ⟨by decide, by decide⟩) ib1 ?_
                  intro v14 ev14 lv14 uv14
                  have V221 : v14 = ll (kL11).toNat := ev14.trans (iL11_3 (kL11).toNat (by omega))
                  refine zwW_as IhL11 (a1 := 190) (a2 := 190) (n := 6) (lo := -1) (hi := 5) (nx := 222) (by decide +kernel) (by first | decide | exact ⟨by decide, by decide⟩) ib1 (by first | omega | exact ⟨by omega, by omega⟩) ?_
                  intro h15 eh15 Ih15
                  have jbh15 : 0 ≤ kL11.toNat ∧ kL11.toNat < 6 := ⟨Nat.zero_le _, zit ib1⟩
                  have th15_37_86 : fld h15 37 86 = fld hL11 37 86 := by rw [eh15]; exact fld_wr (Or.inl (by decide))
                  have th15_37_88 : fld h15 37 88 = fld hL11 37 88 := by rw [eh15]; exact fld_wr (Or.inl (by decide))
                  have th15_37_89 : fld h15 37 89 = fld hL11 37 89 := by rw [eh15]; exact fld_wr (Or.inl (by decide))
                  have th15_37_90 : fld h15 37 90 = fld hL11 37 90 := by rw [eh15]; exact fld_wr (Or.inl (by decide))
                  have M221 : ∀ j : Nat, (j : Int) < kL11 + 1 → fld h15 190 j = ll j := by
                    intro j hj
                    rw [fwi eh15 (IhL11.s (r := 190) (a1 := 190) (a2 := 190) (k := 20) (n := 6) (by decide +kernel) (by decide) (by decide)) (i := (kL11).toNat) (by omega) j]
                    by_cases z : j = (kL11).toNat
                    · rw [if_pos z, z]; exact V221
                    · rw [if_neg z]; exact iL11_1 j (by omega)
                  have Lh15 : mLn (hn d) ll h15 := iL11_3.fr (zMR.one (a1 := 190) (a2 := 190) (j1 := 0) (j2 := 6) (by first | decide | exact ⟨by decide, by decide⟩) jbh15 eh15) (by decide +kernel)
                  have Rh15 : zMR ms253 h h15 := RhL11.w (a1 := 190) (a2 := 190) (j1 := 0) (j2 := 6) (by decide +kernel) (by first | decide | exact ⟨by decide, by decide⟩) jbh15 eh15
                  refine zwW_inc (i := 4) (c := 1) (x := kL11) (nx := 225) (by decide +kernel) rfl (by first | omega | exact ⟨by omega, by omega⟩) (ls' := [(2, 37), (0, nL1), (0, yL1), (0, wL1), (0, (kL11 + 1)), w5L1, w6L1]) rfl ?_
                  refine zwW_p [(24, 199, 0)] (q := 199) (ls' := [(2, 37), (0, nL1), (0, yL1), (0, wL1), (0, (kL11 + 1)), w5L1, w6L1]) (st' := []) (by decide +kernel) rfl ?_
                  exact IHL11 ((100 - (kL11 + 1))).toNat (by omega) (kL11 + 1) h15 rfl (by omega) (M221) (by omega) (Lh15) Ih15 Rh15
            exact L11 _ 0 h10 rfl (by omega) (fun j hj => by omega) (by omega) (Lh10) Ih10 Rh10
          · refine zwW_p [(1, 2, 0), (1, 0, 2)] (q := 158) (ls' := [(2, 37), (0, nL1), (0, yL1), (0, wL1), (0, iL1), w5L1, w6L1]) (st' := [(2, 37), (0, yL1)]) (by decide +kernel) rfl ?_
            refine zwW_gs I (kd := 13) (bn := 89) (n := 97) (t := 0) (lo := -2147483648) (hi := 2147483647) (nx := 161) (by decide +kernel) ?_
            intro v16 ev16 lv16 uv16
            refine zwic_gt (q := 180) (nx := 164) (by decide +kernel) (fun c17 => ?_) (fun c17 => ?_)
            · have Q180 : mHq d (hLk d ll t) h := by
                unfold hLk
                rw [if_pos (by omega)]
                exact ⟨⟨Q1, Q2, Q3⟩, Q4⟩
              refine zwW_retv (nx := 181) (a := 0) (b := 0) (by decide +kernel) ?_
              exact ⟨I, R, by exact Q180⟩
            · refine zwW_p [(1, 2, 0), (1, 0, 2)] (q := 166) (ls' := [(2, 37), (0, nL1), (0, yL1), (0, wL1), (0, iL1), w5L1, w6L1]) (st' := [(2, 37), (0, yL1)]) (by decide +kernel) rfl ?_
              refine zwW_gs I (kd := 13) (bn := 89) (n := 97) (t := 0) (lo := -2147483648) (hi := 2147483647) (nx := 169) (by decide +kernel) ?_
              intro v18 ev18 lv18 uv18
              refine zwic_ne (q := 181) (nx := 172) (by decide +kernel) (fun c19 => ?_) (fun c19 => ?_)
              · refine zwW_p [(1, 0, 2), (1, 1, 0)] (q := 183) (ls' := [(2, 37), (0, nL1), (0, yL1), (0, wL1), (0, iL1), w5L1, w6L1]) (st' := [(0, nL1), (2, 37)]) (by decide +kernel) rfl ?_
                refine zwW_ps I (kd := 13) (bn := 88) (n := 97) (lo := -2147483648) (hi := 2147483647) (nx := 186) (by decide +kernel) (by first | omega | exact ⟨by omega, by omega⟩) ?_
                intro h20 eh20 Ih20
                have th20_37_86 : fld h20 37 86 = fld h 37 86 := by rw [eh20]; exact fld_wr (by decide)
                have th20_37_88 : fld h20 37 88 = nL1 := by rw [eh20]; exact fld_wr_eq (I.s (a1 := 37) (a2 := 37) (k := 13) (n := 97) (by decide +kernel) (by decide) (by decide)) (by decide)
                have th20_37_89 : fld h20 37 89 = fld h 37 89 := by rw [eh20]; exact fld_wr (by decide)
                have th20_37_90 : fld h20 37 90 = fld h 37 90 := by rw [eh20]; exact fld_wr (by decide)
                have Lh20 : mLn (hn d) ll h20 := L.fr (zMR.one (a1 := 37) (a2 := 37) (j1 := 88) (j2 := 89) (by first | decide | exact ⟨by decide, by decide⟩) (by first | decide | exact ⟨by decide, by decide⟩) eh20) (by decide +kernel)
                have Zh20 : yM h20 = (yM h) := (yM_fr (ms := [(37, 37, 88, 89)]) (zMR.one (a1 := 37) (a2 := 37) (j1 := 88) (j2 := 89) (by first | decide | exact ⟨by decide, by decide⟩) (by first | decide | exact ⟨by decide, by decide⟩) eh20) (by decide +kernel) (I.b (a1 := 37) (a2 := 37) (j1 := 86) (j2 := 87) (lo := 0) (hi := 6) (by decide +kernel) (r := 37) (j := 86) (by decide) (by decide) (by decide) (by decide)).2).trans (rfl : yM h = yM h)
                have Rh20 : zMR ms253 h h20 := R.w (a1 := 37) (a2 := 37) (j1 := 88) (j2 := 89) (by decide +kernel) (by first | decide | exact ⟨by decide, by decide⟩) (by first | decide | exact ⟨by decide, by decide⟩) eh20
                refine zwW_p [(1, 0, 2), (1, 2, 0)] (q := 188) (ls' := [(2, 37), (0, nL1), (0, yL1), (0, wL1), (0, iL1), w5L1, w6L1]) (st' := [(0, yL1), (2, 37)]) (by decide +kernel) rfl ?_
                refine zwW_ps Ih20 (kd := 13) (bn := 89) (n := 97) (lo := -2147483648) (hi := 2147483647) (nx := 191) (by decide +kernel) (by first | omega | exact ⟨by omega, by omega⟩) ?_
                intro h21 eh21 Ih21
                have th21_37_86 : fld h21 37 86 = fld h20 37 86 := by rw [eh21]; exact fld_wr (by decide)
                have th21_37_88 : fld h21 37 88 = fld h20 37 88 := by rw [eh21]; exact fld_wr (by decide)
                have th21_37_89 : fld h21 37 89 = yL1 := by rw [eh21]; exact fld_wr_eq (Ih20.s (a1 := 37) (a2 := 37) (k := 13) (n := 97) (by decide +kernel) (by decide) (by decide)) (by decide)
                have th21_37_90 : fld h21 37 90 = fld h20 37 90 := by rw [eh21]; exact fld_wr (by decide)
                have Lh21 : mLn (hn d) ll h21 := Lh20.fr (zMR.one (a1 := 37) (a2 := 37) (j1 := 89) (j2 := 90) (by first | decide | exact ⟨by decide, by decide⟩) (by first | decide | exact ⟨by decide, by decide⟩) eh21) (by decide +kernel)
                have Zh21 : yM h21 = (yM h) := (yM_fr (ms := [(37, 37, 89, 90)]) (zMR.one (a1 := 37) (a2 := 37) (j1 := 89) (j2 := 90) (by first | decide | exact ⟨by decide, by decide⟩) (by first | decide | exact ⟨by decide, by decide⟩) eh21) (by decide +kernel) (Ih20.b (a1 := 37) (a2 := 37) (j1 := 86) (j2 := 87) (lo := 0) (hi := 6) (by decide +kernel) (r := 37) (j := 86) (by decide) (by decide) (by decide) (by decide)).2).trans Zh20
                have Rh21 : zMR ms253 h h21 := Rh20.w (a1 := 37) (a2 := 37) (j1 := 89) (j2 := 90) (by decide +kernel) (by first | decide | exact ⟨by decide, by decide⟩) (by first | decide | exact ⟨by decide, by decide⟩) eh21
                refine zwW_p [(1, 0, 2), (1, 3, 0)] (q := 193) (ls' := [(2, 37), (0, nL1), (0, yL1), (0, wL1), (0, iL1), w5L1, w6L1]) (st' := [(0, wL1), (2, 37)]) (by decide +kernel) rfl ?_
                refine zwW_ps Ih21 (kd := 13) (bn := 90) (n := 97) (lo := -2147483648) (hi := 2147483647) (nx := 196) (by decide +kernel) (by first | omega | exact ⟨by omega, by omega⟩) ?_
                intro h22 eh22 Ih22
                have th22_37_86 : fld h22 37 86 = fld h21 37 86 := by rw [eh22]; exact fld_wr (by decide)
                have th22_37_88 : fld h22 37 88 = fld h21 37 88 := by rw [eh22]; exact fld_wr (by decide)
                have th22_37_89 : fld h22 37 89 = fld h21 37 89 := by rw [eh22]; exact fld_wr (by decide)
                have th22_37_90 : fld h22 37 90 = wL1 := by rw [eh22]; exact fld_wr_eq (Ih21.s (a1 := 37) (a2 := 37) (k := 13) (n := 97) (by decide +kernel) (by decide) (by decide)) (by decide)
                have Lh22 : mLn (hn d) ll h22 := Lh21.fr (zMR.one (a1 := 37) (a2 := 37) (j1 := 90) (j2 := 91) (by first | decide | exact ⟨by decide, by decide⟩) (by first | decide | exact ⟨by decide, by decide⟩) eh22) (by decide +kernel)
                have Zh22 : yM h22 = (yM h) := (yM_fr (ms := [(37, 37, 90, 91)]) (zMR.one (a1 := 37) (a2 := 37) (j1 := 90) (j2 := 91) (by first | decide | exact ⟨by decide, by decide⟩) (by first | decide | exact ⟨by decide, by decide⟩) eh22) (by decide +kernel) (Ih21.b (a1 := 37) (a2 := 37) (j1 := 86) (j2 := 87) (lo := 0) (hi := 6) (by decide +kernel) (r := 37) (j := 86) (by decide) (by decide) (by decide) (by decide)).2).trans Zh21
                have Rh22 : zMR ms253 h h22 := Rh21.w (a1 := 37) (a2 := 37) (j1 := 90) (j2 := 91) (by decide +kernel) (by first | decide | exact ⟨by decide, by decide⟩) (by first | decide | exact ⟨by decide, by decide⟩) eh22
                refine zwW_p [(0, 0, 0), (2, 4, 0)] (q := 199) (ls' := [(2, 37), (0, nL1), (0, yL1), (0, wL1), (0, 0), w5L1, w6L1]) (st' := []) (by decide +kernel) rfl ?_
                have L23 : ∀ (n0 : Nat) (kL23 : Int) (hL23 : Hp), n0 = ((100 - kL23)).toNat → ((0 ≤ kL23 ∧ kL23 ≤ 6) ∧ kL23 ≤ hn d) → (∀ j : Nat, (j : Int) < kL23 → fld hL23 190 j = ll j) → (fld hL23 37 86 = fld h 37 86 ∧ fld hL23 37 88 = nL1 ∧ fld hL23 37 89 = yL1 ∧ fld hL23 37 90 = wL1) → (mLn (hn d) ll hL23) → zI hL23 → zMR ms253 h hL23 → zwW sc (0) 253 199 [(2, 37), (0, nL1), (0, yL1), (0, wL1), (0, kL23), w5L1, w6L1] [] hL23 (zwRv (fun g => zI g ∧ zMR ms253 h g ∧ (mHq d (hLk d ll t) g))) := by
                  intro n0
                  induction n0 using Nat.strongRecOn with
                  | ind n0 IHL23 =>
                    intro kL23 hL23 hnL23 iL23_0 iL23_1 iL23_2 iL23_3 IhL23 RhL23
                    refine zwW_p [(1, 4, 0), (1, 0, 2)] (q := 202) (ls' := [(2, 37), (0, nL1), (0, yL1), (0, wL1), (0, kL23), w5L1, w6L1]) (st' := [(2, 37), (0, kL23)]) (by decide +kernel) rfl ?_
                    refine zwW_gs IhL23 (kd := 13) (bn := 86) (n := 97) (t := 0) (lo := 0) (hi := 6) (nx := 205) (by decide +kernel) ?_
                    intro v24 ev24 lv24 uv24
                    refine zwic_ge (q := 228) (nx := 208) (by decide +kernel) (fun c25 => ?_) (fun c25 => ?_)
                    · have Q180 : mHq d (hLk d ll t) hL23 := by
                        unfold hLk
                        rw [if_neg (by omega)]
                        exact ⟨⟨(show fld hL23 37 88 = hH d ll (hm d) by omega), (show fld hL23 37 89 = hY d ll (hm d) by omega), (show fld hL23 37 90 = hW d ll (hn d) (hm d) by omega)⟩, fun j hj => iL23_1 j (by omega)⟩
                      refine zwW_retv (nx := 229) (a := 0) (b := 0) (by decide +kernel) ?_
                      exact ⟨IhL23, RhL23, by exact Q180⟩
                    · refine zwW_p [(1, 0, 2)] (q := 209) (ls' := [(2, 37), (0, nL1), (0, yL1), (0, wL1), (0, kL23), w5L1, w6L1]) (st' := [(2, 37)]) (by decide +kernel) rfl ?_
                      refine zwW_gc IhL23 (kd := 13) (bn := 83) (n := 97) (c := 190) (nx := 212) (by decide +kernel) ?_
                      refine zwW_p [(1, 4, 0), (1, 0, 2)] (q := 215) (ls' := [(2, 37), (0, nL1), (0, yL1), (0, wL1), (0, kL23), w5L1, w6L1]) (st' := [(2, 37), (0, kL23), (2, 190)]) (by decide +kernel) rfl ?_
                      refine zwW_gc IhL23 (kd := 13) (bn := 82) (n := 97) (c := 189) (nx := 218) (by decide +kernel) ?_
                      refine zwW_p [(1, 4, 0)] (q := 220) (ls' := [(2, 37), (0, nL1), (0, yL1), (0, wL1), (0, kL23), w5L1, w6L1]) (st' := [(0, kL23), (2, 189), (0, kL23), (2, 190)]) (by decide +kernel) rfl ?_
                      have ib2 : 0 ≤ kL23 ∧ kL23 < ((6 : Nat) : Int) := (by first | omega | exact ⟨by omega, by omega⟩)
                      refine zwW_al IhL23 (a1 := 189) (a2 := 189) (kd := 20) (n := 6) (t := 0) (lo := -1) (hi := 5) (nx := 221) (by decide +kernel) (by first | decide | exact ⟨by decide, by decide⟩) ib2 ?_
                      intro v26 ev26 lv26 uv26
                      have V221 : v26 = ll (kL23).toNat := ev26.trans (iL23_3 (kL23).toNat (by omega))
                      refine zwW_as IhL23 (a1 := 190) (a2 := 190) (n := 6) (lo := -1) (hi := 5) (nx := 222) (by decide +kernel) (by first | decide | exact ⟨by decide, by decide⟩) ib2 (by first | omega | exact ⟨by omega, by omega⟩) ?_
                      intro h27 eh27 Ih27
                      have jbh27 : 0 ≤ kL23.toNat ∧ kL23.toNat < 6 := ⟨Nat.zero_le _, zit ib2⟩
                      have th27_37_86 : fld h27 37 86 = fld hL23 37 86 := by rw [eh27]; exact fld_wr (Or.inl (by decide))
                      have th27_37_88 : fld h27 37 88 = fld hL23 37 88 := by rw [eh27]; exact fld_wr (Or.inl (by decide))
                      have th27_37_89 : fld h27 37 89 = fld hL23 37 89 := by rw [eh27]; exact fld_wr (Or.inl (by decide))
                      have th27_37_90 : fld h27 37 90 = fld hL23 37 90 := by rw [eh27]; exact fld_wr (Or.inl (by decide))
                      have M221 : ∀ j : Nat, (j : Int) < kL23 + 1 → fld h27 190 j = ll j := by
                        intro j hj
                        rw [fwi eh27 (IhL23.s (r := 190) (a1 := 190) (a2 := 190) (k := 20) (n := 6) (by decide +kernel) (by decide) (by decide)) (i := (kL23).toNat) (by omega) j]
                        by_cases z : j = (kL23).toNat
                        · rw [if_pos z, z]; exact V221
                        · rw [if_neg z]; exact iL23_1 j (by omega)
                      have Lh27 : mLn (hn d) ll h27 := iL23_3.fr (zMR.one (a1 := 190) (a2 := 190) (j1 := 0) (j2 := 6) (by first | decide | exact ⟨by decide, by decide⟩) jbh27 eh27) (by decide +kernel)
                      have Rh27 : zMR ms253 h h27 := RhL23.w (a1 := 190) (a2 := 190) (j1 := 0) (j2 := 6) (by decide +kernel) (by first | decide | exact ⟨by decide, by decide⟩) jbh27 eh27
                      refine zwW_inc (i := 4) (c := 1) (x := kL23) (nx := 225) (by decide +kernel) rfl (by first | omega | exact ⟨by omega, by omega⟩) (ls' := [(2, 37), (0, nL1), (0, yL1), (0, wL1), (0, (kL23 + 1)), w5L1, w6L1]) rfl ?_
                      refine zwW_p [(24, 199, 0)] (q := 199) (ls' := [(2, 37), (0, nL1), (0, yL1), (0, wL1), (0, (kL23 + 1)), w5L1, w6L1]) (st' := []) (by decide +kernel) rfl ?_
                      exact IHL23 ((100 - (kL23 + 1))).toNat (by omega) (kL23 + 1) h27 rfl (by omega) (M221) (by omega) (Lh27) Ih27 Rh27
                exact L23 _ 0 h22 rfl (by omega) (fun j hj => by omega) (by omega) (Lh22) Ih22 Rh22
              · refine zwW_p [(1, 3, 0), (1, 0, 2)] (q := 174) (ls' := [(2, 37), (0, nL1), (0, yL1), (0, wL1), (0, iL1), w5L1, w6L1]) (st' := [(2, 37), (0, wL1)]) (by decide +kernel) rfl ?_
                refine zwW_gs I (kd := 13) (bn := 90) (n := 97) (t := 0) (lo := -2147483648) (hi := 2147483647) (nx := 177) (by decide +kernel) ?_
                intro v28 ev28 lv28 uv28
                refine zwic_lt (q := 181) (nx := 180) (by decide +kernel) (fun c29 => ?_) (fun c29 => ?_)
                · refine zwW_p [(1, 0, 2), (1, 1, 0)] (q := 183) (ls' := [(2, 37), (0, nL1), (0, yL1), (0, wL1), (0, iL1), w5L1, w6L1]) (st' := [(0, nL1), (2, 37)]) (by decide +kernel) rfl ?_
                  refine zwW_ps I (kd := 13) (bn := 88) (n := 97) (lo := -2147483648) (hi := 2147483647) (nx := 186) (by decide +kernel) (by first | omega | exact ⟨by omega, by omega⟩) ?_
                  intro h30 eh30 Ih30
                  have th30_37_86 : fld h30 37 86 = fld h 37 86 := by rw [eh30]; exact fld_wr (by decide)
                  have th30_37_88 : fld h30 37 88 = nL1 := by rw [eh30]; exact fld_wr_eq (I.s (a1 := 37) (a2 := 37) (k := 13) (n := 97) (by decide +kernel) (by decide) (by decide)) (by decide)
                  have th30_37_89 : fld h30 37 89 = fld h 37 89 := by rw [eh30]; exact fld_wr (by decide)
                  have th30_37_90 : fld h30 37 90 = fld h 37 90 := by rw [eh30]; exact fld_wr (by decide)
                  have Lh30 : mLn (hn d) ll h30 := L.fr (zMR.one (a1 := 37) (a2 := 37) (j1 := 88) (j2 := 89) (by first | decide | exact ⟨by decide, by decide⟩) (by first | decide | exact ⟨by decide, by decide⟩) eh30) (by decide +kernel)
                  have Zh30 : yM h30 = (yM h) := (yM_fr (ms := [(37, 37, 88, 89)]) (zMR.one (a1 := 37) (a2 := 37) (j1 := 88) (j2 := 89) (by first | decide | exact ⟨by decide, by decide⟩) (by first | decide | exact ⟨by decide, by decide⟩) eh30) (by decide +kernel) (I.b (a1 := 37) (a2 := 37) (j1 := 86) (j2 := 87) (lo := 0) (hi := 6) (by decide +kernel) (r := 37) (j := 86) (by decide) (by decide) (by decide) (by decide)).2).trans (rfl : yM h = yM h)
                  have Rh30 : zMR ms253 h h30 := R.w (a1 := 37) (a2 := 37) (j1 := 88) (j2 := 89) (by decide +kernel) (by first | decide | exact ⟨by decide, by decide⟩) (by first | decide | exact ⟨by decide, by decide⟩) eh30
                  refine zwW_p [(1, 0, 2), (1, 2, 0)] (q := 188) (ls' := [(2, 37), (0, nL1), (0, yL1), (0, wL1), (0, iL1), w5L1, w6L1]) (st' := [(0, yL1), (2, 37)]) (by decide +kernel) rfl ?_
                  refine zwW_ps Ih30 (kd := 13) (bn := 89) (n := 97) (lo := -2147483648) (hi := 2147483647) (nx := 191) (by decide +kernel) (by first | omega | exact ⟨by omega, by omega⟩) ?_
                  intro h31 eh31 Ih31
                  have th31_37_86 : fld h31 37 86 = fld h30 37 86 := by rw [eh31]; exact fld_wr (by decide)
                  have th31_37_88 : fld h31 37 88 = fld h30 37 88 := by rw [eh31]; exact fld_wr (by decide)
                  have th31_37_89 : fld h31 37 89 = yL1 := by rw [eh31]; exact fld_wr_eq (Ih30.s (a1 := 37) (a2 := 37) (k := 13) (n := 97) (by decide +kernel) (by decide) (by decide)) (by decide)
                  have th31_37_90 : fld h31 37 90 = fld h30 37 90 := by rw [eh31]; exact fld_wr (by decide)
                  have Lh31 : mLn (hn d) ll h31 := Lh30.fr (zMR.one (a1 := 37) (a2 := 37) (j1 := 89) (j2 := 90) (by first | decide | exact ⟨by decide, by decide⟩) (by first | decide | exact ⟨by decide, by decide⟩) eh31) (by decide +kernel)
                  have Zh31 : yM h31 = (yM h) := (yM_fr (ms := [(37, 37, 89, 90)]) (zMR.one (a1 := 37) (a2 := 37) (j1 := 89) (j2 := 90) (by first | decide | exact ⟨by decide, by decide⟩) (by first | decide | exact ⟨by decide, by decide⟩) eh31) (by decide +kernel) (Ih30.b (a1 := 37) (a2 := 37) (j1 := 86) (j2 := 87) (lo := 0) (hi := 6) (by decide +kernel) (r := 37) (j := 86) (by decide) (by decide) (by decide) (by decide)).2).trans Zh30
                  have Rh31 : zMR ms253 h h31 := Rh30.w (a1 := 37) (a2 := 37) (j1 := 89) (j2 := 90) (by decide +kernel) (by first | decide | exact ⟨by decide, by decide⟩) (by first | decide | exact ⟨by decide, by decide⟩) eh31
                  refine zwW_p [(1, 0, 2), (1, 3, 0)] (q := 193) (ls' := [(2, 37), (0, nL1), (0, yL1), (0, wL1), (0, iL1), w5L1, w6L1]) (st' := [(0, wL1), (2, 37)]) (by decide +kernel) rfl ?_
                  refine zwW_ps Ih31 (kd := 13) (bn := 90) (n := 97) (lo := -2147483648) (hi := 2147483647) (nx := 196) (by decide +kernel) (by first | omega | exact ⟨by omega, by omega⟩) ?_
                  intro h32 eh32 Ih32
                  have th32_37_86 : fld h32 37 86 = fld h31 37 86 := by rw [eh32]; exact fld_wr (by decide)
                  have th32_37_88 : fld h32 37 88 = fld h31 37 88 := by rw [eh32]; exact fld_wr (by decide)
                  have th32_37_89 : fld h32 37 89 = fld h31 37 89 := by rw [eh32]; exact fld_wr (by decide)
                  have th32_37_90 : fld h32 37 90 = wL1 := by rw [eh32]; exact fld_wr_eq (Ih31.s (a1 := 37) (a2 := 37) (k := 13) (n := 97) (by decide +kernel) (by decide) (by decide)) (by decide)
                  have Lh32 : mLn (hn d) ll h32 := Lh31.fr (zMR.one (a1 := 37) (a2 := 37) (j1 := 90) (j2 := 91) (by first | decide | exact ⟨by decide, by decide⟩) (by first | decide | exact ⟨by decide, by decide⟩) eh32) (by decide +kernel)
                  have Zh32 : yM h32 = (yM h) := (yM_fr (ms := [(37, 37, 90, 91)]) (zMR.one (a1 := 37) (a2 := 37) (j1 := 90) (j2 := 91) (by first | decide | exact ⟨by decide, by decide⟩) (by first | decide | exact ⟨by decide, by decide⟩) eh32) (by decide +kernel) (Ih31.b (a1 := 37) (a2 := 37) (j1 := 86) (j2 := 87) (lo := 0) (hi := 6) (by decide +kernel) (r := 37) (j := 86) (by decide) (by decide) (by decide) (by decide)).2).trans Zh31
                  have Rh32 : zMR ms253 h h32 := Rh31.w (a1 := 37) (a2 := 37) (j1 := 90) (j2 := 91) (by decide +kernel) (by first | decide | exact ⟨by decide, by decide⟩) (by first | decide | exact ⟨by decide, by decide⟩) eh32
                  refine zwW_p [(0, 0, 0), (2, 4, 0)] (q := 199) (ls' := [(2, 37), (0, nL1), (0, yL1), (0, wL1), (0, 0), w5L1, w6L1]) (st' := []) (by decide +kernel) rfl ?_
                  have L33 : ∀ (n0 : Nat) (kL33 : Int) (hL33 : Hp), n0 = ((100 - kL33)).toNat → ((0 ≤ kL33 ∧ kL33 ≤ 6) ∧ kL33 ≤ hn d) → (∀ j : Nat, (j : Int) < kL33 → fld hL33 190 j = ll j) → (fld hL33 37 86 = fld h 37 86 ∧ fld hL33 37 88 = nL1 ∧ fld hL33 37 89 = yL1 ∧ fld hL33 37 90 = wL1) → (mLn (hn d) ll hL33) → zI hL33 → zMR ms253 h hL33 → zwW sc (0) 253 199 [(2, 37), (0, nL1), (0, yL1), (0, wL1), (0, kL33), w5L1, w6L1] [] hL33 (zwRv (fun g => zI g ∧ zMR ms253 h g ∧ (mHq d (hLk d ll t) g))) := by
                    intro n0
                    induction n0 using Nat.strongRecOn with
                    | ind n0 IHL33 =>
                      intro kL33 hL33 hnL33 iL33_0 iL33_1 iL33_2 iL33_3 IhL33 RhL33
                      refine zwW_p [(1, 4, 0), (1, 0, 2)] (q := 202) (ls' := [(2, 37), (0, nL1), (0, yL1), (0, wL1), (0, kL33), w5L1, w6L1]) (st' := [(2, 37), (0, kL33)]) (by decide +kernel) rfl ?_
                      refine zwW_gs IhL33 (kd := 13) (bn := 86) (n := 97) (t := 0) (lo := 0) (hi := 6) (nx := 205) (by decide +kernel) ?_
                      intro v34 ev34 lv34 uv34
                      refine zwic_ge (q := 228) (nx := 208) (by decide +kernel) (fun c35 => ?_) (fun c35 => ?_)
                      · have Q180 : mHq d (hLk d ll t) hL33 := by
                          unfold hLk
                          rw [if_neg (by omega)]
                          exact ⟨⟨(show fld hL33 37 88 = hH d ll (hm d) by omega), (show fld hL33 37 89 = hY d ll (hm d) by omega), (show fld hL33 37 90 = hW d ll (hn d) (hm d) by omega)⟩, fun j hj => iL33_1 j (by omega)⟩
                        refine zwW_retv (nx := 229) (a := 0) (b := 0) (by decide +kernel) ?_
                        exact ⟨IhL33, RhL33, by exact Q180⟩
                      · refine zwW_p [(1, 0, 2)] (q := 209) (ls' := [(2, 37), (0, nL1), (0, yL1), (0, wL1), (0, kL33), w5L1, w6L1]) (st' := [(2, 37)]) (by decide +kernel) rfl ?_
                        refine zwW_gc IhL33 (kd := 13) (bn := 83) (n := 97) (c := 190) (nx := 212) (by decide +kernel) ?_
                        refine zwW_p [(1, 4, 0), (1, 0, 2)] (q := 215) (ls' := [(2, 37), (0, nL1), (0, yL1), (0, wL1), (0, kL33), w5L1, w6L1]) (st' := [(2, 37), (0, kL33), (2, 190)]) (by decide +kernel) rfl ?_
                        refine zwW_gc IhL33 (kd := 13) (bn := 82) (n := 97) (c := 189) (nx := 218) (by decide +kernel) ?_
                        refine zwW_p [(1, 4, 0)] (q := 220) (ls' := [(2, 37), (0, nL1), (0, yL1), (0, wL1), (0, kL33), w5L1, w6L1]) (st' := [(0, kL33), (2, 189), (0, kL33), (2, 190)]) (by decide +kernel) rfl ?_
                        have ib3 : 0 ≤ kL33 ∧ kL33 < ((6 : Nat) : Int) := (by first | omega | exact ⟨by omega, by omega⟩)
                        refine zwW_al IhL33 (a1 := 189) (a2 := 189) (kd := 20) (n := 6) (t := 0) (lo := -1) (hi := 5) (nx := 221) (by decide +kernel) (by first | decide | exact ⟨by decide, by decide⟩) ib3 ?_
                        intro v36 ev36 lv36 uv36
                        have V221 : v36 = ll (kL33).toNat := ev36.trans (iL33_3 (kL33).toNat (by omega))
                        refine zwW_as IhL33 (a1 := 190) (a2 := 190) (n := 6) (lo := -1) (hi := 5) (nx := 222) (by decide +kernel) (by first | decide | exact ⟨by decide, by decide⟩) ib3 (by first | omega | exact ⟨by omega, by omega⟩) ?_
                        intro h37 eh37 Ih37
                        have jbh37 : 0 ≤ kL33.toNat ∧ kL33.toNat < 6 := ⟨Nat.zero_le _, zit ib3⟩
                        have th37_37_86 : fld h37 37 86 = fld hL33 37 86 := by rw [eh37]; exact fld_wr (Or.inl (by decide))
                        have th37_37_88 : fld h37 37 88 = fld hL33 37 88 := by rw [eh37]; exact fld_wr (Or.inl (by decide))
                        have th37_37_89 : fld h37 37 89 = fld hL33 37 89 := by rw [eh37]; exact fld_wr (Or.inl (by decide))
                        have th37_37_90 : fld h37 37 90 = fld hL33 37 90 := by rw [eh37]; exact fld_wr (Or.inl (by decide))
                        have M221 : ∀ j : Nat, (j : Int) < kL33 + 1 → fld h37 190 j = ll j := by
                          intro j hj
                          rw [fwi eh37 (IhL33.s (r := 190) (a1 := 190) (a2 := 190) (k := 20) (n := 6) (by decide +kernel) (by decide) (by decide)) (i := (kL33).toNat) (by omega) j]
                          by_cases z : j = (kL33).toNat
                          · rw [if_pos z, z]; exact V221
                          · rw [if_neg z]; exact iL33_1 j (by omega)
                        have Lh37 : mLn (hn d) ll h37 := iL33_3.fr (zMR.one (a1 := 190) (a2 := 190) (j1 := 0) (j2 := 6) (by first | decide | exact ⟨by decide, by decide⟩) jbh37 eh37) (by decide +kernel)
                        have Rh37 : zMR ms253 h h37 := RhL33.w (a1 := 190) (a2 := 190) (j1 := 0) (j2 := 6) (by decide +kernel) (by first | decide | exact ⟨by decide, by decide⟩) jbh37 eh37
                        refine zwW_inc (i := 4) (c := 1) (x := kL33) (nx := 225) (by decide +kernel) rfl (by first | omega | exact ⟨by omega, by omega⟩) (ls' := [(2, 37), (0, nL1), (0, yL1), (0, wL1), (0, (kL33 + 1)), w5L1, w6L1]) rfl ?_
                        refine zwW_p [(24, 199, 0)] (q := 199) (ls' := [(2, 37), (0, nL1), (0, yL1), (0, wL1), (0, (kL33 + 1)), w5L1, w6L1]) (st' := []) (by decide +kernel) rfl ?_
                        exact IHL33 ((100 - (kL33 + 1))).toNat (by omega) (kL33 + 1) h37 rfl (by omega) (M221) (by omega) (Lh37) Ih37 Rh37
                  exact L33 _ 0 h32 rfl (by omega) (fun j hj => by omega) (by omega) (Lh32) Ih32 Rh32
                · have Q180 : mHq d (hLk d ll t) h := by
                    unfold hLk
                    rw [if_pos (by omega)]
                    exact ⟨⟨Q1, Q2, Q3⟩, Q4⟩
                  refine zwW_retv (nx := 181) (a := 0) (b := 0) (by decide +kernel) ?_
                  exact ⟨I, R, by exact Q180⟩
      · refine zwW_p [(0, 0, 0), (2, 5, 0), (0, 0, 0), (2, 6, 0)] (q := 24) (ls' := [(2, 37), (0, nL1), (0, yL1), (0, wL1), (0, iL1), (0, 0), (0, 0)]) (st' := []) (by decide +kernel) rfl ?_
        have L38 : ∀ (n0 : Nat) (yL38 lL38 kL38 : Int), n0 = ((100 - kL38)).toNat → (lL38 = hL d ll (iL1).toNat (kL38).toNat) → (yL38 = hY d ll (iL1).toNat + hG d ll (iL1).toNat (kL38).toNat) → ((0 ≤ kL38 ∧ kL38 ≤ 6) ∧ kL38 ≤ hn d) → ((0 ≤ lL38 ∧ lL38 ≤ 24000) ∧ (0 ≤ yL38 ∧ yL38 ≤ 36000000)) → zwW sc (0) 253 24 [(2, 37), (0, nL1), (0, yL38), (0, wL1), (0, iL1), (0, lL38), (0, kL38)] [] h (zwRv (fun g => zI g ∧ zMR ms253 h g ∧ (mHq d (hLk d ll t) g))) := by
          intro n0
          induction n0 using Nat.strongRecOn with
          | ind n0 IHL38 =>
            intro yL38 lL38 kL38 hnL38 iL38_0 iL38_1 iL38_2 iL38_3
            refine zwW_p [(1, 6, 0), (1, 0, 2)] (q := 27) (ls' := [(2, 37), (0, nL1), (0, yL38), (0, wL1), (0, iL1), (0, lL38), (0, kL38)]) (st' := [(2, 37), (0, kL38)]) (by decide +kernel) rfl ?_
            refine zwW_gs I (kd := 13) (bn := 86) (n := 97) (t := 0) (lo := 0) (hi := 6) (nx := 30) (by decide +kernel) ?_
            intro v39 ev39 lv39 uv39
            have sv39 : v39 = (yM h) 37 86 := Eq.trans ev39 (Eq.trans (Eq.symm (yM_s (h := h) (i := 86) rfl)) (Eq.trans (congrFun (congrFun (rfl : yM h = yM h) 37) 86) rfl))
            refine zwic_ge (q := 79) (nx := 33) (by decide +kernel) (fun c40 => ?_) (fun c40 => ?_)
            · have L79 : lL38 = hL d ll (iL1).toNat (hn d) := by rw [iL38_0, show (kL38).toNat = hn d by omega]
              have Y79 : yL38 = hY d ll (iL1).toNat + hG d ll (iL1).toNat (hn d) := by rw [iL38_1, show (kL38).toNat = hn d by omega]
              refine zwW_p [(1, 1, 0), (1, 5, 0)] (q := 82) (ls' := [(2, 37), (0, nL1), (0, yL38), (0, wL1), (0, iL1), (0, lL38), (0, kL38)]) (st' := [(0, lL38), (0, nL1)]) (by decide +kernel) rfl ?_
              refine zwW_add (nx := 83) (by decide +kernel) (by first | omega | exact ⟨by omega, by omega⟩) ?_
              refine zwW_p [(2, 1, 0), (1, 5, 0)] (q := 86) (ls' := [(2, 37), (0, (nL1 + lL38)), (0, yL38), (0, wL1), (0, iL1), (0, lL38), (0, kL38)]) (st' := [(0, lL38)]) (by decide +kernel) rfl ?_
              refine zwif_ne (q := 93) (nx := 89) (by decide +kernel) (fun c41 => ?_) (fun c41 => ?_)
              · have HC1 := hL_v B V (Nat.le_refl _) (iL1).toNat (by omega) (by omega)
                have HC2 := HU (iL1).toNat (by omega)
                refine zwW_p [(1, 5, 0), (1, 0, 2)] (q := 96) (ls' := [(2, 37), (0, (nL1 + lL38)), (0, yL38), (0, wL1), (0, iL1), (0, lL38), (0, kL38)]) (st' := [(2, 37), (0, lL38)]) (by decide +kernel) rfl ?_
                refine zwW_gc I (kd := 13) (bn := 32) (n := 97) (c := 91) (nx := 99) (by decide +kernel) ?_
                refine zwW_p [(1, 0, 2)] (q := 100) (ls' := [(2, 37), (0, (nL1 + lL38)), (0, yL38), (0, wL1), (0, iL1), (0, lL38), (0, kL38)]) (st' := [(2, 37), (2, 91), (0, lL38)]) (by decide +kernel) rfl ?_
                refine zwW_gc I (kd := 13) (bn := 81) (n := 97) (c := 188) (nx := 103) (by decide +kernel) ?_
                refine zwW_p [(1, 4, 0)] (q := 105) (ls' := [(2, 37), (0, (nL1 + lL38)), (0, yL38), (0, wL1), (0, iL1), (0, lL38), (0, kL38)]) (st' := [(0, iL1), (2, 188), (2, 91), (0, lL38)]) (by decide +kernel) rfl ?_
                have ib4 : 0 ≤ iL1 ∧ iL1 < ((6 : Nat) : Int) := (by first | omega | exact ⟨by omega, by omega⟩)
                refine zwW_al I (a1 := 188) (a2 := 188) (kd := 20) (n := 6) (t := 0) (lo := 0) (hi := 19) (nx := 106) (by decide +kernel) (by first | decide | exact ⟨by decide, by decide⟩) ib4 ?_
                intro v42 ev42 lv42 uv42
                have X106 : v42 = ((hh (iL1).toNat : Nat) : Int) := ev42.trans (HL (iL1).toNat (by omega))
                have ib5 : 0 ≤ v42 ∧ v42 < ((20 : Nat) : Int) := (by first | omega | exact ⟨by omega, by omega⟩)
                refine zwW_al I (a1 := 91) (a2 := 91) (kd := 20) (n := 20) (t := 0) (lo := -2147483648) (hi := 2147483647) (nx := 107) (by decide +kernel) (by first | decide | exact ⟨by decide, by decide⟩) ib5 ?_
                intro v43 ev43 lv43 uv43
                have sv43 : v43 = (yM h) 91 v42.toNat := Eq.trans ev43 (Eq.trans (Eq.symm (yM_p (h := h) (a := 91) (n := 20) (i := v42.toNat) rfl (zit ib5))) (Eq.trans (congrFun (congrFun (rfl : yM h = yM h) 91) v42.toNat) rfl))
                have V107 : v43 = hc d (iL1).toNat := by rw [ev43, X106]; exact (HC (iL1).toNat (by omega)).2
                refine zwW_add (nx := 108) (by decide +kernel) (by first | omega | exact ⟨by omega, by omega⟩) ?_
                refine zwW_p [(0, 1, 0)] (q := 109) (ls' := [(2, 37), (0, (nL1 + lL38)), (0, yL38), (0, wL1), (0, iL1), (0, lL38), (0, kL38)]) (st' := [(0, 1), (0, (lL38 + v43))]) (by decide +kernel) rfl ?_
                refine zwW_sub (nx := 110) (by decide +kernel) (by first | omega | exact ⟨by omega, by omega⟩) ?_
                refine zwW_p [(1, 0, 2)] (q := 111) (ls' := [(2, 37), (0, (nL1 + lL38)), (0, yL38), (0, wL1), (0, iL1), (0, lL38), (0, kL38)]) (st' := [(2, 37), (0, ((lL38 + v43) - 1))]) (by decide +kernel) rfl ?_
                refine zwW_gc I (kd := 13) (bn := 32) (n := 97) (c := 91) (nx := 114) (by decide +kernel) ?_
                refine zwW_p [(1, 0, 2)] (q := 115) (ls' := [(2, 37), (0, (nL1 + lL38)), (0, yL38), (0, wL1), (0, iL1), (0, lL38), (0, kL38)]) (st' := [(2, 37), (2, 91), (0, ((lL38 + v43) - 1))]) (by decide +kernel) rfl ?_
                refine zwW_gc I (kd := 13) (bn := 81) (n := 97) (c := 188) (nx := 118) (by decide +kernel) ?_
                refine zwW_p [(1, 4, 0)] (q := 120) (ls' := [(2, 37), (0, (nL1 + lL38)), (0, yL38), (0, wL1), (0, iL1), (0, lL38), (0, kL38)]) (st' := [(0, iL1), (2, 188), (2, 91), (0, ((lL38 + v43) - 1))]) (by decide +kernel) rfl ?_
                refine zwW_al I (a1 := 188) (a2 := 188) (kd := 20) (n := 6) (t := 0) (lo := 0) (hi := 19) (nx := 121) (by decide +kernel) (by first | decide | exact ⟨by decide, by decide⟩) ib4 ?_
                intro v44 ev44 lv44 uv44
                have X121 : v44 = ((hh (iL1).toNat : Nat) : Int) := ev44.trans (HL (iL1).toNat (by omega))
                have ib6 : 0 ≤ v44 ∧ v44 < ((20 : Nat) : Int) := (by first | omega | exact ⟨by omega, by omega⟩)
                refine zwW_al I (a1 := 91) (a2 := 91) (kd := 20) (n := 20) (t := 0) (lo := -2147483648) (hi := 2147483647) (nx := 122) (by decide +kernel) (by first | decide | exact ⟨by decide, by decide⟩) ib6 ?_
                intro v45 ev45 lv45 uv45
                have sv45 : v45 = (yM h) 91 v44.toNat := Eq.trans ev45 (Eq.trans (Eq.symm (yM_p (h := h) (a := 91) (n := 20) (i := v44.toNat) rfl (zit ib6))) (Eq.trans (congrFun (congrFun (rfl : yM h = yM h) 91) v44.toNat) rfl))
                have V122 : v45 = hc d (iL1).toNat := by rw [ev45, X121]; exact (HC (iL1).toNat (by omega)).2
                refine zwW_div (nx := 123) (by decide +kernel) (by omega) (by omega) (by omega) ?_
                obtain ⟨v46, ev46⟩ : ∃ z, z = ((lL38 + v43) - 1) / v45 := ⟨_, rfl⟩
                rw [← ev46]
                have Ev46 : v46 = ((lL38 + ((yM h) 91 v42.toNat)) - 1) / ((yM h) 91 v44.toNat) := by rw [ev46, sv43, sv45]
                refine zwW_p [(2, 6, 0)] (q := 125) (ls' := [(2, 37), (0, (nL1 + lL38)), (0, yL38), (0, wL1), (0, iL1), (0, lL38), (0, v46)]) (st' := []) (by decide +kernel) rfl ?_
                have K125 : v46 = hK d (iL1).toNat (hL d ll (iL1).toNat (hn d)) := by
                  unfold hK
                  rw [← L79]
                  first
                  | (rw [if_pos (by omega)]; done)
                  | (rw [if_neg (by omega), ev46, V107, V122]; done)
                refine zwW_p [(1, 6, 0), (1, 3, 0)] (q := 128) (ls' := [(2, 37), (0, (nL1 + lL38)), (0, yL38), (0, wL1), (0, iL1), (0, lL38), (0, v46)]) (st' := [(0, wL1), (0, v46)]) (by decide +kernel) rfl ?_
                refine zwic_le (q := 134) (nx := 131) (by decide +kernel) (fun c47 => ?_) (fun c47 => ?_)
                · have W134 : wL1 = hW d ll (hn d) ((iL1).toNat + 1) := by
                    show _ = max (hW d ll (hn d) (iL1).toNat) (hK d (iL1).toNat (hL d ll (iL1).toNat (hn d)))
                    rw [← K125, ← iL1_2]
                    omega
                  have N134 : (nL1 + lL38) = hH d ll ((iL1).toNat + 1) := by
                    show _ = hH d ll (iL1).toNat + hL d ll (iL1).toNat (hn d)
                    omega
                  have Y134 : yL38 = hY d ll ((iL1).toNat + 1) := by
                    show _ = hY d ll (iL1).toNat + hG d ll (iL1).toNat (hn d)
                    omega
                  have BH := hH_b (ll := ll) B ((iL1).toNat + 1)
                  have BY := hY_b B V ((iL1).toNat + 1) (by omega)
                  have BW := hW_b B (Nat.le_refl _) (hL_v B V (Nat.le_refl _)) ((iL1).toNat + 1) (by omega)
                  refine zwW_inc (i := 4) (c := 1) (x := iL1) (nx := 137) (by decide +kernel) rfl (by first | omega | exact ⟨by omega, by omega⟩) (ls' := [(2, 37), (0, (nL1 + lL38)), (0, yL38), (0, wL1), (0, (iL1 + 1)), (0, lL38), (0, v46)]) rfl ?_
                  refine zwW_p [(24, 9, 0)] (q := 9) (ls' := [(2, 37), (0, (nL1 + lL38)), (0, yL38), (0, wL1), (0, (iL1 + 1)), (0, lL38), (0, v46)]) (st' := []) (by decide +kernel) rfl ?_
                  exact IHL1 ((100 - (iL1 + 1))).toNat (by omega) (nL1 + lL38) yL38 wL1 (iL1 + 1) (0, lL38) (0, v46) rfl (by rw [show (iL1 + 1).toNat = (iL1).toNat + 1 by omega]; exact N134) (by rw [show (iL1 + 1).toNat = (iL1).toNat + 1 by omega]; exact Y134) (by rw [show (iL1 + 1).toNat = (iL1).toNat + 1 by omega]; exact W134) (by omega) (by omega)
                · refine zwW_p [(1, 6, 0), (2, 3, 0)] (q := 134) (ls' := [(2, 37), (0, (nL1 + lL38)), (0, yL38), (0, v46), (0, iL1), (0, lL38), (0, v46)]) (st' := []) (by decide +kernel) rfl ?_
                  have W134 : v46 = hW d ll (hn d) ((iL1).toNat + 1) := by
                    show _ = max (hW d ll (hn d) (iL1).toNat) (hK d (iL1).toNat (hL d ll (iL1).toNat (hn d)))
                    rw [← K125, ← iL1_2]
                    omega
                  have N134 : (nL1 + lL38) = hH d ll ((iL1).toNat + 1) := by
                    show _ = hH d ll (iL1).toNat + hL d ll (iL1).toNat (hn d)
                    omega
                  have Y134 : yL38 = hY d ll ((iL1).toNat + 1) := by
                    show _ = hY d ll (iL1).toNat + hG d ll (iL1).toNat (hn d)
                    omega
                  have BH := hH_b (ll := ll) B ((iL1).toNat + 1)
                  have BY := hY_b B V ((iL1).toNat + 1) (by omega)
                  have BW := hW_b B (Nat.le_refl _) (hL_v B V (Nat.le_refl _)) ((iL1).toNat + 1) (by omega)
                  refine zwW_inc (i := 4) (c := 1) (x := iL1) (nx := 137) (by decide +kernel) rfl (by first | omega | exact ⟨by omega, by omega⟩) (ls' := [(2, 37), (0, (nL1 + lL38)), (0, yL38), (0, v46), (0, (iL1 + 1)), (0, lL38), (0, v46)]) rfl ?_
                  refine zwW_p [(24, 9, 0)] (q := 9) (ls' := [(2, 37), (0, (nL1 + lL38)), (0, yL38), (0, v46), (0, (iL1 + 1)), (0, lL38), (0, v46)]) (st' := []) (by decide +kernel) rfl ?_
                  exact IHL1 ((100 - (iL1 + 1))).toNat (by omega) (nL1 + lL38) yL38 v46 (iL1 + 1) (0, lL38) (0, v46) rfl (by rw [show (iL1 + 1).toNat = (iL1).toNat + 1 by omega]; exact N134) (by rw [show (iL1 + 1).toNat = (iL1).toNat + 1 by omega]; exact Y134) (by rw [show (iL1 + 1).toNat = (iL1).toNat + 1 by omega]; exact W134) (by omega) (by omega)
              · refine zwW_p [(0, 0, 0), (24, 123, 0)] (q := 123) (ls' := [(2, 37), (0, (nL1 + lL38)), (0, yL38), (0, wL1), (0, iL1), (0, lL38), (0, kL38)]) (st' := [(0, 0)]) (by decide +kernel) rfl ?_
                refine zwW_p [(2, 6, 0)] (q := 125) (ls' := [(2, 37), (0, (nL1 + lL38)), (0, yL38), (0, wL1), (0, iL1), (0, lL38), (0, 0)]) (st' := []) (by decide +kernel) rfl ?_
                have K125 : 0 = hK d (iL1).toNat (hL d ll (iL1).toNat (hn d)) := by
                  unfold hK
                  rw [← L79]
                  first
                  | (rw [if_pos (by omega)]; done)
                  | (rw [if_neg (by omega), e0, V107, V122]; done)
                refine zwW_p [(1, 6, 0), (1, 3, 0)] (q := 128) (ls' := [(2, 37), (0, (nL1 + lL38)), (0, yL38), (0, wL1), (0, iL1), (0, lL38), (0, 0)]) (st' := [(0, wL1), (0, 0)]) (by decide +kernel) rfl ?_
                refine zwic_le (q := 134) (nx := 131) (by decide +kernel) (fun c48 => ?_) (fun c48 => ?_)
                · have W134 : wL1 = hW d ll (hn d) ((iL1).toNat + 1) := by
                    show _ = max (hW d ll (hn d) (iL1).toNat) (hK d (iL1).toNat (hL d ll (iL1).toNat (hn d)))
                    rw [← K125, ← iL1_2]
                    omega
                  have N134 : (nL1 + lL38) = hH d ll ((iL1).toNat + 1) := by
                    show _ = hH d ll (iL1).toNat + hL d ll (iL1).toNat (hn d)
                    omega
                  have Y134 : yL38 = hY d ll ((iL1).toNat + 1) := by
                    show _ = hY d ll (iL1).toNat + hG d ll (iL1).toNat (hn d)
                    omega
                  have BH := hH_b (ll := ll) B ((iL1).toNat + 1)
                  have BY := hY_b B V ((iL1).toNat + 1) (by omega)
                  have BW := hW_b B (Nat.le_refl _) (hL_v B V (Nat.le_refl _)) ((iL1).toNat + 1) (by omega)
                  refine zwW_inc (i := 4) (c := 1) (x := iL1) (nx := 137) (by decide +kernel) rfl (by first | omega | exact ⟨by omega, by omega⟩) (ls' := [(2, 37), (0, (nL1 + lL38)), (0, yL38), (0, wL1), (0, (iL1 + 1)), (0, lL38), (0, 0)]) rfl ?_
                  refine zwW_p [(24, 9, 0)] (q := 9) (ls' := [(2, 37), (0, (nL1 + lL38)), (0, yL38), (0, wL1), (0, (iL1 + 1)), (0, lL38), (0, 0)]) (st' := []) (by decide +kernel) rfl ?_
                  exact IHL1 ((100 - (iL1 + 1))).toNat (by omega) (nL1 + lL38) yL38 wL1 (iL1 + 1) (0, lL38) (0, 0) rfl (by rw [show (iL1 + 1).toNat = (iL1).toNat + 1 by omega]; exact N134) (by rw [show (iL1 + 1).toNat = (iL1).toNat + 1 by omega]; exact Y134) (by rw [show (iL1 + 1).toNat = (iL1).toNat + 1 by omega]; exact W134) (by omega) (by omega)
                · exfalso; omega
            · refine zwW_p [(1, 0, 2)] (q := 34) (ls' := [(2, 37), (0, nL1), (0, yL38), (0, wL1), (0, iL1), (0, lL38), (0, kL38)]) (st' := [(2, 37)]) (by decide +kernel) rfl ?_
              refine zwW_gc I (kd := 13) (bn := 82) (n := 97) (c := 189) (nx := 37) (by decide +kernel) ?_
              refine zwW_p [(1, 6, 0)] (q := 39) (ls' := [(2, 37), (0, nL1), (0, yL38), (0, wL1), (0, iL1), (0, lL38), (0, kL38)]) (st' := [(0, kL38), (2, 189)]) (by decide +kernel) rfl ?_
              have ib7 : 0 ≤ kL38 ∧ kL38 < ((6 : Nat) : Int) := (by first | omega | exact ⟨by omega, by omega⟩)
              refine zwW_al I (a1 := 189) (a2 := 189) (kd := 20) (n := 6) (t := 0) (lo := -1) (hi := 5) (nx := 40) (by decide +kernel) (by first | decide | exact ⟨by decide, by decide⟩) ib7 ?_
              intro v49 ev49 lv49 uv49
              have V40 : v49 = ll (kL38).toNat := ev49.trans (L (kL38).toNat (by omega))
              refine zwW_p [(1, 4, 0)] (q := 42) (ls' := [(2, 37), (0, nL1), (0, yL38), (0, wL1), (0, iL1), (0, lL38), (0, kL38)]) (st' := [(0, iL1), (0, v49)]) (by decide +kernel) rfl ?_
              refine zwic_eq (q := 48) (nx := 45) (by decide +kernel) (fun c50 => ?_) (fun c50 => ?_)
              · refine zwW_p [(1, 5, 0), (1, 0, 2)] (q := 51) (ls' := [(2, 37), (0, nL1), (0, yL38), (0, wL1), (0, iL1), (0, lL38), (0, kL38)]) (st' := [(2, 37), (0, lL38)]) (by decide +kernel) rfl ?_
                refine zwW_gc I (kd := 13) (bn := 80) (n := 97) (c := 187) (nx := 54) (by decide +kernel) ?_
                refine zwW_p [(1, 6, 0)] (q := 56) (ls' := [(2, 37), (0, nL1), (0, yL38), (0, wL1), (0, iL1), (0, lL38), (0, kL38)]) (st' := [(0, kL38), (2, 187), (0, lL38)]) (by decide +kernel) rfl ?_
                refine zwW_al I (a1 := 187) (a2 := 187) (kd := 20) (n := 6) (t := 0) (lo := -2147483648) (hi := 2147483647) (nx := 57) (by decide +kernel) (by first | decide | exact ⟨by decide, by decide⟩) ib7 ?_
                intro v51 ev51 lv51 uv51
                have V57 : v51 = hN d (kL38).toNat := ev51.trans (HN (kL38).toNat (by omega))
                have NB := B.2.1 (kL38).toNat (by omega)
                refine zwW_add (nx := 58) (by decide +kernel) (by first | omega | exact ⟨by omega, by omega⟩) ?_
                refine zwW_p [(2, 5, 0), (1, 2, 0), (1, 0, 2)] (q := 62) (ls' := [(2, 37), (0, nL1), (0, yL38), (0, wL1), (0, iL1), (0, (lL38 + v51)), (0, kL38)]) (st' := [(2, 37), (0, yL38)]) (by decide +kernel) rfl ?_
                refine zwW_gc I (kd := 13) (bn := 85) (n := 97) (c := 198) (nx := 65) (by decide +kernel) ?_
                refine zwW_p [(1, 6, 0)] (q := 67) (ls' := [(2, 37), (0, nL1), (0, yL38), (0, wL1), (0, iL1), (0, (lL38 + v51)), (0, kL38)]) (st' := [(0, kL38), (2, 198), (0, yL38)]) (by decide +kernel) rfl ?_
                refine zwW_ro I (a := 198) (n := 6) (kd := 26) (base := 199) (step := 1) (nx := 68) (by decide +kernel) rfl (by first | omega | exact ⟨by omega, by omega⟩) ?_
                rw [show ((199 : Nat) : Int) + ((1 : Nat) : Int) * kL38 = (199 + kL38) by omega]
                refine zwW_p [(1, 4, 0)] (q := 70) (ls' := [(2, 37), (0, nL1), (0, yL38), (0, wL1), (0, iL1), (0, (lL38 + v51)), (0, kL38)]) (st' := [(0, iL1), (2, (199 + kL38)), (0, yL38)]) (by decide +kernel) rfl ?_
                have ib8 : 0 ≤ iL1 ∧ iL1 < ((6 : Nat) : Int) := (by first | omega | exact ⟨by omega, by omega⟩)
                refine zwW_al I (a1 := 199) (a2 := 204) (kd := 20) (n := 6) (t := 0) (lo := -1) (hi := 4608) (nx := 71) (by decide +kernel) (by first | omega | exact ⟨by omega, by omega⟩) ib8 ?_
                intro v52 ev52 lv52 uv52
                have V71 : v52 = hf d (kL38).toNat (iL1).toNat := by
                  have z := HF (kL38).toNat (iL1).toNat (by omega) (by omega) (Or.inl (by omega))
                  rw [show (((kL38).toNat : Nat) : Int) = kL38 by omega] at z
                  exact ev52.trans z
                have FB := B.2.2 (kL38).toNat (iL1).toNat (by omega) (by omega) (hVc_y (V (kL38).toNat (by omega)) (by omega))
                refine zwW_add (nx := 72) (by decide +kernel) (by first | omega | exact ⟨by omega, by omega⟩) ?_
                refine zwW_p [(2, 2, 0)] (q := 73) (ls' := [(2, 37), (0, nL1), (0, (yL38 + v52)), (0, wL1), (0, iL1), (0, (lL38 + v51)), (0, kL38)]) (st' := []) (by decide +kernel) rfl ?_
                have L73 : (lL38 + v51) = hL d ll (iL1).toNat ((kL38).toNat + 1) ∧ (yL38 + v52) = hY d ll (iL1).toNat + hG d ll (iL1).toNat ((kL38).toNat + 1) := by
                  first
                  | (rw [hL_s1 (by omega), hG_s1 (by omega)]; omega)
                  | (rw [hL_s0 (by omega), hG_s0 (by omega)]; omega)
                have LB := hL_b B (l := ll) (i := (iL1).toNat) ((kL38).toNat + 1) (by omega)
                have GB := hG_b B (i := (iL1).toNat) (by omega) ((kL38).toNat + 1) (by omega) (fun j hj => V j (by omega))
                have YB := hY_b B V (iL1).toNat (by omega)
                refine zwW_inc (i := 6) (c := 1) (x := kL38) (nx := 76) (by decide +kernel) rfl (by first | omega | exact ⟨by omega, by omega⟩) (ls' := [(2, 37), (0, nL1), (0, (yL38 + v52)), (0, wL1), (0, iL1), (0, (lL38 + v51)), (0, (kL38 + 1))]) rfl ?_
                refine zwW_p [(24, 24, 0)] (q := 24) (ls' := [(2, 37), (0, nL1), (0, (yL38 + v52)), (0, wL1), (0, iL1), (0, (lL38 + v51)), (0, (kL38 + 1))]) (st' := []) (by decide +kernel) rfl ?_
                exact IHL38 ((100 - (kL38 + 1))).toNat (by omega) (yL38 + v52) (lL38 + v51) (kL38 + 1) rfl (by rw [show (kL38 + 1).toNat = (kL38).toNat + 1 by omega]; exact L73.1) (by rw [show (kL38 + 1).toNat = (kL38).toNat + 1 by omega]; exact L73.2) (by omega) (by omega)
              · refine zwW_p [(24, 73, 0)] (q := 73) (ls' := [(2, 37), (0, nL1), (0, yL38), (0, wL1), (0, iL1), (0, lL38), (0, kL38)]) (st' := []) (by decide +kernel) rfl ?_
                have L73 : lL38 = hL d ll (iL1).toNat ((kL38).toNat + 1) ∧ yL38 = hY d ll (iL1).toNat + hG d ll (iL1).toNat ((kL38).toNat + 1) := by
                  first
                  | (rw [hL_s1 (by omega), hG_s1 (by omega)]; omega)
                  | (rw [hL_s0 (by omega), hG_s0 (by omega)]; omega)
                have LB := hL_b B (l := ll) (i := (iL1).toNat) ((kL38).toNat + 1) (by omega)
                have GB := hG_b B (i := (iL1).toNat) (by omega) ((kL38).toNat + 1) (by omega) (fun j hj => V j (by omega))
                have YB := hY_b B V (iL1).toNat (by omega)
                refine zwW_inc (i := 6) (c := 1) (x := kL38) (nx := 76) (by decide +kernel) rfl (by first | omega | exact ⟨by omega, by omega⟩) (ls' := [(2, 37), (0, nL1), (0, yL38), (0, wL1), (0, iL1), (0, lL38), (0, (kL38 + 1))]) rfl ?_
                refine zwW_p [(24, 24, 0)] (q := 24) (ls' := [(2, 37), (0, nL1), (0, yL38), (0, wL1), (0, iL1), (0, lL38), (0, (kL38 + 1))]) (st' := []) (by decide +kernel) rfl ?_
                exact IHL38 ((100 - (kL38 + 1))).toNat (by omega) yL38 lL38 (kL38 + 1) rfl (by rw [show (kL38 + 1).toNat = (kL38).toNat + 1 by omega]; exact L73.1) (by rw [show (kL38 + 1).toNat = (kL38).toNat + 1 by omega]; exact L73.2) (by omega) (by omega)
        exact L38 _ yL1 0 0 rfl (rfl) (by show _ = hY d ll (iL1).toNat + 0; omega) (by omega) (by omega)
  exact L1 _ 0 0 0 0 (9, 0) (9, 0) rfl (rfl) (rfl) (rfl) (by omega) (by omega)
-- WheelLandModel.tries(I)V
theorem m213_z {sc : List Int} (a : Int) (D0 : Nat) (p6 : 0 ≤ a ∧ a ≤ 6) (HT : a < 6 → zTH sc D0 (a + 1)) : zTH sc (D0 + 10) a := by
  intro h I d hh ll t k r B HU H pa pr V L QQ
  refine zwC_of (D := D0 + 9) 3 (by decide +kernel) rfl (ls := [(2, 37), (0, a), (9, 0)]) rfl ?_
  have R : zMR msT h h := zMR.rf _ _
  have u86 : yM h 37 86 = fld h 37 86 := rfl
  have H1 := H.1.1
  have H2 := H.1.2
  have B1 := B.1
  refine zwW_p [(1, 1, 0), (1, 0, 2)] (q := 2) (ls' := [(2, 37), (0, a), (9, 0)]) (st' := [(2, 37), (0, a)]) (by decide +kernel) rfl ?_
  refine zwW_gs I (kd := 13) (bn := 86) (n := 97) (t := 0) (lo := 0) (hi := 6) (nx := 5) (by decide +kernel) ?_
  intro v1 ev1 lv1 uv1
  have sv1 : v1 = (yM h) 37 86 := Eq.trans ev1 (Eq.trans (Eq.symm (yM_s (h := h) (i := 86) rfl)) (Eq.trans (congrFun (congrFun (rfl : yM h = yM h) 37) 86) rfl))
  refine zwic_ne (q := 13) (nx := 8) (by decide +kernel) (fun c2 => ?_) (fun c2 => ?_)
  · obtain ⟨r1, hr1⟩ : ∃ r1, r = r1 + 1 := ⟨r - 1, by omega⟩
    refine zwW_p [(0, 0, 0), (2, 2, 0)] (q := 15) (ls' := [(2, 37), (0, a), (0, 0)]) (st' := []) (by decide +kernel) rfl ?_
    have L3 : ∀ (n0 : Nat) (iL3 : Int) (hL3 : Hp), n0 = ((100 - iL3)).toNat → (mHs d hh hL3) → (mLn k ll hL3) → (mHq d (fo (hTs d k r1 ll) (iL3).toNat t) hL3) → ((0 ≤ iL3 ∧ iL3 ≤ 6) ∧ iL3 ≤ hm d) → zI hL3 → zMR msT h hL3 → zwW sc (D0 + 9) 213 15 [(2, 37), (0, a), (0, iL3)] [] hL3 (zwRv (fun g => zI g ∧ zMR msT h g ∧ (mHq d (hT d r k ll t) g) ∧ (mLn k ll g))) := by
      intro n0
      induction n0 using Nat.strongRecOn with
      | ind n0 IHL3 =>
        intro iL3 hL3 hnL3 iL3_0 iL3_1 iL3_2 iL3_3 IhL3 RhL3
        have HL1 := iL3_0.1.1
        have HL2 := iL3_0.1.2
        refine zwW_p [(1, 2, 0), (1, 0, 2)] (q := 17) (ls' := [(2, 37), (0, a), (0, iL3)]) (st' := [(2, 37), (0, iL3)]) (by decide +kernel) rfl ?_
        refine zwW_gs IhL3 (kd := 13) (bn := 87) (n := 97) (t := 0) (lo := 0) (hi := 6) (nx := 20) (by decide +kernel) ?_
        intro v4 ev4 lv4 uv4
        refine zwic_ge (q := 57) (nx := 23) (by decide +kernel) (fun c5 => ?_) (fun c5 => ?_)
        · have Q57 : mHq d (fo (hTs d k r1 ll) (hm d) t) hL3 := by
            have z := iL3_2
            rw [show (iL3).toNat = hm d by omega] at z
            exact z
          refine zwW_p [(1, 0, 2)] (q := 58) (ls' := [(2, 37), (0, a), (0, iL3)]) (st' := [(2, 37)]) (by decide +kernel) rfl ?_
          refine zwW_gc IhL3 (kd := 13) (bn := 82) (n := 97) (c := 189) (nx := 61) (by decide +kernel) ?_
          refine zwW_p [(1, 1, 0), (0, -1, 0)] (q := 63) (ls' := [(2, 37), (0, a), (0, iL3)]) (st' := [(0, -1), (0, a), (2, 189)]) (by decide +kernel) rfl ?_
          have ib1 : 0 ≤ a ∧ a < ((6 : Nat) : Int) := (by first | omega | exact ⟨by omega, by omega⟩)
          refine zwW_as IhL3 (a1 := 189) (a2 := 189) (n := 6) (lo := -1) (hi := 5) (nx := 64) (by decide +kernel) (by first | decide | exact ⟨by decide, by decide⟩) ib1 (by first | decide | exact ⟨by decide, by decide⟩) ?_
          intro h6 eh6 Ih6
          have jbh6 : 0 ≤ a.toNat ∧ a.toNat < 6 := ⟨Nat.zero_le _, zit ib1⟩
          have th6_37_86 : fld h6 37 86 = fld hL3 37 86 := by rw [eh6]; exact fld_wr (Or.inl (by decide))
          have th6_37_87 : fld h6 37 87 = fld hL3 37 87 := by rw [eh6]; exact fld_wr (Or.inl (by decide))
          have E63 := eh6
          have S63 := IhL3.s (r := 189) (a1 := 189) (a2 := 189) (k := 20) (n := 6) (by decide +kernel) (by decide) (by decide)
          have Hh6 : mHs d hh h6 := iL3_0.fr (zMR.one (a1 := 189) (a2 := 189) (j1 := 0) (j2 := 6) (by first | decide | exact ⟨by decide, by decide⟩) jbh6 eh6) (by decide +kernel)
          have QKh6 := Q57.fr (zMR.one (a1 := 189) (a2 := 189) (j1 := 0) (j2 := 6) (by first | decide | exact ⟨by decide, by decide⟩) jbh6 eh6) (by decide +kernel)
          have Rh6 : zMR msT h h6 := RhL3.w (a1 := 189) (a2 := 189) (j1 := 0) (j2 := 6) (by decide +kernel) (by first | decide | exact ⟨by decide, by decide⟩) jbh6 eh6
          have P64 : mLn (k + 1) (hu ll k (-1)) h6 := iL3_1.sx E63 (by omega) (by omega) S63
          have V64 : hV d (hu ll k (-1)) (k + 1) := V.st hVc_n
          refine zwW_p [(1, 0, 2), (1, 1, 0), (0, 1, 0)] (q := 67) (ls' := [(2, 37), (0, a), (0, iL3)]) (st' := [(0, 1), (0, a), (2, 37)]) (by decide +kernel) rfl ?_
          refine zwW_add (nx := 68) (by decide +kernel) (by first | omega | exact ⟨by omega, by omega⟩) ?_
          refine zwW_cmv Ih6 (op := 60) (k' := 213) (n := 1) (kd := 13) (m := 97) (nx := 71) (r := 37) (tl := [(0, (a + 1))]) (st' := []) (by decide +kernel) rfl (by decide +kernel) (Nat.ble_eq_true_of_le (by omega)) (HT (by omega) h6 Ih6 d hh (hu ll k (-1)) (fo (hTs d k r1 ll) (hm d) t) (k + 1) r1 B HU Hh6 (by omega) (by omega) V64 P64 QKh6) ?_
          rintro h9 ⟨Ih9, Qh9, f7, f8⟩
          have Rh9 : zMR msT h h9 := Rh6.tr Qh9 (by decide +kernel)
          have Hh9 : mHs d hh h9 := Hh6.fr Qh9 (by decide +kernel)
          have th9_37_86 : fld h9 37 86 = fld h6 37 86 := Qh9.f (a1 := 37) (a2 := 37) (j1 := 86) (j2 := 87) (by decide +kernel) (by first | decide | exact ⟨by decide, by decide⟩) (by first | decide | exact ⟨by decide, by decide⟩)
          have th9_37_87 : fld h9 37 87 = fld h6 37 87 := Qh9.f (a1 := 37) (a2 := 37) (j1 := 87) (j2 := 88) (by decide +kernel) (by first | decide | exact ⟨by decide, by decide⟩) (by first | decide | exact ⟨by decide, by decide⟩)
          have Q71 : mHq d (hT d r k ll t) h9 := by
            rw [hr1, hT_s]
            exact f7
          have L71 : mLn k ll h9 := f8.px
          refine zwW_retv (nx := 72) (a := 0) (b := 0) (by decide +kernel) ?_
          exact ⟨Ih9, Rh9, by exact Q71, by exact L71⟩
        · refine zwW_p [(1, 0, 2)] (q := 24) (ls' := [(2, 37), (0, a), (0, iL3)]) (st' := [(2, 37)]) (by decide +kernel) rfl ?_
          refine zwW_gc IhL3 (kd := 13) (bn := 84) (n := 97) (c := 191) (nx := 27) (by decide +kernel) ?_
          refine zwW_p [(1, 1, 0)] (q := 28) (ls' := [(2, 37), (0, a), (0, iL3)]) (st' := [(0, a), (2, 191)]) (by decide +kernel) rfl ?_
          refine zwW_ro IhL3 (a := 191) (n := 6) (kd := 29) (base := 192) (step := 1) (nx := 29) (by decide +kernel) rfl (by first | omega | exact ⟨by omega, by omega⟩) ?_
          rw [show ((192 : Nat) : Int) + ((1 : Nat) : Int) * a = (192 + a) by omega]
          refine zwW_p [(1, 2, 0)] (q := 30) (ls' := [(2, 37), (0, a), (0, iL3)]) (st' := [(0, iL3), (2, (192 + a))]) (by decide +kernel) rfl ?_
          have ib2 : 0 ≤ iL3 ∧ iL3 < ((6 : Nat) : Int) := (by first | omega | exact ⟨by omega, by omega⟩)
          refine zwW_al IhL3 (a1 := 192) (a2 := 197) (kd := 22) (n := 6) (t := 0) (lo := 0) (hi := 1) (nx := 31) (by decide +kernel) (by first | omega | exact ⟨by omega, by omega⟩) ib2 ?_
          intro v10 ev10 lv10 uv10
          have V31 : v10 = hy d k (iL3).toNat := by
            have z := iL3_0.2.2.2.1 k (iL3).toNat (by omega) (by omega) (Or.inl (by omega))
            rw [ev10, pa]
            exact z
          refine zwif_ne (q := 37) (nx := 34) (by decide +kernel) (fun c11 => ?_) (fun c11 => ?_)
          · have C37 : hy d k (iL3).toNat ≠ 0 := by omega
            refine zwW_p [(1, 0, 2)] (q := 38) (ls' := [(2, 37), (0, a), (0, iL3)]) (st' := [(2, 37)]) (by decide +kernel) rfl ?_
            refine zwW_gc IhL3 (kd := 13) (bn := 82) (n := 97) (c := 189) (nx := 41) (by decide +kernel) ?_
            refine zwW_p [(1, 1, 0), (1, 2, 0)] (q := 43) (ls' := [(2, 37), (0, a), (0, iL3)]) (st' := [(0, iL3), (0, a), (2, 189)]) (by decide +kernel) rfl ?_
            have ib3 : 0 ≤ a ∧ a < ((6 : Nat) : Int) := (by first | omega | exact ⟨by omega, by omega⟩)
            refine zwW_as IhL3 (a1 := 189) (a2 := 189) (n := 6) (lo := -1) (hi := 5) (nx := 44) (by decide +kernel) (by first | decide | exact ⟨by decide, by decide⟩) ib3 (by first | omega | exact ⟨by omega, by omega⟩) ?_
            intro h12 eh12 Ih12
            have jbh12 : 0 ≤ a.toNat ∧ a.toNat < 6 := ⟨Nat.zero_le _, zit ib3⟩
            have th12_37_86 : fld h12 37 86 = fld hL3 37 86 := by rw [eh12]; exact fld_wr (Or.inl (by decide))
            have th12_37_87 : fld h12 37 87 = fld hL3 37 87 := by rw [eh12]; exact fld_wr (Or.inl (by decide))
            have E43 := eh12
            have S43 := IhL3.s (r := 189) (a1 := 189) (a2 := 189) (k := 20) (n := 6) (by decide +kernel) (by decide) (by decide)
            have Hh12 : mHs d hh h12 := iL3_0.fr (zMR.one (a1 := 189) (a2 := 189) (j1 := 0) (j2 := 6) (by first | decide | exact ⟨by decide, by decide⟩) jbh12 eh12) (by decide +kernel)
            have QKh12 := iL3_2.fr (zMR.one (a1 := 189) (a2 := 189) (j1 := 0) (j2 := 6) (by first | decide | exact ⟨by decide, by decide⟩) jbh12 eh12) (by decide +kernel)
            have Rh12 : zMR msT h h12 := RhL3.w (a1 := 189) (a2 := 189) (j1 := 0) (j2 := 6) (by decide +kernel) (by first | decide | exact ⟨by decide, by decide⟩) jbh12 eh12
            have P44 : mLn (k + 1) (hu ll k (((iL3).toNat : Nat) : Int)) h12 := by
              rw [show (((iL3).toNat : Nat) : Int) = iL3 by omega]
              exact iL3_1.sx E43 (by omega) (by omega) S43
            have V44 : hV d (hu ll k (((iL3).toNat : Nat) : Int)) (k + 1) := V.st (hVc_i (by omega) C37)
            refine zwW_p [(1, 0, 2), (1, 1, 0), (0, 1, 0)] (q := 47) (ls' := [(2, 37), (0, a), (0, iL3)]) (st' := [(0, 1), (0, a), (2, 37)]) (by decide +kernel) rfl ?_
            refine zwW_add (nx := 48) (by decide +kernel) (by first | omega | exact ⟨by omega, by omega⟩) ?_
            refine zwW_cmv Ih12 (op := 60) (k' := 213) (n := 1) (kd := 13) (m := 97) (nx := 51) (r := 37) (tl := [(0, (a + 1))]) (st' := []) (by decide +kernel) rfl (by decide +kernel) (Nat.ble_eq_true_of_le (by omega)) (HT (by omega) h12 Ih12 d hh (hu ll k (((iL3).toNat : Nat) : Int)) (fo (hTs d k r1 ll) (iL3).toNat t) (k + 1) r1 B HU Hh12 (by omega) (by omega) V44 P44 QKh12) ?_
            rintro h15 ⟨Ih15, Qh15, f13, f14⟩
            have Rh15 : zMR msT h h15 := Rh12.tr Qh15 (by decide +kernel)
            have Hh15 : mHs d hh h15 := Hh12.fr Qh15 (by decide +kernel)
            have th15_37_86 : fld h15 37 86 = fld h12 37 86 := Qh15.f (a1 := 37) (a2 := 37) (j1 := 86) (j2 := 87) (by decide +kernel) (by first | decide | exact ⟨by decide, by decide⟩) (by first | decide | exact ⟨by decide, by decide⟩)
            have th15_37_87 : fld h15 37 87 = fld h12 37 87 := Qh15.f (a1 := 37) (a2 := 37) (j1 := 87) (j2 := 88) (by decide +kernel) (by first | decide | exact ⟨by decide, by decide⟩) (by first | decide | exact ⟨by decide, by decide⟩)
            have L51 : mLn k ll h15 := by first | exact None | exact f14.px
            have Q51 : mHq d (fo (hTs d k r1 ll) ((iL3).toNat + 1) t) h15 := by
              rw [fo_s]
              first
              | (rw [hTs_n C37]; exact f13)
              | (rw [hTs_z (by omega)]; exact iL3_2)
            refine zwW_inc (i := 2) (c := 1) (x := iL3) (nx := 54) (by decide +kernel) rfl (by first | omega | exact ⟨by omega, by omega⟩) (ls' := [(2, 37), (0, a), (0, (iL3 + 1))]) rfl ?_
            refine zwW_p [(24, 15, 0)] (q := 15) (ls' := [(2, 37), (0, a), (0, (iL3 + 1))]) (st' := []) (by decide +kernel) rfl ?_
            exact IHL3 ((100 - (iL3 + 1))).toNat (by omega) (iL3 + 1) h15 rfl (Hh15) (L51) (by rw [show (iL3 + 1).toNat = (iL3).toNat + 1 by omega]; exact Q51) (by omega) Ih15 Rh15
          · refine zwW_p [(24, 51, 0)] (q := 51) (ls' := [(2, 37), (0, a), (0, iL3)]) (st' := []) (by decide +kernel) rfl ?_
            have L51 : mLn k ll hL3 := by first | exact iL3_1 | exact trivial.px
            have Q51 : mHq d (fo (hTs d k r1 ll) ((iL3).toNat + 1) t) hL3 := by
              rw [fo_s]
              first
              | (rw [hTs_n C37]; exact trivial)
              | (rw [hTs_z (by omega)]; exact iL3_2)
            refine zwW_inc (i := 2) (c := 1) (x := iL3) (nx := 54) (by decide +kernel) rfl (by first | omega | exact ⟨by omega, by omega⟩) (ls' := [(2, 37), (0, a), (0, (iL3 + 1))]) rfl ?_
            refine zwW_p [(24, 15, 0)] (q := 15) (ls' := [(2, 37), (0, a), (0, (iL3 + 1))]) (st' := []) (by decide +kernel) rfl ?_
            exact IHL3 ((100 - (iL3 + 1))).toNat (by omega) (iL3 + 1) hL3 rfl (iL3_0) (L51) (by rw [show (iL3 + 1).toNat = (iL3).toNat + 1 by omega]; exact Q51) (by omega) IhL3 RhL3
    exact L3 _ 0 h rfl (H) (L) (QQ) (by omega) I R
  · refine zwW_p [(1, 0, 2)] (q := 9) (ls' := [(2, 37), (0, a), (9, 0)]) (st' := [(2, 37)]) (by decide +kernel) rfl ?_
    have K9 : hn d = k := by omega
    refine zwW_cmv I (op := 60) (k' := 253) (n := 0) (kd := 13) (m := 97) (nx := 12) (r := 37) (tl := []) (st' := []) (by decide +kernel) rfl (by decide +kernel) (Nat.ble_eq_true_of_le (by omega)) (m253_z h I d hh ll t B HU H (by rw [K9]; exact V) (by rw [K9]; exact L) QQ) ?_
    rintro h17 ⟨Ih17, Qh17, f16⟩
    have Rh17 : zMR msT h h17 := R.tr Qh17 (by decide +kernel)
    have Hh17 : mHs d hh h17 := H.fr Qh17 (by decide +kernel)
    have Lh17 : mLn k ll h17 := L.fr Qh17 (by decide +kernel)
    have th17_37_86 : fld h17 37 86 = fld h 37 86 := Qh17.f (a1 := 37) (a2 := 37) (j1 := 86) (j2 := 87) (by decide +kernel) (by first | decide | exact ⟨by decide, by decide⟩) (by first | decide | exact ⟨by decide, by decide⟩)
    have th17_37_87 : fld h17 37 87 = fld h 37 87 := Qh17.f (a1 := 37) (a2 := 37) (j1 := 87) (j2 := 88) (by decide +kernel) (by first | decide | exact ⟨by decide, by decide⟩) (by first | decide | exact ⟨by decide, by decide⟩)
    have Zh17 : yM h17 = (yM h) := (yM_fr Qh17 (by decide +kernel) (I.b (a1 := 37) (a2 := 37) (j1 := 86) (j2 := 87) (lo := 0) (hi := 6) (by decide +kernel) (r := 37) (j := 86) (by decide) (by decide) (by decide) (by decide)).2).trans (rfl : yM h = yM h)
    have Q71 : mHq d (hT d r k ll t) h17 := by
      rw [show r = 0 by omega, hT_0]
      exact f16
    have L71 := Lh17
    refine zwW_retv (nx := 13) (a := 0) (b := 0) (by decide +kernel) ?_
    exact ⟨Ih17, Rh17, by exact Q71, by exact L71⟩
end
section
/-! the model's search, all depths -/
section ZTH
variable {b : Int} {k : Nat} {h : Hp} {x : Int}
theorem zthtries (sc : List Int) : ∀ (n : Nat) (a : Int), n ≤ 6 → a = 6 - (n : Int) → zTH sc (10 * n + 10) a
  | 0, a, _, ha => by
    have ha : a = 6 := by omega
    subst ha
    exact m213_z 6 0 (by omega) (fun h => by omega)
  | n + 1, a, hn, ha => m213_z a (10 * n + 10) (by omega) (fun _ => zthtries sc n (a + 1) (by omega) (by omega))
theorem zth_tries (sc : List Int) : zTH sc 80 0 := fun h I d hh ll t k r B HU H pa pr V L QQ => zwC_up (by decide) (zthtries sc 6 0 (by decide) (by decide) h I d hh ll t k r B HU H pa pr V L QQ)
theorem yLc_sk (H : mLm (yLc b k) (yLh b k) h) (y : yBt b k = 0) (h6 : yLc b k ≤ 6) (hx : x = ((yLc b k : Nat) : Int)) : mLm (yLc b (k + 1)) (yLh b (k + 1)) h ∧ yLc b (k + 1) ≤ 6 ∧ x = ((yLc b (k + 1) : Nat) : Int) := by
  have ms := yLc_s (b := b) (k := k)
  rw [if_pos y] at ms
  exact ⟨H.la y, by omega, by omega⟩
/-- a number of the looms that isn't zero names one -/
theorem pcn_p : ∀ n : Nat, ∀ A : Nat, A < 2 ^ n → pcn A n = 0 → A = 0
  | 0, A, h, _ => by
    have h : A < 1 := h
    omega
  | n + 1, A, h, z => by
    have w := pcn_add (x := A) 1 n
    rw [show 1 + n = n + 1 by omega] at w
    have e1 : pcn A 1 = A % 2 := by
      show 0 + A / 2 ^ 0 % 2 = A % 2
      rw [Nat.pow_zero, Nat.div_one, Nat.zero_add]
    rw [Nat.pow_one] at w
    have h2 : A / 2 < 2 ^ n := Nat.div_lt_of_lt_mul (by rw [Nat.pow_succ] at h; omega)
    have q := pcn_p n (A / 2) h2 (by omega)
    omega
theorem yLc_1 {a : Int} {S : zT} (h1 : 1 ≤ a) (h2 : a < ((2 ^ (S 37 2).toNat : Nat) : Int)) (hn : (S 37 2).toNat < 21) : 1 ≤ yHm S a := by
  obtain ⟨A, rfl⟩ : ∃ A : Nat, a = (A : Int) := ⟨a.toNat, by omega⟩
  have hA : A < 2 ^ (S 37 2).toNat := Int.ofNat_lt.mp h2
  have p : 2 ^ (S 37 2).toNat ≤ 1048576 := (p2_b _ hn).2
  show 1 ≤ yLc (A : Int) (S 37 2).toNat
  rw [yLc_n (by omega) _ (by omega)]
  by_cases z : pcn A (S 37 2).toNat = 0
  · have := pcn_p _ A hA z
    omega
  · omega
theorem yHok_z {S : zT} (hn : (S 37 2).toNat ≤ 32) : ¬ yHok S 0 := fun h => by
  have a : 1 ≤ yHm S 0 := h.2.2.1
  have z : yHm S 0 = 0 := yLc_0 hn
  omega
end ZTH
end
section
/-! contracts of methods -/
-- WheelLandModel.handsFor(I)Z
theorem m148_z {sc : List Int} (h : Hp) (I : zI h) (a : Int) (q : qT) (q_a : -2147483648 ≤ a ∧ a ≤ 2147483647) (V : mRq q h) (ok : yOK (yM h)) (LF : yLf (yM h)) (HA : yHa (yM h)) (BR : ∀ k : Nat, (k : Int) < yM h 37 2 → yM h 91 k ≤ 1000) (PF8 : yF8 (yM h)) (hR : zRO h) : zwC sc 81 148 [(2, 37), (0, a)] h (zwRt 0 (fun x g => zI g ∧ zMR ms148 h g ∧ ((x = 1 ∧ (yHok (yM h) a) ∧ (fld g 37 88 = yHh0 q (yM h) a ∧ fld g 37 89 = yHh1 q (yM h) a ∧ fld g 37 90 = (yHX q (yM h) a).1) ∧ (∀ j : Nat, (j : Int) < yM h 37 86 → fld g 190 j = (yHX q (yM h) a).2 j) ∧ (mLm (yHm (yM h) a) (yHh (yM h) a) g)) ∨ (x = 0 ∧ (¬ yHok (yM h) a))))) := by
  refine zwC_of (D := 80) 4 (by decide +kernel) rfl (ls := [(2, 37), (0, a), (9, 0), (9, 0)]) rfl ?_
  have R : zMR ms148 h h := zMR.rf _ _
  have u0 : yM h 37 0 = fld h 37 0 := rfl
  have u1 : yM h 37 1 = fld h 37 1 := rfl
  have u2 : yM h 37 2 = fld h 37 2 := rfl
  have u64 : yM h 37 64 = fld h 37 64 := rfl
  have u86 : yM h 37 86 = fld h 37 86 := rfl
  have HA1 := HA.1
  have B2 := I.b (a1 := 37) (a2 := 37) (j1 := 2) (j2 := 3) (lo := 0) (hi := 20) (by decide +kernel) (r := 37) (j := 2) (by decide) (by decide) (by decide) (by decide)
  have HMd : yHm (yM h) a = yLc a (yM h 37 2).toNat := rfl
  have KOK := ok.s
  refine zwW_p [(1, 1, 0), (7, 0, 0), (0, 1, 1), (0, 1, 0), (1, 0, 2)] (q := 5) (ls' := [(2, 37), (0, a), (9, 0), (9, 0)]) (st' := [(2, 37), (0, 1), (1, 1), (1, a)]) (by decide +kernel) rfl ?_
  refine zwW_gs I (kd := 13) (bn := 2) (n := 97) (t := 0) (lo := 0) (hi := 20) (nx := 8) (by decide +kernel) ?_
  intro v1 ev1 lv1 uv1
  have sv1 : v1 = (yM h) 37 2 := Eq.trans ev1 (Eq.trans (Eq.symm (yM_s (h := h) (i := 2) rfl)) (Eq.trans (congrFun (congrFun (rfl : yM h = yM h) 37) 2) rfl))
  refine zwW_ib (a := 8) (nx := 9) (by decide +kernel) rfl ?_
  generalize gw9 : (i_shl 1 v1) = w9
  have S9 : w9 = ((2 ^ (yM h 37 2).toNat : Nat) : Int) := by
    have z := sh1_n (v1).toNat (by omega)
    rw [show (((v1).toNat : Nat) : Int) = v1 by omega] at z
    rw [← gw9, z, show (v1).toNat = (yM h 37 2).toNat by omega]
  have P9 := p2_b (yM h 37 2).toNat (by omega)
  have R9 : 1 ≤ w9 ∧ w9 ≤ 1048576 := by
    rw [S9]
    exact ⟨Int.ofNat_le.mpr P9.1, Int.ofNat_le.mpr P9.2⟩
  clear gw9 P9
  refine zwW_p [(0, 1, 0)] (q := 10) (ls' := [(2, 37), (0, a), (9, 0), (9, 0)]) (st' := [(0, 1), (0, w9), (1, 1), (1, a)]) (by decide +kernel) rfl ?_
  refine zwW_sub (nx := 11) (by decide +kernel) (by first | omega | exact ⟨by omega, by omega⟩) ?_
  refine zwW_p [(7, 0, 0)] (q := 12) (ls' := [(2, 37), (0, a), (9, 0), (9, 0)]) (st' := [(1, (w9 - 1)), (1, 1), (1, a)]) (by decide +kernel) rfl ?_
  refine zwW_cs (k' := 101) (n := 3) (nx := 15) (as := [(1, a), (1, 1), (1, (w9 - 1))]) (st' := []) (by decide +kernel) rfl (m101 h a 1 (w9 - 1)) rfl ?_
  rintro x _ ⟨rfl, ⟨rfl, c2⟩ | ⟨rfl, c2⟩⟩
  · refine zwif_eq (q := 25) (nx := 18) (by decide +kernel) (fun c3 => ?_) (fun c3 => ?_)
    · exfalso; omega
    · refine zwW_p [(1, 0, 2)] (q := 19) (ls' := [(2, 37), (0, a), (9, 0), (9, 0)]) (st' := [(2, 37)]) (by decide +kernel) rfl ?_
      refine zwW_gs I (kd := 13) (bn := 86) (n := 97) (t := 0) (lo := 0) (hi := 6) (nx := 22) (by decide +kernel) ?_
      intro v4 ev4 lv4 uv4
      have sv4 : v4 = (yM h) 37 86 := Eq.trans ev4 (Eq.trans (Eq.symm (yM_s (h := h) (i := 86) rfl)) (Eq.trans (congrFun (congrFun (rfl : yM h = yM h) 37) 86) rfl))
      refine zwif_ne (q := 27) (nx := 25) (by decide +kernel) (fun c5 => ?_) (fun c5 => ?_)
      · refine zwW_p [(1, 0, 2), (0, 0, 0)] (q := 29) (ls' := [(2, 37), (0, a), (9, 0), (9, 0)]) (st' := [(0, 0), (2, 37)]) (by decide +kernel) rfl ?_
        refine zwW_ps I (kd := 13) (bn := 87) (n := 97) (lo := 0) (hi := 6) (nx := 32) (by decide +kernel) (by first | decide | exact ⟨by decide, by decide⟩) ?_
        intro h6 eh6 Ih6
        have th6_37_1 : fld h6 37 1 = fld h 37 1 := by rw [eh6]; exact fld_wr (by decide)
        have th6_37_2 : fld h6 37 2 = fld h 37 2 := by rw [eh6]; exact fld_wr (by decide)
        have th6_37_64 : fld h6 37 64 = fld h 37 64 := by rw [eh6]; exact fld_wr (by decide)
        have th6_37_86 : fld h6 37 86 = fld h 37 86 := by rw [eh6]; exact fld_wr (by decide)
        have th6_37_87 : fld h6 37 87 = 0 := by rw [eh6]; exact fld_wr_eq (I.s (a1 := 37) (a2 := 37) (k := 13) (n := 97) (by decide +kernel) (by decide) (by decide)) (by decide)
        have th6_37_88 : fld h6 37 88 = fld h 37 88 := by rw [eh6]; exact fld_wr (by decide)
        have Vh6 : mRq q h6 := V.fr (zMR.one (a1 := 37) (a2 := 37) (j1 := 87) (j2 := 88) (by first | decide | exact ⟨by decide, by decide⟩) (by first | decide | exact ⟨by decide, by decide⟩) eh6) (by decide +kernel)
        have kh6_91 : fld h6 91 = (fld h 91) := (funext fun j => fld_oth eh6 (Or.inl (by decide))).trans (rfl : fld h 91 = fld h 91)
        have Zh6 : yM h6 = (yM h) := (yM_fr (ms := [(37, 37, 87, 88)]) (zMR.one (a1 := 37) (a2 := 37) (j1 := 87) (j2 := 88) (by first | decide | exact ⟨by decide, by decide⟩) (by first | decide | exact ⟨by decide, by decide⟩) eh6) (by decide +kernel) (I.b (a1 := 37) (a2 := 37) (j1 := 86) (j2 := 87) (lo := 0) (hi := 6) (by decide +kernel) (r := 37) (j := 86) (by decide) (by decide) (by decide) (by decide)).2).trans (rfl : yM h = yM h)
        have Rh6 : zMR ms148 h h6 := R.w (a1 := 37) (a2 := 37) (j1 := 87) (j2 := 88) (by decide +kernel) (by first | decide | exact ⟨by decide, by decide⟩) (by first | decide | exact ⟨by decide, by decide⟩) eh6
        have LM27 : mLm (yLc a 0) (yLh a 0) h6 := fun i hi => absurd hi (Nat.not_lt_zero _)
        refine zwW_p [(0, 0, 0), (2, 2, 0)] (q := 34) (ls' := [(2, 37), (0, a), (0, 0), (9, 0)]) (st' := []) (by decide +kernel) rfl ?_
        have L7 : ∀ (n0 : Nat) (vL7 : Int) (hL7 : Hp), n0 = ((100 - vL7)).toNat → ((0 ≤ vL7 ∧ vL7 ≤ 20) ∧ vL7 ≤ fld h 37 2 ∧ fld hL7 37 86 = fld h 37 86 ∧ fld hL7 37 2 = fld h 37 2 ∧ fld hL7 37 1 = fld h 37 1 ∧ fld hL7 37 64 = fld h 37 64) → (mLm (yLc a (vL7).toNat) (yLh a (vL7).toNat) hL7) → (yLc a (vL7).toNat ≤ 6 ∧ fld hL7 37 87 = ((yLc a (vL7).toNat : Nat) : Int)) → (mRq q hL7) → (fld hL7 91 = fld h 91) → (yM hL7 = (yM h)) → zI hL7 → zMR ms148 h hL7 → zwW sc (80) 148 34 [(2, 37), (0, a), (0, vL7), (9, 0)] [] hL7 (zwRt 0 (fun x g => zI g ∧ zMR ms148 h g ∧ ((x = 1 ∧ (yHok (yM h) a) ∧ (fld g 37 88 = yHh0 q (yM h) a ∧ fld g 37 89 = yHh1 q (yM h) a ∧ fld g 37 90 = (yHX q (yM h) a).1) ∧ (∀ j : Nat, (j : Int) < yM h 37 86 → fld g 190 j = (yHX q (yM h) a).2 j) ∧ (mLm (yHm (yM h) a) (yHh (yM h) a) g)) ∨ (x = 0 ∧ (¬ yHok (yM h) a))))) := by
          intro n0
          induction n0 using Nat.strongRecOn with
          | ind n0 IHL7 =>
            intro vL7 hL7 hnL7 iL7_0 iL7_1 iL7_2 iL7_3 iL7_4 iL7_5 IhL7 RhL7
            refine zwW_p [(1, 2, 0), (1, 0, 2)] (q := 36) (ls' := [(2, 37), (0, a), (0, vL7), (9, 0)]) (st' := [(2, 37), (0, vL7)]) (by decide +kernel) rfl ?_
            refine zwW_gs IhL7 (kd := 13) (bn := 2) (n := 97) (t := 0) (lo := 0) (hi := 20) (nx := 39) (by decide +kernel) ?_
            intro v8 ev8 lv8 uv8
            have sv8 : v8 = (yM h) 37 2 := Eq.trans ev8 (Eq.trans (Eq.symm (yM_s (h := hL7) (i := 2) rfl)) (Eq.trans (congrFun (congrFun iL7_5 37) 2) rfl))
            refine zwic_ge (q := 90) (nx := 42) (by decide +kernel) (fun c9 => ?_) (fun c9 => ?_)
            · have LM90 : mLm (yHm (yM h) a) (yHh (yM h) a) hL7 := by
                have z := iL7_1
                rw [show (vL7).toNat = (yM h 37 2).toNat by omega] at z
                exact z
              have HM87 : fld hL7 37 87 = ((yHm (yM h) a : Nat) : Int) := by rw [HMd, ← show (vL7).toNat = (yM h 37 2).toNat by omega]; omega
              have HM6 : yHm (yM h) a ≤ 6 := by rw [HMd, ← show (vL7).toNat = (yM h 37 2).toNat by omega]; omega
              have HM1 : 1 ≤ yHm (yM h) a ∨ yHm (yM h) a = 0 := by omega
              have BD := yHd_ok (q := q) (b := a) ok PF8 LF HA HM6
              have HMm : hm (yHd q (yM h) a) = yHm (yM h) a := rfl
              have HNn : hn (yHd q (yM h) a) = (yM h 37 86).toNat := rfl
              have OK : yHok (yM h) a := ⟨by omega, ⟨by omega, by rw [← S9]; omega⟩, yLc_1 (by omega) (by rw [← S9]; omega) (by omega), HM6⟩
              refine zwW_p [(0, 0, 0), (2, 2, 0)] (q := 92) (ls' := [(2, 37), (0, a), (0, 0), (9, 0)]) (st' := []) (by decide +kernel) rfl ?_
              have L10 : ∀ (n0 : Nat) (kL10 : Int) (w3L10 : Vl) (hL10 : Hp), n0 = ((100 - kL10)).toNat → ((0 ≤ kL10 ∧ kL10 ≤ 6) ∧ kL10 ≤ fld h 37 86) → (fld hL10 37 86 = fld h 37 86 ∧ fld hL10 37 2 = fld h 37 2 ∧ fld hL10 37 1 = fld h 37 1 ∧ fld hL10 37 64 = fld h 37 64 ∧ fld hL10 37 87 = ((yHm (yM h) a : Nat) : Int)) → (mRq q hL10) → (mLm (yHm (yM h) a) (yHh (yM h) a) hL10) → (mNd (yHd q (yM h) a) (kL10).toNat hL10) → (mRy (yHd q (yM h) a) (kL10).toNat 0 hL10) → (mRf (yHd q (yM h) a) (kL10).toNat 0 hL10) → (fld hL10 91 = fld h 91) → (yM hL10 = (yM h)) → zI hL10 → zMR ms148 h hL10 → zwW sc (80) 148 92 [(2, 37), (0, a), (0, kL10), w3L10] [] hL10 (zwRt 0 (fun x g => zI g ∧ zMR ms148 h g ∧ ((x = 1 ∧ (yHok (yM h) a) ∧ (fld g 37 88 = yHh0 q (yM h) a ∧ fld g 37 89 = yHh1 q (yM h) a ∧ fld g 37 90 = (yHX q (yM h) a).1) ∧ (∀ j : Nat, (j : Int) < yM h 37 86 → fld g 190 j = (yHX q (yM h) a).2 j) ∧ (mLm (yHm (yM h) a) (yHh (yM h) a) g)) ∨ (x = 0 ∧ (¬ yHok (yM h) a))))) := by
                intro n0
                induction n0 using Nat.strongRecOn with
                | ind n0 IHL10 =>
                  intro kL10 w3L10 hL10 hnL10 iL10_0 iL10_1 iL10_2 iL10_3 iL10_4 iL10_5 iL10_6 iL10_7 iL10_8 IhL10 RhL10
                  refine zwW_p [(1, 2, 0), (1, 0, 2)] (q := 94) (ls' := [(2, 37), (0, a), (0, kL10), w3L10]) (st' := [(2, 37), (0, kL10)]) (by decide +kernel) rfl ?_
                  refine zwW_gs IhL10 (kd := 13) (bn := 86) (n := 97) (t := 0) (lo := 0) (hi := 6) (nx := 97) (by decide +kernel) ?_
                  intro v11 ev11 lv11 uv11
                  have sv11 : v11 = (yM h) 37 86 := Eq.trans ev11 (Eq.trans (Eq.symm (yM_s (h := hL10) (i := 86) rfl)) (Eq.trans (congrFun (congrFun iL10_8 37) 86) rfl))
                  refine zwic_ge (q := 240) (nx := 100) (by decide +kernel) (fun c12 => ?_) (fun c12 => ?_)
                  · have HK240 : (kL10).toNat = hn (yHd q (yM h) a) := by omega
                    have ND240 := iL10_4
                    have RY240 := iL10_5
                    have RF240 := iL10_6
                    rw [HK240] at ND240 RY240 RF240
                    refine zwW_p [(1, 0, 2)] (q := 241) (ls' := [(2, 37), (0, a), (0, kL10), w3L10]) (st' := [(2, 37)]) (by decide +kernel) rfl ?_
                    refine zwW_p [(0, -1, 0)] (q := 242) (ls' := [(2, 37), (0, a), (0, kL10), w3L10]) (st' := [(0, -1), (2, 37)]) (by decide +kernel) rfl ?_
                    refine zwW_ps IhL10 (kd := 13) (bn := 88) (n := 97) (lo := -2147483648) (hi := 2147483647) (nx := 245) (by decide +kernel) (by first | decide | exact ⟨by decide, by decide⟩) ?_
                    intro h13 eh13 Ih13
                    have th13_37_1 : fld h13 37 1 = fld hL10 37 1 := by rw [eh13]; exact fld_wr (by decide)
                    have th13_37_2 : fld h13 37 2 = fld hL10 37 2 := by rw [eh13]; exact fld_wr (by decide)
                    have th13_37_64 : fld h13 37 64 = fld hL10 37 64 := by rw [eh13]; exact fld_wr (by decide)
                    have th13_37_86 : fld h13 37 86 = fld hL10 37 86 := by rw [eh13]; exact fld_wr (by decide)
                    have th13_37_87 : fld h13 37 87 = fld hL10 37 87 := by rw [eh13]; exact fld_wr (by decide)
                    have th13_37_88 : fld h13 37 88 = -1 := by rw [eh13]; exact fld_wr_eq (IhL10.s (a1 := 37) (a2 := 37) (k := 13) (n := 97) (by decide +kernel) (by decide) (by decide)) (by decide)
                    have Vh13 : mRq q h13 := iL10_2.fr (zMR.one (a1 := 37) (a2 := 37) (j1 := 88) (j2 := 89) (by first | decide | exact ⟨by decide, by decide⟩) (by first | decide | exact ⟨by decide, by decide⟩) eh13) (by decide +kernel)
                    have LMh13 := iL10_3.fr (zMR.one (a1 := 37) (a2 := 37) (j1 := 88) (j2 := 89) (by first | decide | exact ⟨by decide, by decide⟩) (by first | decide | exact ⟨by decide, by decide⟩) eh13) (by decide +kernel)
                    have NDh13 := ND240.fr (zMR.one (a1 := 37) (a2 := 37) (j1 := 88) (j2 := 89) (by first | decide | exact ⟨by decide, by decide⟩) (by first | decide | exact ⟨by decide, by decide⟩) eh13) (by decide +kernel)
                    have RYh13 := RY240.fr (zMR.one (a1 := 37) (a2 := 37) (j1 := 88) (j2 := 89) (by first | decide | exact ⟨by decide, by decide⟩) (by first | decide | exact ⟨by decide, by decide⟩) eh13) (by decide +kernel)
                    have RFh13 := RF240.fr (zMR.one (a1 := 37) (a2 := 37) (j1 := 88) (j2 := 89) (by first | decide | exact ⟨by decide, by decide⟩) (by first | decide | exact ⟨by decide, by decide⟩) eh13) (by decide +kernel)
                    have kh13_91 : fld h13 91 = (fld h 91) := (funext fun j => fld_oth eh13 (Or.inl (by decide))).trans iL10_7
                    have Zh13 : yM h13 = (yM h) := (yM_fr (ms := [(37, 37, 88, 89)]) (zMR.one (a1 := 37) (a2 := 37) (j1 := 88) (j2 := 89) (by first | decide | exact ⟨by decide, by decide⟩) (by first | decide | exact ⟨by decide, by decide⟩) eh13) (by decide +kernel) (IhL10.b (a1 := 37) (a2 := 37) (j1 := 86) (j2 := 87) (lo := 0) (hi := 6) (by decide +kernel) (r := 37) (j := 86) (by decide) (by decide) (by decide) (by decide)).2).trans iL10_8
                    have Rh13 : zMR ms148 h h13 := RhL10.w (a1 := 37) (a2 := 37) (j1 := 88) (j2 := 89) (by decide +kernel) (by first | decide | exact ⟨by decide, by decide⟩) (by first | decide | exact ⟨by decide, by decide⟩) eh13
                    refine zwW_p [(1, 0, 2)] (q := 246) (ls' := [(2, 37), (0, a), (0, kL10), w3L10]) (st' := [(2, 37)]) (by decide +kernel) rfl ?_
                    have X91 : fld h13 91 = fld h 91 := kh13_91
                    have HS246 : mHs (yHd q (yM h) a) (yHh (yM h) a) h13 := by
                      refine ⟨⟨by rw [HNn]; omega, by rw [HMm]; omega⟩, ⟨NDh13, LMh13⟩, fun i hi => ?_, RYh13, RFh13⟩
                      have u := yHh_b (S := yM h) (b := a) (i := i) hi
                      refine ⟨by omega, ?_⟩
                      rw [X91]
                      exact (yM_p (h := h) (a := 91) (n := 20) (i := yHh (yM h) a i) rfl (by omega)).symm
                    refine zwW_p [(0, 0, 0)] (q := 247) (ls' := [(2, 37), (0, a), (0, kL10), w3L10]) (st' := [(0, 0), (2, 37)]) (by decide +kernel) rfl ?_
                    refine zwW_cmv Ih13 (op := 60) (k' := 213) (n := 1) (kd := 13) (m := 97) (nx := 250) (r := 37) (tl := [(0, 0)]) (st' := []) (by decide +kernel) rfl (by decide +kernel) rfl (zth_tries sc h13 Ih13 (yHd q (yM h) a) (yHh (yM h) a) (fun _ => 0) (-1, fld h13 37 89, fld h13 37 90, fun j => fld h13 190 j) 0 (hn (yHd q (yM h) a)) BD (fun i hi => BR _ (by have := yHh_b (S := yM h) (b := a) hi; omega)) HS246 rfl (by omega) (fun j hj => absurd hj (Nat.not_lt_zero _)) (fun j hj => absurd hj (Nat.not_lt_zero _)) ⟨⟨by show fld h13 37 88 = -1; omega, rfl, rfl⟩, fun j _ => rfl⟩) ?_
                    rintro h16 ⟨Ih16, Qh16, f14, f15⟩
                    have Rh16 : zMR ms148 h h16 := Rh13.tr Qh16 (by decide +kernel)
                    have Vh16 : mRq q h16 := Vh13.fr Qh16 (by decide +kernel)
                    have LMh16 := LMh13.fr Qh16 (by decide +kernel)
                    have NDh16 := NDh13.fr Qh16 (by decide +kernel)
                    have RYh16 := RYh13.fr Qh16 (by decide +kernel)
                    have RFh16 := RFh13.fr Qh16 (by decide +kernel)
                    have th16_37_1 : fld h16 37 1 = fld h13 37 1 := Qh16.f (a1 := 37) (a2 := 37) (j1 := 1) (j2 := 2) (by decide +kernel) (by first | decide | exact ⟨by decide, by decide⟩) (by first | decide | exact ⟨by decide, by decide⟩)
                    have th16_37_2 : fld h16 37 2 = fld h13 37 2 := Qh16.f (a1 := 37) (a2 := 37) (j1 := 2) (j2 := 3) (by decide +kernel) (by first | decide | exact ⟨by decide, by decide⟩) (by first | decide | exact ⟨by decide, by decide⟩)
                    have th16_37_64 : fld h16 37 64 = fld h13 37 64 := Qh16.f (a1 := 37) (a2 := 37) (j1 := 64) (j2 := 65) (by decide +kernel) (by first | decide | exact ⟨by decide, by decide⟩) (by first | decide | exact ⟨by decide, by decide⟩)
                    have th16_37_86 : fld h16 37 86 = fld h13 37 86 := Qh16.f (a1 := 37) (a2 := 37) (j1 := 86) (j2 := 87) (by decide +kernel) (by first | decide | exact ⟨by decide, by decide⟩) (by first | decide | exact ⟨by decide, by decide⟩)
                    have th16_37_87 : fld h16 37 87 = fld h13 37 87 := Qh16.f (a1 := 37) (a2 := 37) (j1 := 87) (j2 := 88) (by decide +kernel) (by first | decide | exact ⟨by decide, by decide⟩) (by first | decide | exact ⟨by decide, by decide⟩)
                    have kh16_91 : fld h16 91 = (fld h 91) := (Qh16.fa (a := 91) (by decide +kernel) rfl).trans kh13_91
                    have Zh16 : yM h16 = (yM h) := (yM_fr Qh16 (by decide +kernel) (Ih13.b (a1 := 37) (a2 := 37) (j1 := 86) (j2 := 87) (lo := 0) (hi := 6) (by decide +kernel) (r := 37) (j := 86) (by decide) (by decide) (by decide) (by decide)).2).trans Zh13
                    have R250 := hRes (hB_ch BD) BD (t := (-1, fld h13 37 89, fld h13 37 90, fun j => fld h13 190 j)) (l0 := fun _ => 0) (l1 := fun _ => 0) (g0 := fun _ => 0) rfl (fun _ _ => rfl)
                    have HU : ∀ i, i < hm (yHd q (yM h) a) → hc (yHd q (yM h) a) i ≤ 1000 := fun i hi => BR _ (by have := yHh_b (S := yM h) (b := a) hi; omega)
                    refine zwW_p [(0, 1, 0)] (q := 251) (ls' := [(2, 37), (0, a), (0, kL10), w3L10]) (st' := [(0, 1)]) (by decide +kernel) rfl ?_
                    refine zwW_ret (nx := 252) (a := 1) (b := 0) (by decide +kernel) rfl (Or.inr (Or.inl ⟨rfl, Or.inr rfl⟩)) ?_
                    exact ⟨Ih16, Rh16, Or.inl ⟨rfl, by exact OK, by exact ⟨f14.1.1.trans R250.1.1, f14.1.2.1.trans R250.1.2.1, f14.1.2.2.trans R250.1.2.2⟩, by exact fun j hj => (f14.2 j (by omega)).trans (R250.2 j (by omega)), by exact LMh16⟩⟩
                  · have HAK := HA.2 (kL10).toNat (by omega)
                    have KL := ok.lo (l := yHl (yM h) (kL10).toNat) (by unfold yHl; omega)
                    have KS := ok.ho (k := (yM h 170 (yHl (yM h) (kL10).toNat)).toNat) (by omega)
                    have LFK := LF (yHl (yM h) (kL10).toNat) (by unfold yHl; omega)
                    have NNK := yHN_b LF HA (k := (kL10).toNat) (by omega)
                    refine zwW_p [(1, 0, 2)] (q := 101) (ls' := [(2, 37), (0, a), (0, kL10), w3L10]) (st' := [(2, 37)]) (by decide +kernel) rfl ?_
                    refine zwW_gc IhL10 (kd := 13) (bn := 80) (n := 97) (c := 187) (nx := 104) (by decide +kernel) ?_
                    refine zwW_p [(1, 2, 0), (1, 0, 2)] (q := 106) (ls' := [(2, 37), (0, a), (0, kL10), w3L10]) (st' := [(2, 37), (0, kL10), (2, 187)]) (by decide +kernel) rfl ?_
                    refine zwW_gc IhL10 (kd := 13) (bn := 63) (n := 97) (c := 175) (nx := 109) (by decide +kernel) ?_
                    refine zwW_p [(1, 0, 2)] (q := 110) (ls' := [(2, 37), (0, a), (0, kL10), w3L10]) (st' := [(2, 37), (2, 175), (0, kL10), (2, 187)]) (by decide +kernel) rfl ?_
                    refine zwW_gc IhL10 (kd := 13) (bn := 79) (n := 97) (c := 186) (nx := 113) (by decide +kernel) ?_
                    refine zwW_p [(1, 2, 0)] (q := 114) (ls' := [(2, 37), (0, a), (0, kL10), w3L10]) (st' := [(0, kL10), (2, 186), (2, 175), (0, kL10), (2, 187)]) (by decide +kernel) rfl ?_
                    have ib1 : 0 ≤ kL10 ∧ kL10 < ((6 : Nat) : Int) := (by first | omega | exact ⟨by omega, by omega⟩)
                    refine zwW_al IhL10 (a1 := 186) (a2 := 186) (kd := 20) (n := 6) (t := 0) (lo := 0) (hi := 299) (nx := 115) (by decide +kernel) (by first | decide | exact ⟨by decide, by decide⟩) ib1 ?_
                    intro v17 ev17 lv17 uv17
                    have A115 : v17 = yM h 186 (kL10).toNat := ev17.trans ((yM_a (by omega)).trans (congrFun (congrFun iL10_8 186) _))
                    have ib2 : 0 ≤ v17 ∧ v17 < ((300 : Nat) : Int) := (by first | omega | exact ⟨by omega, by omega⟩)
                    refine zwW_al IhL10 (a1 := 175) (a2 := 175) (kd := 20) (n := 300) (t := 0) (lo := -2147483648) (hi := 2147483647) (nx := 116) (by decide +kernel) (by first | decide | exact ⟨by decide, by decide⟩) ib2 ?_
                    intro v18 ev18 lv18 uv18
                    have sv18 : v18 = (yM h) 175 v17.toNat := Eq.trans ev18 (Eq.trans (Eq.symm (yM_p (h := hL10) (a := 175) (n := 300) (i := v17.toNat) rfl (zit ib2))) (Eq.trans (congrFun (congrFun iL10_8 175) v17.toNat) rfl))
                    have W116 : v18 = yM h 175 (yHl (yM h) (kL10).toNat) := by rw [sv18, A115]; first | done | rfl
                    refine zwW_p [(1, 0, 2)] (q := 117) (ls' := [(2, 37), (0, a), (0, kL10), w3L10]) (st' := [(2, 37), (0, v18), (0, kL10), (2, 187)]) (by decide +kernel) rfl ?_
                    refine zwW_gc IhL10 (kd := 13) (bn := 63) (n := 97) (c := 175) (nx := 120) (by decide +kernel) ?_
                    refine zwW_p [(1, 0, 2)] (q := 121) (ls' := [(2, 37), (0, a), (0, kL10), w3L10]) (st' := [(2, 37), (2, 175), (0, v18), (0, kL10), (2, 187)]) (by decide +kernel) rfl ?_
                    refine zwW_gc IhL10 (kd := 13) (bn := 79) (n := 97) (c := 186) (nx := 124) (by decide +kernel) ?_
                    refine zwW_p [(1, 2, 0)] (q := 125) (ls' := [(2, 37), (0, a), (0, kL10), w3L10]) (st' := [(0, kL10), (2, 186), (2, 175), (0, v18), (0, kL10), (2, 187)]) (by decide +kernel) rfl ?_
                    refine zwW_al IhL10 (a1 := 186) (a2 := 186) (kd := 20) (n := 6) (t := 0) (lo := 0) (hi := 299) (nx := 126) (by decide +kernel) (by first | decide | exact ⟨by decide, by decide⟩) ib1 ?_
                    intro v19 ev19 lv19 uv19
                    have A126 : v19 = yM h 186 (kL10).toNat := ev19.trans ((yM_a (by omega)).trans (congrFun (congrFun iL10_8 186) _))
                    have ib3 : 0 ≤ v19 ∧ v19 < ((300 : Nat) : Int) := (by first | omega | exact ⟨by omega, by omega⟩)
                    refine zwW_al IhL10 (a1 := 175) (a2 := 175) (kd := 20) (n := 300) (t := 0) (lo := -2147483648) (hi := 2147483647) (nx := 127) (by decide +kernel) (by first | decide | exact ⟨by decide, by decide⟩) ib3 ?_
                    intro v20 ev20 lv20 uv20
                    have sv20 : v20 = (yM h) 175 v19.toNat := Eq.trans ev20 (Eq.trans (Eq.symm (yM_p (h := hL10) (a := 175) (n := 300) (i := v19.toNat) rfl (zit ib3))) (Eq.trans (congrFun (congrFun iL10_8 175) v19.toNat) rfl))
                    have W127 : v20 = yM h 175 (yHl (yM h) (kL10).toNat) := by rw [sv20, A126]; first | done | rfl
                    refine zwW_p [(0, 2, 0)] (q := 128) (ls' := [(2, 37), (0, a), (0, kL10), w3L10]) (st' := [(0, 2), (0, v20), (0, v18), (0, kL10), (2, 187)]) (by decide +kernel) rfl ?_
                    refine zwW_rem (nx := 129) (by decide +kernel) (by omega) (by omega) ?_
                    refine zwW_sub (nx := 130) (by decide +kernel) (by first | omega | exact ⟨by omega, by omega⟩) ?_
                    have HN130 : (v18 - (v20 % 2)) = yHN (yM h) (kL10).toNat := by
                      unfold yHN
                      omega
                    refine zwW_as IhL10 (a1 := 187) (a2 := 187) (n := 6) (lo := -2147483648) (hi := 2147483647) (nx := 131) (by decide +kernel) (by first | decide | exact ⟨by decide, by decide⟩) ib1 (by first | omega | exact ⟨by omega, by omega⟩) ?_
                    intro h21 eh21 Ih21
                    have jbh21 : 0 ≤ kL10.toNat ∧ kL10.toNat < 6 := ⟨Nat.zero_le _, zit ib1⟩
                    have th21_37_1 : fld h21 37 1 = fld hL10 37 1 := by rw [eh21]; exact fld_wr (Or.inl (by decide))
                    have th21_37_2 : fld h21 37 2 = fld hL10 37 2 := by rw [eh21]; exact fld_wr (Or.inl (by decide))
                    have th21_37_64 : fld h21 37 64 = fld hL10 37 64 := by rw [eh21]; exact fld_wr (Or.inl (by decide))
                    have th21_37_86 : fld h21 37 86 = fld hL10 37 86 := by rw [eh21]; exact fld_wr (Or.inl (by decide))
                    have th21_37_87 : fld h21 37 87 = fld hL10 37 87 := by rw [eh21]; exact fld_wr (Or.inl (by decide))
                    have th21_37_88 : fld h21 37 88 = fld hL10 37 88 := by rw [eh21]; exact fld_wr (Or.inl (by decide))
                    have E130 := eh21
                    have S130 := IhL10.s (r := 187) (a1 := 187) (a2 := 187) (k := 20) (n := 6) (by decide +kernel) (by decide) (by decide)
                    have Vh21 : mRq q h21 := iL10_2.fr (zMR.one (a1 := 187) (a2 := 187) (j1 := 0) (j2 := 6) (by first | decide | exact ⟨by decide, by decide⟩) jbh21 eh21) (by decide +kernel)
                    have LMh21 := iL10_3.fr (zMR.one (a1 := 187) (a2 := 187) (j1 := 0) (j2 := 6) (by first | decide | exact ⟨by decide, by decide⟩) jbh21 eh21) (by decide +kernel)
                    have RYh21 := iL10_5.fr (zMR.one (a1 := 187) (a2 := 187) (j1 := 0) (j2 := 6) (by first | decide | exact ⟨by decide, by decide⟩) jbh21 eh21) (by decide +kernel)
                    have RFh21 := iL10_6.fr (zMR.one (a1 := 187) (a2 := 187) (j1 := 0) (j2 := 6) (by first | decide | exact ⟨by decide, by decide⟩) jbh21 eh21) (by decide +kernel)
                    have kh21_91 : fld h21 91 = (fld h 91) := (funext fun j => fld_oth eh21 (Or.inl (by decide))).trans iL10_7
                    have Zh21 : yM h21 = (yM h) := (yM_fr (ms := [(187, 187, 0, 6)]) (zMR.one (a1 := 187) (a2 := 187) (j1 := 0) (j2 := 6) (by first | decide | exact ⟨by decide, by decide⟩) jbh21 eh21) (by decide +kernel) (IhL10.b (a1 := 37) (a2 := 37) (j1 := 86) (j2 := 87) (lo := 0) (hi := 6) (by decide +kernel) (r := 37) (j := 86) (by decide) (by decide) (by decide) (by decide)).2).trans iL10_8
                    have Rh21 : zMR ms148 h h21 := RhL10.w (a1 := 187) (a2 := 187) (j1 := 0) (j2 := 6) (by decide +kernel) (by first | decide | exact ⟨by decide, by decide⟩) jbh21 eh21
                    have ND131 : mNd (yHd q (yM h) a) ((kL10).toNat + 1) h21 := iL10_4.sx E130 rfl (by omega) S130 HN130
                    refine zwW_p [(0, 0, 0), (2, 3, 0)] (q := 133) (ls' := [(2, 37), (0, a), (0, kL10), (0, 0)]) (st' := []) (by decide +kernel) rfl ?_
                    have L22 : ∀ (n0 : Nat) (iL22 : Int) (hL22 : Hp), n0 = ((100 - iL22)).toNat → ((0 ≤ iL22 ∧ iL22 ≤ 6) ∧ iL22 ≤ yHm (yM h) a) → (fld hL22 37 86 = fld h 37 86 ∧ fld hL22 37 2 = fld h 37 2 ∧ fld hL22 37 1 = fld h 37 1 ∧ fld hL22 37 64 = fld h 37 64 ∧ fld hL22 37 87 = ((yHm (yM h) a : Nat) : Int)) → (mRq q hL22) → (mLm (yHm (yM h) a) (yHh (yM h) a) hL22) → (mNd (yHd q (yM h) a) ((kL10).toNat + 1) hL22) → (mRy (yHd q (yM h) a) (kL10).toNat (iL22).toNat hL22) → (mRf (yHd q (yM h) a) (kL10).toNat (iL22).toNat hL22) → (fld hL22 91 = fld h 91) → (yM hL22 = (yM h)) → zI hL22 → zMR ms148 h hL22 → zwW sc (80) 148 133 [(2, 37), (0, a), (0, kL10), (0, iL22)] [] hL22 (zwRt 0 (fun x g => zI g ∧ zMR ms148 h g ∧ ((x = 1 ∧ (yHok (yM h) a) ∧ (fld g 37 88 = yHh0 q (yM h) a ∧ fld g 37 89 = yHh1 q (yM h) a ∧ fld g 37 90 = (yHX q (yM h) a).1) ∧ (∀ j : Nat, (j : Int) < yM h 37 86 → fld g 190 j = (yHX q (yM h) a).2 j) ∧ (mLm (yHm (yM h) a) (yHh (yM h) a) g)) ∨ (x = 0 ∧ (¬ yHok (yM h) a))))) := by
                      intro n0
                      induction n0 using Nat.strongRecOn with
                      | ind n0 IHL22 =>
                        intro iL22 hL22 hnL22 iL22_0 iL22_1 iL22_2 iL22_3 iL22_4 iL22_5 iL22_6 iL22_7 iL22_8 IhL22 RhL22
                        refine zwW_p [(1, 3, 0), (1, 0, 2)] (q := 135) (ls' := [(2, 37), (0, a), (0, kL10), (0, iL22)]) (st' := [(2, 37), (0, iL22)]) (by decide +kernel) rfl ?_
                        refine zwW_gs IhL22 (kd := 13) (bn := 87) (n := 97) (t := 0) (lo := 0) (hi := 6) (nx := 138) (by decide +kernel) ?_
                        intro v23 ev23 lv23 uv23
                        refine zwic_ge (q := 234) (nx := 141) (by decide +kernel) (fun c24 => ?_) (fun c24 => ?_)
                        · have RY234 := iL22_5
                          have RF234 := iL22_6
                          rw [show (iL22).toNat = hm (yHd q (yM h) a) by omega] at RY234 RF234
                          refine zwW_inc (i := 2) (c := 1) (x := kL10) (nx := 237) (by decide +kernel) rfl (by first | omega | exact ⟨by omega, by omega⟩) (ls' := [(2, 37), (0, a), (0, (kL10 + 1)), (0, iL22)]) rfl ?_
                          refine zwW_p [(24, 92, 0)] (q := 92) (ls' := [(2, 37), (0, a), (0, (kL10 + 1)), (0, iL22)]) (st' := []) (by decide +kernel) rfl ?_
                          exact IHL10 ((100 - (kL10 + 1))).toNat (by omega) (kL10 + 1) (0, iL22) hL22 rfl (by omega) (by omega) (iL22_2) (iL22_3) (by rw [show (kL10 + 1).toNat = (kL10).toNat + 1 by omega]; exact iL22_4) (by rw [show (kL10 + 1).toNat = (kL10).toNat + 1 by omega]; exact RY234.nx) (by rw [show (kL10 + 1).toNat = (kL10).toNat + 1 by omega]; exact RF234.nx) (iL22_7) (iL22_8) IhL22 RhL22
                        · have XH := yHh_b (S := yM h) (b := a) (i := (iL22).toNat) (by omega)
                          have KH := ok.ho (k := yHh (yM h) a (iL22).toNat) (by omega)
                          refine zwW_p [(1, 0, 2)] (q := 142) (ls' := [(2, 37), (0, a), (0, kL10), (0, iL22)]) (st' := [(2, 37)]) (by decide +kernel) rfl ?_
                          refine zwW_gc IhL22 (kd := 13) (bn := 84) (n := 97) (c := 191) (nx := 145) (by decide +kernel) ?_
                          refine zwW_p [(1, 2, 0)] (q := 146) (ls' := [(2, 37), (0, a), (0, kL10), (0, iL22)]) (st' := [(0, kL10), (2, 191)]) (by decide +kernel) rfl ?_
                          refine zwW_ro IhL22 (a := 191) (n := 6) (kd := 29) (base := 192) (step := 1) (nx := 147) (by decide +kernel) rfl (by first | omega | exact ⟨by omega, by omega⟩) ?_
                          rw [show ((192 : Nat) : Int) + ((1 : Nat) : Int) * kL10 = (192 + kL10) by omega]
                          refine zwW_p [(1, 3, 0), (1, 0, 2)] (q := 149) (ls' := [(2, 37), (0, a), (0, kL10), (0, iL22)]) (st' := [(2, 37), (0, iL22), (2, (192 + kL10))]) (by decide +kernel) rfl ?_
                          refine zwW_gc IhL22 (kd := 13) (bn := 80) (n := 97) (c := 187) (nx := 152) (by decide +kernel) ?_
                          refine zwW_p [(1, 2, 0)] (q := 153) (ls' := [(2, 37), (0, a), (0, kL10), (0, iL22)]) (st' := [(0, kL10), (2, 187), (0, iL22), (2, (192 + kL10))]) (by decide +kernel) rfl ?_
                          refine zwW_al IhL22 (a1 := 187) (a2 := 187) (kd := 20) (n := 6) (t := 0) (lo := -2147483648) (hi := 2147483647) (nx := 154) (by decide +kernel) (by first | decide | exact ⟨by decide, by decide⟩) ib1 ?_
                          intro v25 ev25 lv25 uv25
                          have M154 : v25 = yHN (yM h) (kL10).toNat := ev25.trans (iL22_4 (kL10).toNat (by omega))
                          refine zwW_p [(0, 2, 0)] (q := 155) (ls' := [(2, 37), (0, a), (0, kL10), (0, iL22)]) (st' := [(0, 2), (0, v25), (0, iL22), (2, (192 + kL10))]) (by decide +kernel) rfl ?_
                          refine zwic_lt (q := 187) (nx := 158) (by decide +kernel) (fun c26 => ?_) (fun c26 => ?_)
                          · refine zwW_p [(0, 0, 0)] (q := 188) (ls' := [(2, 37), (0, a), (0, kL10), (0, iL22)]) (st' := [(0, 0), (0, iL22), (2, (192 + kL10))]) (by decide +kernel) rfl ?_
                            have ib4 : 0 ≤ iL22 ∧ iL22 < ((6 : Nat) : Int) := (by first | omega | exact ⟨by omega, by omega⟩)
                            refine zwW_asz IhL22 (a1 := 192) (a2 := 197) (n := 6) (nx := 189) (by decide +kernel) (by first | omega | exact ⟨by omega, by omega⟩) ib4 (by omega) ?_
                            intro h27 eh27 Ih27
                            have rbh27 : ((192 : Nat) : Int) ≤ (192 + kL10) ∧ (192 + kL10) ≤ ((197 : Nat) : Int) := (by first | omega | exact ⟨by omega, by omega⟩)
                            have jbh27 : 0 ≤ iL22.toNat ∧ iL22.toNat < 6 := ⟨Nat.zero_le _, zit ib4⟩
                            have th27_37_1 : fld h27 37 1 = fld hL22 37 1 := by rw [eh27]; exact fld_wr (Or.inl (zne_l (by decide) rbh27.1))
                            have th27_37_2 : fld h27 37 2 = fld hL22 37 2 := by rw [eh27]; exact fld_wr (Or.inl (zne_l (by decide) rbh27.1))
                            have th27_37_64 : fld h27 37 64 = fld hL22 37 64 := by rw [eh27]; exact fld_wr (Or.inl (zne_l (by decide) rbh27.1))
                            have th27_37_86 : fld h27 37 86 = fld hL22 37 86 := by rw [eh27]; exact fld_wr (Or.inl (zne_l (by decide) rbh27.1))
                            have th27_37_87 : fld h27 37 87 = fld hL22 37 87 := by rw [eh27]; exact fld_wr (Or.inl (zne_l (by decide) rbh27.1))
                            have th27_37_88 : fld h27 37 88 = fld hL22 37 88 := by rw [eh27]; exact fld_wr (Or.inl (zne_l (by decide) rbh27.1))
                            have E188 := eh27
                            have S188 := IhL22.s (r := (192 + kL10)) (a1 := 192) (a2 := 197) (k := 22) (n := 6) (by decide +kernel) (by omega) (by omega)
                            have Vh27 : mRq q h27 := iL22_2.fr (zMR.one (a1 := 192) (a2 := 197) (j1 := 0) (j2 := 6) rbh27 jbh27 eh27) (by decide +kernel)
                            have LMh27 := iL22_3.fr (zMR.one (a1 := 192) (a2 := 197) (j1 := 0) (j2 := 6) rbh27 jbh27 eh27) (by decide +kernel)
                            have NDh27 := iL22_4.fr (zMR.one (a1 := 192) (a2 := 197) (j1 := 0) (j2 := 6) rbh27 jbh27 eh27) (by decide +kernel)
                            have RFh27 := iL22_6.fr (zMR.one (a1 := 192) (a2 := 197) (j1 := 0) (j2 := 6) rbh27 jbh27 eh27) (by decide +kernel)
                            have kh27_91 : fld h27 91 = (fld h 91) := (funext fun j => fld_oth eh27 (Or.inl (zne_l (by decide) rbh27.1))).trans iL22_7
                            have Zh27 : yM h27 = (yM h) := (yM_fr (ms := [(192, 197, 0, 6)]) (zMR.one (a1 := 192) (a2 := 197) (j1 := 0) (j2 := 6) rbh27 jbh27 eh27) (by decide +kernel) (IhL22.b (a1 := 37) (a2 := 37) (j1 := 86) (j2 := 87) (lo := 0) (hi := 6) (by decide +kernel) (r := 37) (j := 86) (by decide) (by decide) (by decide) (by decide)).2).trans iL22_8
                            have Rh27 : zMR ms148 h h27 := RhL22.w (a1 := 192) (a2 := 197) (j1 := 0) (j2 := 6) (by decide +kernel) rbh27 jbh27 eh27
                            have RY189 : mRy (yHd q (yM h) a) (kL10).toNat ((iL22).toNat + 1) h27 := iL22_5.wx E188 (by omega) rfl (by omega) S188 (by show _ = (if 2 ≤ yHN (yM h) (kL10).toNat ∧ yLbar q (yM h) (yHh (yM h) a (iL22).toNat) (yHl (yM h) (kL10).toNat) (yHN (yM h) (kL10).toNat) = 0 then (1 : Int) else 0); first | (rw [if_pos ⟨by omega, by omega⟩]; done) | (rw [if_neg (by omega)]; done))
                            refine zwW_p [(1, 0, 2)] (q := 190) (ls' := [(2, 37), (0, a), (0, kL10), (0, iL22)]) (st' := [(2, 37)]) (by decide +kernel) rfl ?_
                            refine zwW_gc Ih27 (kd := 13) (bn := 85) (n := 97) (c := 198) (nx := 193) (by decide +kernel) ?_
                            refine zwW_p [(1, 2, 0)] (q := 194) (ls' := [(2, 37), (0, a), (0, kL10), (0, iL22)]) (st' := [(0, kL10), (2, 198)]) (by decide +kernel) rfl ?_
                            refine zwW_ro Ih27 (a := 198) (n := 6) (kd := 26) (base := 199) (step := 1) (nx := 195) (by decide +kernel) rfl (by first | omega | exact ⟨by omega, by omega⟩) ?_
                            rw [show ((199 : Nat) : Int) + ((1 : Nat) : Int) * kL10 = (199 + kL10) by omega]
                            refine zwW_p [(1, 3, 0), (1, 0, 2), (1, 0, 2)] (q := 198) (ls' := [(2, 37), (0, a), (0, kL10), (0, iL22)]) (st' := [(2, 37), (2, 37), (0, iL22), (2, (199 + kL10))]) (by decide +kernel) rfl ?_
                            refine zwW_gc Ih27 (kd := 13) (bn := 20) (n := 97) (c := 79) (nx := 201) (by decide +kernel) ?_
                            refine zwW_p [(1, 0, 2)] (q := 202) (ls' := [(2, 37), (0, a), (0, kL10), (0, iL22)]) (st' := [(2, 37), (2, 79), (2, 37), (0, iL22), (2, (199 + kL10))]) (by decide +kernel) rfl ?_
                            refine zwW_gc Ih27 (kd := 13) (bn := 58) (n := 97) (c := 170) (nx := 205) (by decide +kernel) ?_
                            refine zwW_p [(1, 0, 2)] (q := 206) (ls' := [(2, 37), (0, a), (0, kL10), (0, iL22)]) (st' := [(2, 37), (2, 170), (2, 79), (2, 37), (0, iL22), (2, (199 + kL10))]) (by decide +kernel) rfl ?_
                            refine zwW_gc Ih27 (kd := 13) (bn := 79) (n := 97) (c := 186) (nx := 209) (by decide +kernel) ?_
                            refine zwW_p [(1, 2, 0)] (q := 210) (ls' := [(2, 37), (0, a), (0, kL10), (0, iL22)]) (st' := [(0, kL10), (2, 186), (2, 170), (2, 79), (2, 37), (0, iL22), (2, (199 + kL10))]) (by decide +kernel) rfl ?_
                            refine zwW_al Ih27 (a1 := 186) (a2 := 186) (kd := 20) (n := 6) (t := 0) (lo := 0) (hi := 299) (nx := 211) (by decide +kernel) (by first | decide | exact ⟨by decide, by decide⟩) ib1 ?_
                            intro v28 ev28 lv28 uv28
                            have A211 : v28 = yM h 186 (kL10).toNat := ev28.trans ((yM_a (by omega)).trans (congrFun (congrFun Zh27 186) _))
                            have ib5 : 0 ≤ v28 ∧ v28 < ((300 : Nat) : Int) := (by first | omega | exact ⟨by omega, by omega⟩)
                            refine zwW_al Ih27 (a1 := 170) (a2 := 170) (kd := 20) (n := 300) (t := 0) (lo := 0) (hi := 19) (nx := 212) (by decide +kernel) (by first | decide | exact ⟨by decide, by decide⟩) ib5 ?_
                            intro v29 ev29 lv29 uv29
                            have sv29 : v29 = (yM h) 170 v28.toNat := Eq.trans ev29 (Eq.trans (Eq.symm (yM_p (h := h27) (a := 170) (n := 300) (i := v28.toNat) rfl (zit ib5))) (Eq.trans (congrFun (congrFun Zh27 170) v28.toNat) rfl))
                            have ib6 : 0 ≤ v29 ∧ v29 < ((20 : Nat) : Int) := (by first | omega | exact ⟨by omega, by omega⟩)
                            refine zwW_al Ih27 (a1 := 79) (a2 := 79) (kd := 20) (n := 20) (t := 0) (lo := 0) (hi := 7) (nx := 213) (by decide +kernel) (by first | decide | exact ⟨by decide, by decide⟩) ib6 ?_
                            intro v30 ev30 lv30 uv30
                            have sv30 : v30 = (yM h) 79 (((yM h) 170 v28.toNat).toNat) := Eq.trans ev30 (Eq.trans (Eq.symm (yM_p (h := h27) (a := 79) (n := 20) (i := v29.toNat) rfl (zit ib6))) (Eq.trans (congrArg (yM h27 79) (show v29.toNat = ((yM h) 170 v28.toNat).toNat by rw [sv29])) (Eq.trans (congrFun (congrFun Zh27 79) (((yM h) 170 v28.toNat).toNat)) rfl)))
                            refine zwW_p [(1, 0, 2)] (q := 214) (ls' := [(2, 37), (0, a), (0, kL10), (0, iL22)]) (st' := [(2, 37), (0, v30), (2, 37), (0, iL22), (2, (199 + kL10))]) (by decide +kernel) rfl ?_
                            refine zwW_gc Ih27 (kd := 13) (bn := 20) (n := 97) (c := 79) (nx := 217) (by decide +kernel) ?_
                            refine zwW_p [(1, 0, 2)] (q := 218) (ls' := [(2, 37), (0, a), (0, kL10), (0, iL22)]) (st' := [(2, 37), (2, 79), (0, v30), (2, 37), (0, iL22), (2, (199 + kL10))]) (by decide +kernel) rfl ?_
                            refine zwW_gc Ih27 (kd := 13) (bn := 81) (n := 97) (c := 188) (nx := 221) (by decide +kernel) ?_
                            refine zwW_p [(1, 3, 0)] (q := 222) (ls' := [(2, 37), (0, a), (0, kL10), (0, iL22)]) (st' := [(0, iL22), (2, 188), (2, 79), (0, v30), (2, 37), (0, iL22), (2, (199 + kL10))]) (by decide +kernel) rfl ?_
                            refine zwW_al Ih27 (a1 := 188) (a2 := 188) (kd := 20) (n := 6) (t := 0) (lo := 0) (hi := 19) (nx := 223) (by decide +kernel) (by first | decide | exact ⟨by decide, by decide⟩) ib4 ?_
                            intro v31 ev31 lv31 uv31
                            have X222 : v31 = ((yHh (yM h) a (iL22).toNat : Nat) : Int) := ev31.trans (LMh27 (iL22).toNat (by omega))
                            have ib7 : 0 ≤ v31 ∧ v31 < ((20 : Nat) : Int) := (by first | omega | exact ⟨by omega, by omega⟩)
                            refine zwW_al Ih27 (a1 := 79) (a2 := 79) (kd := 20) (n := 20) (t := 0) (lo := 0) (hi := 7) (nx := 224) (by decide +kernel) (by first | decide | exact ⟨by decide, by decide⟩) ib7 ?_
                            intro v32 ev32 lv32 uv32
                            have sv32 : v32 = (yM h) 79 v31.toNat := Eq.trans ev32 (Eq.trans (Eq.symm (yM_p (h := h27) (a := 79) (n := 20) (i := v31.toNat) rfl (zit ib7))) (Eq.trans (congrFun (congrFun Zh27 79) v31.toNat) rfl))
                            have Z224 := Zh27
                            have VA224 : v30 = yM h 79 (yM h 170 (yHl (yM h) (kL10).toNat)).toNat := by rw [sv30, A211]; first | done | rfl
                            have VB224 : v32 = yM h 79 (yHh (yM h) a (iL22).toNat) := by rw [sv32, X222]; first | done | rfl
                            refine zwW_cm Ih27 (op := 60) (k' := 106) (n := 2) (kd := 13) (m := 97) (nx := 227) (r := 37) (tl := [(0, v30), (0, v32)]) (st' := [(0, iL22), (2, (199 + kL10))]) (by decide +kernel) rfl (by decide +kernel) rfl (m106_f h27 Ih27 v30 v32 (by omega) (by omega) (hR.mr Rh27 (by decide +kernel) (by omega)) (by first | omega | exact ⟨by omega, by omega⟩) (by omega)) ?_
                            rintro v33 h38 ⟨Ih38, Qh38, f34, f35, f36, f37⟩
                            have Rh38 : zMR ms148 h h38 := Rh27.tr Qh38 (by decide +kernel)
                            have Vh38 : mRq q h38 := Vh27.fr Qh38 (by decide +kernel)
                            have LMh38 := LMh27.fr Qh38 (by decide +kernel)
                            have NDh38 := NDh27.fr Qh38 (by decide +kernel)
                            have RYh38 := RY189.fr Qh38 (by decide +kernel)
                            have RFh38 := RFh27.fr Qh38 (by decide +kernel)
                            have th38_37_1 : fld h38 37 1 = fld h27 37 1 := Qh38.f (a1 := 37) (a2 := 37) (j1 := 1) (j2 := 2) (by decide +kernel) (by first | decide | exact ⟨by decide, by decide⟩) (by first | decide | exact ⟨by decide, by decide⟩)
                            have th38_37_2 : fld h38 37 2 = fld h27 37 2 := Qh38.f (a1 := 37) (a2 := 37) (j1 := 2) (j2 := 3) (by decide +kernel) (by first | decide | exact ⟨by decide, by decide⟩) (by first | decide | exact ⟨by decide, by decide⟩)
                            have th38_37_64 : fld h38 37 64 = fld h27 37 64 := Qh38.f (a1 := 37) (a2 := 37) (j1 := 64) (j2 := 65) (by decide +kernel) (by first | decide | exact ⟨by decide, by decide⟩) (by first | decide | exact ⟨by decide, by decide⟩)
                            have th38_37_86 : fld h38 37 86 = fld h27 37 86 := Qh38.f (a1 := 37) (a2 := 37) (j1 := 86) (j2 := 87) (by decide +kernel) (by first | decide | exact ⟨by decide, by decide⟩) (by first | decide | exact ⟨by decide, by decide⟩)
                            have th38_37_87 : fld h38 37 87 = fld h27 37 87 := Qh38.f (a1 := 37) (a2 := 37) (j1 := 87) (j2 := 88) (by decide +kernel) (by first | decide | exact ⟨by decide, by decide⟩) (by first | decide | exact ⟨by decide, by decide⟩)
                            have th38_37_88 : fld h38 37 88 = fld h27 37 88 := Qh38.f (a1 := 37) (a2 := 37) (j1 := 88) (j2 := 89) (by decide +kernel) (by first | decide | exact ⟨by decide, by decide⟩) (by first | decide | exact ⟨by decide, by decide⟩)
                            have kh38_91 : fld h38 91 = (fld h 91) := (Qh38.fa (a := 91) (by decide +kernel) rfl).trans kh27_91
                            have Zh38 : yM h38 = (yM h) := (yM_fr Qh38 (by decide +kernel) (Ih27.b (a1 := 37) (a2 := 37) (j1 := 86) (j2 := 87) (lo := 0) (hi := 6) (by decide +kernel) (r := 37) (j := 86) (by decide) (by decide) (by decide) (by decide)).2).trans Zh27
                            have A224 : v33 = yHf (yM h) a (kL10).toNat (iL22).toNat := by
                              have z := f37
                              rw [z, yFq_m (by omega) (by omega), Z224, VA224, VB224]
                              first | done | rfl
                            refine zwW_as Ih38 (a1 := 199) (a2 := 204) (n := 6) (lo := -1) (hi := 4608) (nx := 228) (by decide +kernel) (by first | omega | exact ⟨by omega, by omega⟩) ib4 (by first | omega | exact ⟨by omega, by omega⟩) ?_
                            intro h39 eh39 Ih39
                            have rbh39 : ((199 : Nat) : Int) ≤ (199 + kL10) ∧ (199 + kL10) ≤ ((204 : Nat) : Int) := (by first | omega | exact ⟨by omega, by omega⟩)
                            have jbh39 : 0 ≤ iL22.toNat ∧ iL22.toNat < 6 := ⟨Nat.zero_le _, zit ib4⟩
                            have th39_37_1 : fld h39 37 1 = fld h38 37 1 := by rw [eh39]; exact fld_wr (Or.inl (zne_l (by decide) rbh39.1))
                            have th39_37_2 : fld h39 37 2 = fld h38 37 2 := by rw [eh39]; exact fld_wr (Or.inl (zne_l (by decide) rbh39.1))
                            have th39_37_64 : fld h39 37 64 = fld h38 37 64 := by rw [eh39]; exact fld_wr (Or.inl (zne_l (by decide) rbh39.1))
                            have th39_37_86 : fld h39 37 86 = fld h38 37 86 := by rw [eh39]; exact fld_wr (Or.inl (zne_l (by decide) rbh39.1))
                            have th39_37_87 : fld h39 37 87 = fld h38 37 87 := by rw [eh39]; exact fld_wr (Or.inl (zne_l (by decide) rbh39.1))
                            have th39_37_88 : fld h39 37 88 = fld h38 37 88 := by rw [eh39]; exact fld_wr (Or.inl (zne_l (by decide) rbh39.1))
                            have E227 := eh39
                            have S227 := Ih38.s (r := (199 + kL10)) (a1 := 199) (a2 := 204) (k := 20) (n := 6) (by decide +kernel) (by omega) (by omega)
                            have Vh39 : mRq q h39 := Vh38.fr (zMR.one (a1 := 199) (a2 := 204) (j1 := 0) (j2 := 6) rbh39 jbh39 eh39) (by decide +kernel)
                            have LMh39 := LMh38.fr (zMR.one (a1 := 199) (a2 := 204) (j1 := 0) (j2 := 6) rbh39 jbh39 eh39) (by decide +kernel)
                            have NDh39 := NDh38.fr (zMR.one (a1 := 199) (a2 := 204) (j1 := 0) (j2 := 6) rbh39 jbh39 eh39) (by decide +kernel)
                            have RYh39 := RYh38.fr (zMR.one (a1 := 199) (a2 := 204) (j1 := 0) (j2 := 6) rbh39 jbh39 eh39) (by decide +kernel)
                            have kh39_91 : fld h39 91 = (fld h 91) := (funext fun j => fld_oth eh39 (Or.inl (zne_l (by decide) rbh39.1))).trans kh38_91
                            have Zh39 : yM h39 = (yM h) := (yM_fr (ms := [(199, 204, 0, 6)]) (zMR.one (a1 := 199) (a2 := 204) (j1 := 0) (j2 := 6) rbh39 jbh39 eh39) (by decide +kernel) (Ih38.b (a1 := 37) (a2 := 37) (j1 := 86) (j2 := 87) (lo := 0) (hi := 6) (by decide +kernel) (r := 37) (j := 86) (by decide) (by decide) (by decide) (by decide)).2).trans Zh38
                            have Rh39 : zMR ms148 h h39 := Rh38.w (a1 := 199) (a2 := 204) (j1 := 0) (j2 := 6) (by decide +kernel) rbh39 jbh39 eh39
                            have RF228 : mRf (yHd q (yM h) a) (kL10).toNat ((iL22).toNat + 1) h39 := RFh38.wx E227 (by omega) rfl (by omega) S227 A224
                            refine zwW_inc (i := 3) (c := 1) (x := iL22) (nx := 231) (by decide +kernel) rfl (by first | omega | exact ⟨by omega, by omega⟩) (ls' := [(2, 37), (0, a), (0, kL10), (0, (iL22 + 1))]) rfl ?_
                            refine zwW_p [(24, 133, 0)] (q := 133) (ls' := [(2, 37), (0, a), (0, kL10), (0, (iL22 + 1))]) (st' := []) (by decide +kernel) rfl ?_
                            exact IHL22 ((100 - (iL22 + 1))).toNat (by omega) (iL22 + 1) h39 rfl (by omega) (by omega) (Vh39) (LMh39) (NDh39) (by rw [show (iL22 + 1).toNat = (iL22).toNat + 1 by omega]; exact RYh39) (by rw [show (iL22 + 1).toNat = (iL22).toNat + 1 by omega]; exact RF228) (kh39_91) (Zh39) Ih39 Rh39
                          · refine zwW_p [(1, 0, 2), (1, 0, 2)] (q := 160) (ls' := [(2, 37), (0, a), (0, kL10), (0, iL22)]) (st' := [(2, 37), (2, 37), (0, iL22), (2, (192 + kL10))]) (by decide +kernel) rfl ?_
                            refine zwW_gc IhL22 (kd := 13) (bn := 81) (n := 97) (c := 188) (nx := 163) (by decide +kernel) ?_
                            refine zwW_p [(1, 3, 0)] (q := 164) (ls' := [(2, 37), (0, a), (0, kL10), (0, iL22)]) (st' := [(0, iL22), (2, 188), (2, 37), (0, iL22), (2, (192 + kL10))]) (by decide +kernel) rfl ?_
                            have ib8 : 0 ≤ iL22 ∧ iL22 < ((6 : Nat) : Int) := (by first | omega | exact ⟨by omega, by omega⟩)
                            refine zwW_al IhL22 (a1 := 188) (a2 := 188) (kd := 20) (n := 6) (t := 0) (lo := 0) (hi := 19) (nx := 165) (by decide +kernel) (by first | decide | exact ⟨by decide, by decide⟩) ib8 ?_
                            intro v40 ev40 lv40 uv40
                            have X165 : v40 = ((yHh (yM h) a (iL22).toNat : Nat) : Int) := ev40.trans (iL22_3 (iL22).toNat (by omega))
                            refine zwW_p [(1, 0, 2)] (q := 166) (ls' := [(2, 37), (0, a), (0, kL10), (0, iL22)]) (st' := [(2, 37), (0, v40), (2, 37), (0, iL22), (2, (192 + kL10))]) (by decide +kernel) rfl ?_
                            refine zwW_gc IhL22 (kd := 13) (bn := 79) (n := 97) (c := 186) (nx := 169) (by decide +kernel) ?_
                            refine zwW_p [(1, 2, 0)] (q := 170) (ls' := [(2, 37), (0, a), (0, kL10), (0, iL22)]) (st' := [(0, kL10), (2, 186), (0, v40), (2, 37), (0, iL22), (2, (192 + kL10))]) (by decide +kernel) rfl ?_
                            refine zwW_al IhL22 (a1 := 186) (a2 := 186) (kd := 20) (n := 6) (t := 0) (lo := 0) (hi := 299) (nx := 171) (by decide +kernel) (by first | decide | exact ⟨by decide, by decide⟩) ib1 ?_
                            intro v41 ev41 lv41 uv41
                            have A171 : v41 = yM h 186 (kL10).toNat := ev41.trans ((yM_a (by omega)).trans (congrFun (congrFun iL22_8 186) _))
                            refine zwW_p [(1, 0, 2)] (q := 172) (ls' := [(2, 37), (0, a), (0, kL10), (0, iL22)]) (st' := [(2, 37), (0, v41), (0, v40), (2, 37), (0, iL22), (2, (192 + kL10))]) (by decide +kernel) rfl ?_
                            refine zwW_gc IhL22 (kd := 13) (bn := 80) (n := 97) (c := 187) (nx := 175) (by decide +kernel) ?_
                            refine zwW_p [(1, 2, 0)] (q := 176) (ls' := [(2, 37), (0, a), (0, kL10), (0, iL22)]) (st' := [(0, kL10), (2, 187), (0, v41), (0, v40), (2, 37), (0, iL22), (2, (192 + kL10))]) (by decide +kernel) rfl ?_
                            refine zwW_al IhL22 (a1 := 187) (a2 := 187) (kd := 20) (n := 6) (t := 0) (lo := -2147483648) (hi := 2147483647) (nx := 177) (by decide +kernel) (by first | decide | exact ⟨by decide, by decide⟩) ib1 ?_
                            intro v42 ev42 lv42 uv42
                            have M177 : v42 = yHN (yM h) (kL10).toNat := ev42.trans (iL22_4 (kL10).toNat (by omega))
                            refine zwW_cm IhL22 (op := 60) (k' := 208) (n := 3) (kd := 13) (m := 97) (nx := 180) (r := 37) (tl := [(0, v40), (0, v41), (0, v42)]) (st' := [(0, iL22), (2, (192 + kL10))]) (by decide +kernel) rfl (by decide +kernel) rfl (m208_h hL22 IhL22 v40 v41 v42 q (by omega) (by omega) (by omega) (by omega) (by omega) (by omega) (by omega) (by first | omega | exact ⟨by omega, by omega⟩) iL22_2 (by rw [iL22_8]; exact ok) (by rw [iL22_8]; exact PF8) (hR.mr RhL22 (by decide +kernel) (by omega))) ?_
                            rintro v43 h47 ⟨Ih47, Qh47, f44, f45, f46⟩
                            have Rh47 : zMR ms148 h h47 := RhL22.tr Qh47 (by decide +kernel)
                            have Vh47 : mRq q h47 := iL22_2.fr Qh47 (by decide +kernel)
                            have LMh47 := iL22_3.fr Qh47 (by decide +kernel)
                            have NDh47 := iL22_4.fr Qh47 (by decide +kernel)
                            have RYh47 := iL22_5.fr Qh47 (by decide +kernel)
                            have RFh47 := iL22_6.fr Qh47 (by decide +kernel)
                            have th47_37_1 : fld h47 37 1 = fld hL22 37 1 := Qh47.f (a1 := 37) (a2 := 37) (j1 := 1) (j2 := 2) (by decide +kernel) (by first | decide | exact ⟨by decide, by decide⟩) (by first | decide | exact ⟨by decide, by decide⟩)
                            have th47_37_2 : fld h47 37 2 = fld hL22 37 2 := Qh47.f (a1 := 37) (a2 := 37) (j1 := 2) (j2 := 3) (by decide +kernel) (by first | decide | exact ⟨by decide, by decide⟩) (by first | decide | exact ⟨by decide, by decide⟩)
                            have th47_37_64 : fld h47 37 64 = fld hL22 37 64 := Qh47.f (a1 := 37) (a2 := 37) (j1 := 64) (j2 := 65) (by decide +kernel) (by first | decide | exact ⟨by decide, by decide⟩) (by first | decide | exact ⟨by decide, by decide⟩)
                            have th47_37_86 : fld h47 37 86 = fld hL22 37 86 := Qh47.f (a1 := 37) (a2 := 37) (j1 := 86) (j2 := 87) (by decide +kernel) (by first | decide | exact ⟨by decide, by decide⟩) (by first | decide | exact ⟨by decide, by decide⟩)
                            have th47_37_87 : fld h47 37 87 = fld hL22 37 87 := Qh47.f (a1 := 37) (a2 := 37) (j1 := 87) (j2 := 88) (by decide +kernel) (by first | decide | exact ⟨by decide, by decide⟩) (by first | decide | exact ⟨by decide, by decide⟩)
                            have th47_37_88 : fld h47 37 88 = fld hL22 37 88 := Qh47.f (a1 := 37) (a2 := 37) (j1 := 88) (j2 := 89) (by decide +kernel) (by first | decide | exact ⟨by decide, by decide⟩) (by first | decide | exact ⟨by decide, by decide⟩)
                            have kh47_91 : fld h47 91 = (fld h 91) := (Qh47.fa (a := 91) (by decide +kernel) rfl).trans iL22_7
                            have sv43 : v43 = yLbar q (yM h) v40.toNat v41.toNat v42 := by rw [f46, iL22_8]
                            have Zh47 : yM h47 = (yM h) := (yM_fr Qh47 (by decide +kernel) (IhL22.b (a1 := 37) (a2 := 37) (j1 := 86) (j2 := 87) (lo := 0) (hi := 6) (by decide +kernel) (r := 37) (j := 86) (by decide) (by decide) (by decide) (by decide)).2).trans iL22_8
                            have B180 : v43 = yLbar q (yM h) (yHh (yM h) a (iL22).toNat) (yHl (yM h) (kL10).toNat) (yHN (yM h) (kL10).toNat) := by rw [sv43, X165, A171, M177]; first | done | rfl
                            refine zwif_ne (q := 187) (nx := 183) (by decide +kernel) (fun c48 => ?_) (fun c48 => ?_)
                            · refine zwW_p [(0, 0, 0)] (q := 188) (ls' := [(2, 37), (0, a), (0, kL10), (0, iL22)]) (st' := [(0, 0), (0, iL22), (2, (192 + kL10))]) (by decide +kernel) rfl ?_
                              refine zwW_asz Ih47 (a1 := 192) (a2 := 197) (n := 6) (nx := 189) (by decide +kernel) (by first | omega | exact ⟨by omega, by omega⟩) ib8 (by omega) ?_
                              intro h49 eh49 Ih49
                              have rbh49 : ((192 : Nat) : Int) ≤ (192 + kL10) ∧ (192 + kL10) ≤ ((197 : Nat) : Int) := (by first | omega | exact ⟨by omega, by omega⟩)
                              have jbh49 : 0 ≤ iL22.toNat ∧ iL22.toNat < 6 := ⟨Nat.zero_le _, zit ib8⟩
                              have th49_37_1 : fld h49 37 1 = fld h47 37 1 := by rw [eh49]; exact fld_wr (Or.inl (zne_l (by decide) rbh49.1))
                              have th49_37_2 : fld h49 37 2 = fld h47 37 2 := by rw [eh49]; exact fld_wr (Or.inl (zne_l (by decide) rbh49.1))
                              have th49_37_64 : fld h49 37 64 = fld h47 37 64 := by rw [eh49]; exact fld_wr (Or.inl (zne_l (by decide) rbh49.1))
                              have th49_37_86 : fld h49 37 86 = fld h47 37 86 := by rw [eh49]; exact fld_wr (Or.inl (zne_l (by decide) rbh49.1))
                              have th49_37_87 : fld h49 37 87 = fld h47 37 87 := by rw [eh49]; exact fld_wr (Or.inl (zne_l (by decide) rbh49.1))
                              have th49_37_88 : fld h49 37 88 = fld h47 37 88 := by rw [eh49]; exact fld_wr (Or.inl (zne_l (by decide) rbh49.1))
                              have E188 := eh49
                              have S188 := Ih47.s (r := (192 + kL10)) (a1 := 192) (a2 := 197) (k := 22) (n := 6) (by decide +kernel) (by omega) (by omega)
                              have Vh49 : mRq q h49 := Vh47.fr (zMR.one (a1 := 192) (a2 := 197) (j1 := 0) (j2 := 6) rbh49 jbh49 eh49) (by decide +kernel)
                              have LMh49 := LMh47.fr (zMR.one (a1 := 192) (a2 := 197) (j1 := 0) (j2 := 6) rbh49 jbh49 eh49) (by decide +kernel)
                              have NDh49 := NDh47.fr (zMR.one (a1 := 192) (a2 := 197) (j1 := 0) (j2 := 6) rbh49 jbh49 eh49) (by decide +kernel)
                              have RFh49 := RFh47.fr (zMR.one (a1 := 192) (a2 := 197) (j1 := 0) (j2 := 6) rbh49 jbh49 eh49) (by decide +kernel)
                              have kh49_91 : fld h49 91 = (fld h 91) := (funext fun j => fld_oth eh49 (Or.inl (zne_l (by decide) rbh49.1))).trans kh47_91
                              have Zh49 : yM h49 = (yM h) := (yM_fr (ms := [(192, 197, 0, 6)]) (zMR.one (a1 := 192) (a2 := 197) (j1 := 0) (j2 := 6) rbh49 jbh49 eh49) (by decide +kernel) (Ih47.b (a1 := 37) (a2 := 37) (j1 := 86) (j2 := 87) (lo := 0) (hi := 6) (by decide +kernel) (r := 37) (j := 86) (by decide) (by decide) (by decide) (by decide)).2).trans Zh47
                              have Rh49 : zMR ms148 h h49 := Rh47.w (a1 := 192) (a2 := 197) (j1 := 0) (j2 := 6) (by decide +kernel) rbh49 jbh49 eh49
                              have RY189 : mRy (yHd q (yM h) a) (kL10).toNat ((iL22).toNat + 1) h49 := RYh47.wx E188 (by omega) rfl (by omega) S188 (by show _ = (if 2 ≤ yHN (yM h) (kL10).toNat ∧ yLbar q (yM h) (yHh (yM h) a (iL22).toNat) (yHl (yM h) (kL10).toNat) (yHN (yM h) (kL10).toNat) = 0 then (1 : Int) else 0); first | (rw [if_pos ⟨by omega, by omega⟩]; done) | (rw [if_neg (by omega)]; done))
                              refine zwW_p [(1, 0, 2)] (q := 190) (ls' := [(2, 37), (0, a), (0, kL10), (0, iL22)]) (st' := [(2, 37)]) (by decide +kernel) rfl ?_
                              refine zwW_gc Ih49 (kd := 13) (bn := 85) (n := 97) (c := 198) (nx := 193) (by decide +kernel) ?_
                              refine zwW_p [(1, 2, 0)] (q := 194) (ls' := [(2, 37), (0, a), (0, kL10), (0, iL22)]) (st' := [(0, kL10), (2, 198)]) (by decide +kernel) rfl ?_
                              refine zwW_ro Ih49 (a := 198) (n := 6) (kd := 26) (base := 199) (step := 1) (nx := 195) (by decide +kernel) rfl (by first | omega | exact ⟨by omega, by omega⟩) ?_
                              rw [show ((199 : Nat) : Int) + ((1 : Nat) : Int) * kL10 = (199 + kL10) by omega]
                              refine zwW_p [(1, 3, 0), (1, 0, 2), (1, 0, 2)] (q := 198) (ls' := [(2, 37), (0, a), (0, kL10), (0, iL22)]) (st' := [(2, 37), (2, 37), (0, iL22), (2, (199 + kL10))]) (by decide +kernel) rfl ?_
                              refine zwW_gc Ih49 (kd := 13) (bn := 20) (n := 97) (c := 79) (nx := 201) (by decide +kernel) ?_
                              refine zwW_p [(1, 0, 2)] (q := 202) (ls' := [(2, 37), (0, a), (0, kL10), (0, iL22)]) (st' := [(2, 37), (2, 79), (2, 37), (0, iL22), (2, (199 + kL10))]) (by decide +kernel) rfl ?_
                              refine zwW_gc Ih49 (kd := 13) (bn := 58) (n := 97) (c := 170) (nx := 205) (by decide +kernel) ?_
                              refine zwW_p [(1, 0, 2)] (q := 206) (ls' := [(2, 37), (0, a), (0, kL10), (0, iL22)]) (st' := [(2, 37), (2, 170), (2, 79), (2, 37), (0, iL22), (2, (199 + kL10))]) (by decide +kernel) rfl ?_
                              refine zwW_gc Ih49 (kd := 13) (bn := 79) (n := 97) (c := 186) (nx := 209) (by decide +kernel) ?_
                              refine zwW_p [(1, 2, 0)] (q := 210) (ls' := [(2, 37), (0, a), (0, kL10), (0, iL22)]) (st' := [(0, kL10), (2, 186), (2, 170), (2, 79), (2, 37), (0, iL22), (2, (199 + kL10))]) (by decide +kernel) rfl ?_
                              refine zwW_al Ih49 (a1 := 186) (a2 := 186) (kd := 20) (n := 6) (t := 0) (lo := 0) (hi := 299) (nx := 211) (by decide +kernel) (by first | decide | exact ⟨by decide, by decide⟩) ib1 ?_
                              intro v50 ev50 lv50 uv50
                              have A211 : v50 = yM h 186 (kL10).toNat := ev50.trans ((yM_a (by omega)).trans (congrFun (congrFun Zh49 186) _))
                              have ib9 : 0 ≤ v50 ∧ v50 < ((300 : Nat) : Int) := (by first | omega | exact ⟨by omega, by omega⟩)
                              refine zwW_al Ih49 (a1 := 170) (a2 := 170) (kd := 20) (n := 300) (t := 0) (lo := 0) (hi := 19) (nx := 212) (by decide +kernel) (by first | decide | exact ⟨by decide, by decide⟩) ib9 ?_
                              intro v51 ev51 lv51 uv51
                              have sv51 : v51 = (yM h) 170 v50.toNat := Eq.trans ev51 (Eq.trans (Eq.symm (yM_p (h := h49) (a := 170) (n := 300) (i := v50.toNat) rfl (zit ib9))) (Eq.trans (congrFun (congrFun Zh49 170) v50.toNat) rfl))
                              have ib10 : 0 ≤ v51 ∧ v51 < ((20 : Nat) : Int) := (by first | omega | exact ⟨by omega, by omega⟩)
                              refine zwW_al Ih49 (a1 := 79) (a2 := 79) (kd := 20) (n := 20) (t := 0) (lo := 0) (hi := 7) (nx := 213) (by decide +kernel) (by first | decide | exact ⟨by decide, by decide⟩) ib10 ?_
                              intro v52 ev52 lv52 uv52
                              have sv52 : v52 = (yM h) 79 (((yM h) 170 v50.toNat).toNat) := Eq.trans ev52 (Eq.trans (Eq.symm (yM_p (h := h49) (a := 79) (n := 20) (i := v51.toNat) rfl (zit ib10))) (Eq.trans (congrArg (yM h49 79) (show v51.toNat = ((yM h) 170 v50.toNat).toNat by rw [sv51])) (Eq.trans (congrFun (congrFun Zh49 79) (((yM h) 170 v50.toNat).toNat)) rfl)))
                              refine zwW_p [(1, 0, 2)] (q := 214) (ls' := [(2, 37), (0, a), (0, kL10), (0, iL22)]) (st' := [(2, 37), (0, v52), (2, 37), (0, iL22), (2, (199 + kL10))]) (by decide +kernel) rfl ?_
                              refine zwW_gc Ih49 (kd := 13) (bn := 20) (n := 97) (c := 79) (nx := 217) (by decide +kernel) ?_
                              refine zwW_p [(1, 0, 2)] (q := 218) (ls' := [(2, 37), (0, a), (0, kL10), (0, iL22)]) (st' := [(2, 37), (2, 79), (0, v52), (2, 37), (0, iL22), (2, (199 + kL10))]) (by decide +kernel) rfl ?_
                              refine zwW_gc Ih49 (kd := 13) (bn := 81) (n := 97) (c := 188) (nx := 221) (by decide +kernel) ?_
                              refine zwW_p [(1, 3, 0)] (q := 222) (ls' := [(2, 37), (0, a), (0, kL10), (0, iL22)]) (st' := [(0, iL22), (2, 188), (2, 79), (0, v52), (2, 37), (0, iL22), (2, (199 + kL10))]) (by decide +kernel) rfl ?_
                              refine zwW_al Ih49 (a1 := 188) (a2 := 188) (kd := 20) (n := 6) (t := 0) (lo := 0) (hi := 19) (nx := 223) (by decide +kernel) (by first | decide | exact ⟨by decide, by decide⟩) ib8 ?_
                              intro v53 ev53 lv53 uv53
                              have X222 : v53 = ((yHh (yM h) a (iL22).toNat : Nat) : Int) := ev53.trans (LMh49 (iL22).toNat (by omega))
                              have ib11 : 0 ≤ v53 ∧ v53 < ((20 : Nat) : Int) := (by first | omega | exact ⟨by omega, by omega⟩)
                              refine zwW_al Ih49 (a1 := 79) (a2 := 79) (kd := 20) (n := 20) (t := 0) (lo := 0) (hi := 7) (nx := 224) (by decide +kernel) (by first | decide | exact ⟨by decide, by decide⟩) ib11 ?_
                              intro v54 ev54 lv54 uv54
                              have sv54 : v54 = (yM h) 79 v53.toNat := Eq.trans ev54 (Eq.trans (Eq.symm (yM_p (h := h49) (a := 79) (n := 20) (i := v53.toNat) rfl (zit ib11))) (Eq.trans (congrFun (congrFun Zh49 79) v53.toNat) rfl))
                              have Z224 := Zh49
                              have VA224 : v52 = yM h 79 (yM h 170 (yHl (yM h) (kL10).toNat)).toNat := by rw [sv52, A211]; first | done | rfl
                              have VB224 : v54 = yM h 79 (yHh (yM h) a (iL22).toNat) := by rw [sv54, X222]; first | done | rfl
                              refine zwW_cm Ih49 (op := 60) (k' := 106) (n := 2) (kd := 13) (m := 97) (nx := 227) (r := 37) (tl := [(0, v52), (0, v54)]) (st' := [(0, iL22), (2, (199 + kL10))]) (by decide +kernel) rfl (by decide +kernel) rfl (m106_f h49 Ih49 v52 v54 (by omega) (by omega) (hR.mr Rh49 (by decide +kernel) (by omega)) (by first | omega | exact ⟨by omega, by omega⟩) (by omega)) ?_
                              rintro v55 h60 ⟨Ih60, Qh60, f56, f57, f58, f59⟩
                              have Rh60 : zMR ms148 h h60 := Rh49.tr Qh60 (by decide +kernel)
                              have Vh60 : mRq q h60 := Vh49.fr Qh60 (by decide +kernel)
                              have LMh60 := LMh49.fr Qh60 (by decide +kernel)
                              have NDh60 := NDh49.fr Qh60 (by decide +kernel)
                              have RYh60 := RY189.fr Qh60 (by decide +kernel)
                              have RFh60 := RFh49.fr Qh60 (by decide +kernel)
                              have th60_37_1 : fld h60 37 1 = fld h49 37 1 := Qh60.f (a1 := 37) (a2 := 37) (j1 := 1) (j2 := 2) (by decide +kernel) (by first | decide | exact ⟨by decide, by decide⟩) (by first | decide | exact ⟨by decide, by decide⟩)
                              have th60_37_2 : fld h60 37 2 = fld h49 37 2 := Qh60.f (a1 := 37) (a2 := 37) (j1 := 2) (j2 := 3) (by decide +kernel) (by first | decide | exact ⟨by decide, by decide⟩) (by first | decide | exact ⟨by decide, by decide⟩)
                              have th60_37_64 : fld h60 37 64 = fld h49 37 64 := Qh60.f (a1 := 37) (a2 := 37) (j1 := 64) (j2 := 65) (by decide +kernel) (by first | decide | exact ⟨by decide, by decide⟩) (by first | decide | exact ⟨by decide, by decide⟩)
                              have th60_37_86 : fld h60 37 86 = fld h49 37 86 := Qh60.f (a1 := 37) (a2 := 37) (j1 := 86) (j2 := 87) (by decide +kernel) (by first | decide | exact ⟨by decide, by decide⟩) (by first | decide | exact ⟨by decide, by decide⟩)
                              have th60_37_87 : fld h60 37 87 = fld h49 37 87 := Qh60.f (a1 := 37) (a2 := 37) (j1 := 87) (j2 := 88) (by decide +kernel) (by first | decide | exact ⟨by decide, by decide⟩) (by first | decide | exact ⟨by decide, by decide⟩)
                              have th60_37_88 : fld h60 37 88 = fld h49 37 88 := Qh60.f (a1 := 37) (a2 := 37) (j1 := 88) (j2 := 89) (by decide +kernel) (by first | decide | exact ⟨by decide, by decide⟩) (by first | decide | exact ⟨by decide, by decide⟩)
                              have kh60_91 : fld h60 91 = (fld h 91) := (Qh60.fa (a := 91) (by decide +kernel) rfl).trans kh49_91
                              have Zh60 : yM h60 = (yM h) := (yM_fr Qh60 (by decide +kernel) (Ih49.b (a1 := 37) (a2 := 37) (j1 := 86) (j2 := 87) (lo := 0) (hi := 6) (by decide +kernel) (r := 37) (j := 86) (by decide) (by decide) (by decide) (by decide)).2).trans Zh49
                              have A224 : v55 = yHf (yM h) a (kL10).toNat (iL22).toNat := by
                                have z := f59
                                rw [z, yFq_m (by omega) (by omega), Z224, VA224, VB224]
                                first | done | rfl
                              refine zwW_as Ih60 (a1 := 199) (a2 := 204) (n := 6) (lo := -1) (hi := 4608) (nx := 228) (by decide +kernel) (by first | omega | exact ⟨by omega, by omega⟩) ib8 (by first | omega | exact ⟨by omega, by omega⟩) ?_
                              intro h61 eh61 Ih61
                              have rbh61 : ((199 : Nat) : Int) ≤ (199 + kL10) ∧ (199 + kL10) ≤ ((204 : Nat) : Int) := (by first | omega | exact ⟨by omega, by omega⟩)
                              have jbh61 : 0 ≤ iL22.toNat ∧ iL22.toNat < 6 := ⟨Nat.zero_le _, zit ib8⟩
                              have th61_37_1 : fld h61 37 1 = fld h60 37 1 := by rw [eh61]; exact fld_wr (Or.inl (zne_l (by decide) rbh61.1))
                              have th61_37_2 : fld h61 37 2 = fld h60 37 2 := by rw [eh61]; exact fld_wr (Or.inl (zne_l (by decide) rbh61.1))
                              have th61_37_64 : fld h61 37 64 = fld h60 37 64 := by rw [eh61]; exact fld_wr (Or.inl (zne_l (by decide) rbh61.1))
                              have th61_37_86 : fld h61 37 86 = fld h60 37 86 := by rw [eh61]; exact fld_wr (Or.inl (zne_l (by decide) rbh61.1))
                              have th61_37_87 : fld h61 37 87 = fld h60 37 87 := by rw [eh61]; exact fld_wr (Or.inl (zne_l (by decide) rbh61.1))
                              have th61_37_88 : fld h61 37 88 = fld h60 37 88 := by rw [eh61]; exact fld_wr (Or.inl (zne_l (by decide) rbh61.1))
                              have E227 := eh61
                              have S227 := Ih60.s (r := (199 + kL10)) (a1 := 199) (a2 := 204) (k := 20) (n := 6) (by decide +kernel) (by omega) (by omega)
                              have Vh61 : mRq q h61 := Vh60.fr (zMR.one (a1 := 199) (a2 := 204) (j1 := 0) (j2 := 6) rbh61 jbh61 eh61) (by decide +kernel)
                              have LMh61 := LMh60.fr (zMR.one (a1 := 199) (a2 := 204) (j1 := 0) (j2 := 6) rbh61 jbh61 eh61) (by decide +kernel)
                              have NDh61 := NDh60.fr (zMR.one (a1 := 199) (a2 := 204) (j1 := 0) (j2 := 6) rbh61 jbh61 eh61) (by decide +kernel)
                              have RYh61 := RYh60.fr (zMR.one (a1 := 199) (a2 := 204) (j1 := 0) (j2 := 6) rbh61 jbh61 eh61) (by decide +kernel)
                              have kh61_91 : fld h61 91 = (fld h 91) := (funext fun j => fld_oth eh61 (Or.inl (zne_l (by decide) rbh61.1))).trans kh60_91
                              have Zh61 : yM h61 = (yM h) := (yM_fr (ms := [(199, 204, 0, 6)]) (zMR.one (a1 := 199) (a2 := 204) (j1 := 0) (j2 := 6) rbh61 jbh61 eh61) (by decide +kernel) (Ih60.b (a1 := 37) (a2 := 37) (j1 := 86) (j2 := 87) (lo := 0) (hi := 6) (by decide +kernel) (r := 37) (j := 86) (by decide) (by decide) (by decide) (by decide)).2).trans Zh60
                              have Rh61 : zMR ms148 h h61 := Rh60.w (a1 := 199) (a2 := 204) (j1 := 0) (j2 := 6) (by decide +kernel) rbh61 jbh61 eh61
                              have RF228 : mRf (yHd q (yM h) a) (kL10).toNat ((iL22).toNat + 1) h61 := RFh60.wx E227 (by omega) rfl (by omega) S227 A224
                              refine zwW_inc (i := 3) (c := 1) (x := iL22) (nx := 231) (by decide +kernel) rfl (by first | omega | exact ⟨by omega, by omega⟩) (ls' := [(2, 37), (0, a), (0, kL10), (0, (iL22 + 1))]) rfl ?_
                              refine zwW_p [(24, 133, 0)] (q := 133) (ls' := [(2, 37), (0, a), (0, kL10), (0, (iL22 + 1))]) (st' := []) (by decide +kernel) rfl ?_
                              exact IHL22 ((100 - (iL22 + 1))).toNat (by omega) (iL22 + 1) h61 rfl (by omega) (by omega) (Vh61) (LMh61) (NDh61) (by rw [show (iL22 + 1).toNat = (iL22).toNat + 1 by omega]; exact RYh61) (by rw [show (iL22 + 1).toNat = (iL22).toNat + 1 by omega]; exact RF228) (kh61_91) (Zh61) Ih61 Rh61
                            · refine zwW_p [(0, 1, 0), (24, 188, 0)] (q := 188) (ls' := [(2, 37), (0, a), (0, kL10), (0, iL22)]) (st' := [(0, 1), (0, iL22), (2, (192 + kL10))]) (by decide +kernel) rfl ?_
                              refine zwW_asz Ih47 (a1 := 192) (a2 := 197) (n := 6) (nx := 189) (by decide +kernel) (by first | omega | exact ⟨by omega, by omega⟩) ib8 (by omega) ?_
                              intro h62 eh62 Ih62
                              have rbh62 : ((192 : Nat) : Int) ≤ (192 + kL10) ∧ (192 + kL10) ≤ ((197 : Nat) : Int) := (by first | omega | exact ⟨by omega, by omega⟩)
                              have jbh62 : 0 ≤ iL22.toNat ∧ iL22.toNat < 6 := ⟨Nat.zero_le _, zit ib8⟩
                              have th62_37_1 : fld h62 37 1 = fld h47 37 1 := by rw [eh62]; exact fld_wr (Or.inl (zne_l (by decide) rbh62.1))
                              have th62_37_2 : fld h62 37 2 = fld h47 37 2 := by rw [eh62]; exact fld_wr (Or.inl (zne_l (by decide) rbh62.1))
                              have th62_37_64 : fld h62 37 64 = fld h47 37 64 := by rw [eh62]; exact fld_wr (Or.inl (zne_l (by decide) rbh62.1))
                              have th62_37_86 : fld h62 37 86 = fld h47 37 86 := by rw [eh62]; exact fld_wr (Or.inl (zne_l (by decide) rbh62.1))
                              have th62_37_87 : fld h62 37 87 = fld h47 37 87 := by rw [eh62]; exact fld_wr (Or.inl (zne_l (by decide) rbh62.1))
                              have th62_37_88 : fld h62 37 88 = fld h47 37 88 := by rw [eh62]; exact fld_wr (Or.inl (zne_l (by decide) rbh62.1))
                              have E188 := eh62
                              have S188 := Ih47.s (r := (192 + kL10)) (a1 := 192) (a2 := 197) (k := 22) (n := 6) (by decide +kernel) (by omega) (by omega)
                              have Vh62 : mRq q h62 := Vh47.fr (zMR.one (a1 := 192) (a2 := 197) (j1 := 0) (j2 := 6) rbh62 jbh62 eh62) (by decide +kernel)
                              have LMh62 := LMh47.fr (zMR.one (a1 := 192) (a2 := 197) (j1 := 0) (j2 := 6) rbh62 jbh62 eh62) (by decide +kernel)
                              have NDh62 := NDh47.fr (zMR.one (a1 := 192) (a2 := 197) (j1 := 0) (j2 := 6) rbh62 jbh62 eh62) (by decide +kernel)
                              have RFh62 := RFh47.fr (zMR.one (a1 := 192) (a2 := 197) (j1 := 0) (j2 := 6) rbh62 jbh62 eh62) (by decide +kernel)
                              have kh62_91 : fld h62 91 = (fld h 91) := (funext fun j => fld_oth eh62 (Or.inl (zne_l (by decide) rbh62.1))).trans kh47_91
                              have Zh62 : yM h62 = (yM h) := (yM_fr (ms := [(192, 197, 0, 6)]) (zMR.one (a1 := 192) (a2 := 197) (j1 := 0) (j2 := 6) rbh62 jbh62 eh62) (by decide +kernel) (Ih47.b (a1 := 37) (a2 := 37) (j1 := 86) (j2 := 87) (lo := 0) (hi := 6) (by decide +kernel) (r := 37) (j := 86) (by decide) (by decide) (by decide) (by decide)).2).trans Zh47
                              have Rh62 : zMR ms148 h h62 := Rh47.w (a1 := 192) (a2 := 197) (j1 := 0) (j2 := 6) (by decide +kernel) rbh62 jbh62 eh62
                              have RY189 : mRy (yHd q (yM h) a) (kL10).toNat ((iL22).toNat + 1) h62 := RYh47.wx E188 (by omega) rfl (by omega) S188 (by show _ = (if 2 ≤ yHN (yM h) (kL10).toNat ∧ yLbar q (yM h) (yHh (yM h) a (iL22).toNat) (yHl (yM h) (kL10).toNat) (yHN (yM h) (kL10).toNat) = 0 then (1 : Int) else 0); first | (rw [if_pos ⟨by omega, by omega⟩]; done) | (rw [if_neg (by omega)]; done))
                              refine zwW_p [(1, 0, 2)] (q := 190) (ls' := [(2, 37), (0, a), (0, kL10), (0, iL22)]) (st' := [(2, 37)]) (by decide +kernel) rfl ?_
                              refine zwW_gc Ih62 (kd := 13) (bn := 85) (n := 97) (c := 198) (nx := 193) (by decide +kernel) ?_
                              refine zwW_p [(1, 2, 0)] (q := 194) (ls' := [(2, 37), (0, a), (0, kL10), (0, iL22)]) (st' := [(0, kL10), (2, 198)]) (by decide +kernel) rfl ?_
                              refine zwW_ro Ih62 (a := 198) (n := 6) (kd := 26) (base := 199) (step := 1) (nx := 195) (by decide +kernel) rfl (by first | omega | exact ⟨by omega, by omega⟩) ?_
                              rw [show ((199 : Nat) : Int) + ((1 : Nat) : Int) * kL10 = (199 + kL10) by omega]
                              refine zwW_p [(1, 3, 0), (1, 0, 2), (1, 0, 2)] (q := 198) (ls' := [(2, 37), (0, a), (0, kL10), (0, iL22)]) (st' := [(2, 37), (2, 37), (0, iL22), (2, (199 + kL10))]) (by decide +kernel) rfl ?_
                              refine zwW_gc Ih62 (kd := 13) (bn := 20) (n := 97) (c := 79) (nx := 201) (by decide +kernel) ?_
                              refine zwW_p [(1, 0, 2)] (q := 202) (ls' := [(2, 37), (0, a), (0, kL10), (0, iL22)]) (st' := [(2, 37), (2, 79), (2, 37), (0, iL22), (2, (199 + kL10))]) (by decide +kernel) rfl ?_
                              refine zwW_gc Ih62 (kd := 13) (bn := 58) (n := 97) (c := 170) (nx := 205) (by decide +kernel) ?_
                              refine zwW_p [(1, 0, 2)] (q := 206) (ls' := [(2, 37), (0, a), (0, kL10), (0, iL22)]) (st' := [(2, 37), (2, 170), (2, 79), (2, 37), (0, iL22), (2, (199 + kL10))]) (by decide +kernel) rfl ?_
                              refine zwW_gc Ih62 (kd := 13) (bn := 79) (n := 97) (c := 186) (nx := 209) (by decide +kernel) ?_
                              refine zwW_p [(1, 2, 0)] (q := 210) (ls' := [(2, 37), (0, a), (0, kL10), (0, iL22)]) (st' := [(0, kL10), (2, 186), (2, 170), (2, 79), (2, 37), (0, iL22), (2, (199 + kL10))]) (by decide +kernel) rfl ?_
                              refine zwW_al Ih62 (a1 := 186) (a2 := 186) (kd := 20) (n := 6) (t := 0) (lo := 0) (hi := 299) (nx := 211) (by decide +kernel) (by first | decide | exact ⟨by decide, by decide⟩) ib1 ?_
                              intro v63 ev63 lv63 uv63
                              have A211 : v63 = yM h 186 (kL10).toNat := ev63.trans ((yM_a (by omega)).trans (congrFun (congrFun Zh62 186) _))
                              have ib12 : 0 ≤ v63 ∧ v63 < ((300 : Nat) : Int) := (by first | omega | exact ⟨by omega, by omega⟩)
                              refine zwW_al Ih62 (a1 := 170) (a2 := 170) (kd := 20) (n := 300) (t := 0) (lo := 0) (hi := 19) (nx := 212) (by decide +kernel) (by first | decide | exact ⟨by decide, by decide⟩) ib12 ?_
                              intro v64 ev64 lv64 uv64
                              have sv64 : v64 = (yM h) 170 v63.toNat := Eq.trans ev64 (Eq.trans (Eq.symm (yM_p (h := h62) (a := 170) (n := 300) (i := v63.toNat) rfl (zit ib12))) (Eq.trans (congrFun (congrFun Zh62 170) v63.toNat) rfl))
                              have ib13 : 0 ≤ v64 ∧ v64 < ((20 : Nat) : Int) := (by first | omega | exact ⟨by omega, by omega⟩)
                              refine zwW_al Ih62 (a1 := 79) (a2 := 79) (kd := 20) (n := 20) (t := 0) (lo := 0) (hi := 7) (nx := 213) (by decide +kernel) (by first | decide | exact ⟨by decide, by decide⟩) ib13 ?_
                              intro v65 ev65 lv65 uv65
                              have sv65 : v65 = (yM h) 79 (((yM h) 170 v63.toNat).toNat) := Eq.trans ev65 (Eq.trans (Eq.symm (yM_p (h := h62) (a := 79) (n := 20) (i := v64.toNat) rfl (zit ib13))) (Eq.trans (congrArg (yM h62 79) (show v64.toNat = ((yM h) 170 v63.toNat).toNat by rw [sv64])) (Eq.trans (congrFun (congrFun Zh62 79) (((yM h) 170 v63.toNat).toNat)) rfl)))
                              refine zwW_p [(1, 0, 2)] (q := 214) (ls' := [(2, 37), (0, a), (0, kL10), (0, iL22)]) (st' := [(2, 37), (0, v65), (2, 37), (0, iL22), (2, (199 + kL10))]) (by decide +kernel) rfl ?_
                              refine zwW_gc Ih62 (kd := 13) (bn := 20) (n := 97) (c := 79) (nx := 217) (by decide +kernel) ?_
                              refine zwW_p [(1, 0, 2)] (q := 218) (ls' := [(2, 37), (0, a), (0, kL10), (0, iL22)]) (st' := [(2, 37), (2, 79), (0, v65), (2, 37), (0, iL22), (2, (199 + kL10))]) (by decide +kernel) rfl ?_
                              refine zwW_gc Ih62 (kd := 13) (bn := 81) (n := 97) (c := 188) (nx := 221) (by decide +kernel) ?_
                              refine zwW_p [(1, 3, 0)] (q := 222) (ls' := [(2, 37), (0, a), (0, kL10), (0, iL22)]) (st' := [(0, iL22), (2, 188), (2, 79), (0, v65), (2, 37), (0, iL22), (2, (199 + kL10))]) (by decide +kernel) rfl ?_
                              refine zwW_al Ih62 (a1 := 188) (a2 := 188) (kd := 20) (n := 6) (t := 0) (lo := 0) (hi := 19) (nx := 223) (by decide +kernel) (by first | decide | exact ⟨by decide, by decide⟩) ib8 ?_
                              intro v66 ev66 lv66 uv66
                              have X222 : v66 = ((yHh (yM h) a (iL22).toNat : Nat) : Int) := ev66.trans (LMh62 (iL22).toNat (by omega))
                              have ib14 : 0 ≤ v66 ∧ v66 < ((20 : Nat) : Int) := (by first | omega | exact ⟨by omega, by omega⟩)
                              refine zwW_al Ih62 (a1 := 79) (a2 := 79) (kd := 20) (n := 20) (t := 0) (lo := 0) (hi := 7) (nx := 224) (by decide +kernel) (by first | decide | exact ⟨by decide, by decide⟩) ib14 ?_
                              intro v67 ev67 lv67 uv67
                              have sv67 : v67 = (yM h) 79 v66.toNat := Eq.trans ev67 (Eq.trans (Eq.symm (yM_p (h := h62) (a := 79) (n := 20) (i := v66.toNat) rfl (zit ib14))) (Eq.trans (congrFun (congrFun Zh62 79) v66.toNat) rfl))
                              have Z224 := Zh62
                              have VA224 : v65 = yM h 79 (yM h 170 (yHl (yM h) (kL10).toNat)).toNat := by rw [sv65, A211]; first | done | rfl
                              have VB224 : v67 = yM h 79 (yHh (yM h) a (iL22).toNat) := by rw [sv67, X222]; first | done | rfl
                              refine zwW_cm Ih62 (op := 60) (k' := 106) (n := 2) (kd := 13) (m := 97) (nx := 227) (r := 37) (tl := [(0, v65), (0, v67)]) (st' := [(0, iL22), (2, (199 + kL10))]) (by decide +kernel) rfl (by decide +kernel) rfl (m106_f h62 Ih62 v65 v67 (by omega) (by omega) (hR.mr Rh62 (by decide +kernel) (by omega)) (by first | omega | exact ⟨by omega, by omega⟩) (by omega)) ?_
                              rintro v68 h73 ⟨Ih73, Qh73, f69, f70, f71, f72⟩
                              have Rh73 : zMR ms148 h h73 := Rh62.tr Qh73 (by decide +kernel)
                              have Vh73 : mRq q h73 := Vh62.fr Qh73 (by decide +kernel)
                              have LMh73 := LMh62.fr Qh73 (by decide +kernel)
                              have NDh73 := NDh62.fr Qh73 (by decide +kernel)
                              have RYh73 := RY189.fr Qh73 (by decide +kernel)
                              have RFh73 := RFh62.fr Qh73 (by decide +kernel)
                              have th73_37_1 : fld h73 37 1 = fld h62 37 1 := Qh73.f (a1 := 37) (a2 := 37) (j1 := 1) (j2 := 2) (by decide +kernel) (by first | decide | exact ⟨by decide, by decide⟩) (by first | decide | exact ⟨by decide, by decide⟩)
                              have th73_37_2 : fld h73 37 2 = fld h62 37 2 := Qh73.f (a1 := 37) (a2 := 37) (j1 := 2) (j2 := 3) (by decide +kernel) (by first | decide | exact ⟨by decide, by decide⟩) (by first | decide | exact ⟨by decide, by decide⟩)
                              have th73_37_64 : fld h73 37 64 = fld h62 37 64 := Qh73.f (a1 := 37) (a2 := 37) (j1 := 64) (j2 := 65) (by decide +kernel) (by first | decide | exact ⟨by decide, by decide⟩) (by first | decide | exact ⟨by decide, by decide⟩)
                              have th73_37_86 : fld h73 37 86 = fld h62 37 86 := Qh73.f (a1 := 37) (a2 := 37) (j1 := 86) (j2 := 87) (by decide +kernel) (by first | decide | exact ⟨by decide, by decide⟩) (by first | decide | exact ⟨by decide, by decide⟩)
                              have th73_37_87 : fld h73 37 87 = fld h62 37 87 := Qh73.f (a1 := 37) (a2 := 37) (j1 := 87) (j2 := 88) (by decide +kernel) (by first | decide | exact ⟨by decide, by decide⟩) (by first | decide | exact ⟨by decide, by decide⟩)
                              have th73_37_88 : fld h73 37 88 = fld h62 37 88 := Qh73.f (a1 := 37) (a2 := 37) (j1 := 88) (j2 := 89) (by decide +kernel) (by first | decide | exact ⟨by decide, by decide⟩) (by first | decide | exact ⟨by decide, by decide⟩)
                              have kh73_91 : fld h73 91 = (fld h 91) := (Qh73.fa (a := 91) (by decide +kernel) rfl).trans kh62_91
                              have Zh73 : yM h73 = (yM h) := (yM_fr Qh73 (by decide +kernel) (Ih62.b (a1 := 37) (a2 := 37) (j1 := 86) (j2 := 87) (lo := 0) (hi := 6) (by decide +kernel) (r := 37) (j := 86) (by decide) (by decide) (by decide) (by decide)).2).trans Zh62
                              have A224 : v68 = yHf (yM h) a (kL10).toNat (iL22).toNat := by
                                have z := f72
                                rw [z, yFq_m (by omega) (by omega), Z224, VA224, VB224]
                                first | done | rfl
                              refine zwW_as Ih73 (a1 := 199) (a2 := 204) (n := 6) (lo := -1) (hi := 4608) (nx := 228) (by decide +kernel) (by first | omega | exact ⟨by omega, by omega⟩) ib8 (by first | omega | exact ⟨by omega, by omega⟩) ?_
                              intro h74 eh74 Ih74
                              have rbh74 : ((199 : Nat) : Int) ≤ (199 + kL10) ∧ (199 + kL10) ≤ ((204 : Nat) : Int) := (by first | omega | exact ⟨by omega, by omega⟩)
                              have jbh74 : 0 ≤ iL22.toNat ∧ iL22.toNat < 6 := ⟨Nat.zero_le _, zit ib8⟩
                              have th74_37_1 : fld h74 37 1 = fld h73 37 1 := by rw [eh74]; exact fld_wr (Or.inl (zne_l (by decide) rbh74.1))
                              have th74_37_2 : fld h74 37 2 = fld h73 37 2 := by rw [eh74]; exact fld_wr (Or.inl (zne_l (by decide) rbh74.1))
                              have th74_37_64 : fld h74 37 64 = fld h73 37 64 := by rw [eh74]; exact fld_wr (Or.inl (zne_l (by decide) rbh74.1))
                              have th74_37_86 : fld h74 37 86 = fld h73 37 86 := by rw [eh74]; exact fld_wr (Or.inl (zne_l (by decide) rbh74.1))
                              have th74_37_87 : fld h74 37 87 = fld h73 37 87 := by rw [eh74]; exact fld_wr (Or.inl (zne_l (by decide) rbh74.1))
                              have th74_37_88 : fld h74 37 88 = fld h73 37 88 := by rw [eh74]; exact fld_wr (Or.inl (zne_l (by decide) rbh74.1))
                              have E227 := eh74
                              have S227 := Ih73.s (r := (199 + kL10)) (a1 := 199) (a2 := 204) (k := 20) (n := 6) (by decide +kernel) (by omega) (by omega)
                              have Vh74 : mRq q h74 := Vh73.fr (zMR.one (a1 := 199) (a2 := 204) (j1 := 0) (j2 := 6) rbh74 jbh74 eh74) (by decide +kernel)
                              have LMh74 := LMh73.fr (zMR.one (a1 := 199) (a2 := 204) (j1 := 0) (j2 := 6) rbh74 jbh74 eh74) (by decide +kernel)
                              have NDh74 := NDh73.fr (zMR.one (a1 := 199) (a2 := 204) (j1 := 0) (j2 := 6) rbh74 jbh74 eh74) (by decide +kernel)
                              have RYh74 := RYh73.fr (zMR.one (a1 := 199) (a2 := 204) (j1 := 0) (j2 := 6) rbh74 jbh74 eh74) (by decide +kernel)
                              have kh74_91 : fld h74 91 = (fld h 91) := (funext fun j => fld_oth eh74 (Or.inl (zne_l (by decide) rbh74.1))).trans kh73_91
                              have Zh74 : yM h74 = (yM h) := (yM_fr (ms := [(199, 204, 0, 6)]) (zMR.one (a1 := 199) (a2 := 204) (j1 := 0) (j2 := 6) rbh74 jbh74 eh74) (by decide +kernel) (Ih73.b (a1 := 37) (a2 := 37) (j1 := 86) (j2 := 87) (lo := 0) (hi := 6) (by decide +kernel) (r := 37) (j := 86) (by decide) (by decide) (by decide) (by decide)).2).trans Zh73
                              have Rh74 : zMR ms148 h h74 := Rh73.w (a1 := 199) (a2 := 204) (j1 := 0) (j2 := 6) (by decide +kernel) rbh74 jbh74 eh74
                              have RF228 : mRf (yHd q (yM h) a) (kL10).toNat ((iL22).toNat + 1) h74 := RFh73.wx E227 (by omega) rfl (by omega) S227 A224
                              refine zwW_inc (i := 3) (c := 1) (x := iL22) (nx := 231) (by decide +kernel) rfl (by first | omega | exact ⟨by omega, by omega⟩) (ls' := [(2, 37), (0, a), (0, kL10), (0, (iL22 + 1))]) rfl ?_
                              refine zwW_p [(24, 133, 0)] (q := 133) (ls' := [(2, 37), (0, a), (0, kL10), (0, (iL22 + 1))]) (st' := []) (by decide +kernel) rfl ?_
                              exact IHL22 ((100 - (iL22 + 1))).toNat (by omega) (iL22 + 1) h74 rfl (by omega) (by omega) (Vh74) (LMh74) (NDh74) (by rw [show (iL22 + 1).toNat = (iL22).toNat + 1 by omega]; exact RYh74) (by rw [show (iL22 + 1).toNat = (iL22).toNat + 1 by omega]; exact RF228) (kh74_91) (Zh74) Ih74 Rh74
                    exact L22 _ 0 h21 rfl (by omega) (by omega) (Vh21) (LMh21) (ND131) (RYh21) (RFh21) (kh21_91) (Zh21) Ih21 Rh21
              exact L10 _ 0 (9, 0) hL7 rfl (by omega) (by omega) (iL7_3) (LM90) (fun j hj => absurd hj (Nat.not_lt_zero _)) (fun j v hj hv hk => by omega) (fun j v hj hv hk => by omega) (iL7_4) (iL7_5) IhL7 RhL7
            · refine zwW_p [(1, 1, 0), (1, 2, 0)] (q := 44) (ls' := [(2, 37), (0, a), (0, vL7), (9, 0)]) (st' := [(0, vL7), (0, a)]) (by decide +kernel) rfl ?_
              refine zwW_ib (a := 9) (nx := 45) (by decide +kernel) rfl ?_
              refine zwW_p [(0, 1, 0)] (q := 46) (ls' := [(2, 37), (0, a), (0, vL7), (9, 0)]) (st' := [(0, 1), (0, (i_shr a vL7))]) (by decide +kernel) rfl ?_
              refine zwW_ib (a := 5) (nx := 47) (by decide +kernel) rfl ?_
              refine zwif_ne (q := 53) (nx := 50) (by decide +kernel) (fun c75 => ?_) (fun c75 => ?_)
              · have YB53 : yBt a (((vL7).toNat : Nat) : Int) ≠ 0 := by
                  unfold yBt
                  rw [show (((vL7).toNat : Nat) : Int) = vL7 by omega]
                  omega
                have ML53 := yLc_mono (b := a) (n := (vL7).toNat + 1) (yM h 37 2).toNat (by omega)
                have MS53 : yLc a ((vL7).toNat + 1) = yLc a (vL7).toNat + 1 := by rw [yLc_s, if_neg YB53]
                refine zwW_p [(1, 0, 2)] (q := 54) (ls' := [(2, 37), (0, a), (0, vL7), (9, 0)]) (st' := [(2, 37)]) (by decide +kernel) rfl ?_
                refine zwW_gs IhL7 (kd := 13) (bn := 87) (n := 97) (t := 0) (lo := 0) (hi := 6) (nx := 57) (by decide +kernel) ?_
                intro v76 ev76 lv76 uv76
                refine zwW_p [(0, 6, 0)] (q := 59) (ls' := [(2, 37), (0, a), (0, vL7), (9, 0)]) (st' := [(0, 6), (0, v76)]) (by decide +kernel) rfl ?_
                refine zwic_ne (q := 64) (nx := 62) (by decide +kernel) (fun c77 => ?_) (fun c77 => ?_)
                · refine zwW_p [(1, 0, 2)] (q := 65) (ls' := [(2, 37), (0, a), (0, vL7), (9, 0)]) (st' := [(2, 37)]) (by decide +kernel) rfl ?_
                  refine zwW_gc IhL7 (kd := 13) (bn := 81) (n := 97) (c := 188) (nx := 68) (by decide +kernel) ?_
                  refine zwW_p [(1, 0, 2)] (q := 69) (ls' := [(2, 37), (0, a), (0, vL7), (9, 0)]) (st' := [(2, 37), (2, 188)]) (by decide +kernel) rfl ?_
                  refine zwW_gs IhL7 (kd := 13) (bn := 87) (n := 97) (t := 0) (lo := 0) (hi := 6) (nx := 72) (by decide +kernel) ?_
                  intro v78 ev78 lv78 uv78
                  refine zwW_p [(1, 2, 0)] (q := 73) (ls' := [(2, 37), (0, a), (0, vL7), (9, 0)]) (st' := [(0, vL7), (0, v78), (2, 188)]) (by decide +kernel) rfl ?_
                  have ib15 : 0 ≤ v78 ∧ v78 < ((6 : Nat) : Int) := (by first | omega | exact ⟨by omega, by omega⟩)
                  refine zwW_as IhL7 (a1 := 188) (a2 := 188) (n := 6) (lo := 0) (hi := 19) (nx := 74) (by decide +kernel) (by first | decide | exact ⟨by decide, by decide⟩) ib15 (by first | omega | exact ⟨by omega, by omega⟩) ?_
                  intro h79 eh79 Ih79
                  have jbh79 : 0 ≤ v78.toNat ∧ v78.toNat < 6 := ⟨Nat.zero_le _, zit ib15⟩
                  have th79_37_1 : fld h79 37 1 = fld hL7 37 1 := by rw [eh79]; exact fld_wr (Or.inl (by decide))
                  have th79_37_2 : fld h79 37 2 = fld hL7 37 2 := by rw [eh79]; exact fld_wr (Or.inl (by decide))
                  have th79_37_64 : fld h79 37 64 = fld hL7 37 64 := by rw [eh79]; exact fld_wr (Or.inl (by decide))
                  have th79_37_86 : fld h79 37 86 = fld hL7 37 86 := by rw [eh79]; exact fld_wr (Or.inl (by decide))
                  have th79_37_87 : fld h79 37 87 = fld hL7 37 87 := by rw [eh79]; exact fld_wr (Or.inl (by decide))
                  have th79_37_88 : fld h79 37 88 = fld hL7 37 88 := by rw [eh79]; exact fld_wr (Or.inl (by decide))
                  have E73 := eh79
                  have S73 := IhL7.s (r := 188) (a1 := 188) (a2 := 188) (k := 20) (n := 6) (by decide +kernel) (by decide) (by decide)
                  have Vh79 : mRq q h79 := iL7_3.fr (zMR.one (a1 := 188) (a2 := 188) (j1 := 0) (j2 := 6) (by first | decide | exact ⟨by decide, by decide⟩) jbh79 eh79) (by decide +kernel)
                  have kh79_91 : fld h79 91 = (fld h 91) := (funext fun j => fld_oth eh79 (Or.inl (by decide))).trans iL7_4
                  have Zh79 : yM h79 = (yM h) := (yM_fr (ms := [(188, 188, 0, 6)]) (zMR.one (a1 := 188) (a2 := 188) (j1 := 0) (j2 := 6) (by first | decide | exact ⟨by decide, by decide⟩) jbh79 eh79) (by decide +kernel) (IhL7.b (a1 := 37) (a2 := 37) (j1 := 86) (j2 := 87) (lo := 0) (hi := 6) (by decide +kernel) (r := 37) (j := 86) (by decide) (by decide) (by decide) (by decide)).2).trans iL7_5
                  have Rh79 : zMR ms148 h h79 := RhL7.w (a1 := 188) (a2 := 188) (j1 := 0) (j2 := 6) (by decide +kernel) (by first | decide | exact ⟨by decide, by decide⟩) jbh79 eh79
                  have LM74 : mLm (yLc a (vL7).toNat + 1) (fun i => if i = yLc a (vL7).toNat then (vL7).toNat else yLh a (vL7).toNat i) h79 := iL7_1.wx E73 (by omega) (by omega) S73 (by omega)
                  refine zwW_p [(1, 0, 2), (12, 0, 0)] (q := 76) (ls' := [(2, 37), (0, a), (0, vL7), (9, 0)]) (st' := [(2, 37), (2, 37)]) (by decide +kernel) rfl ?_
                  refine zwW_gs Ih79 (kd := 13) (bn := 87) (n := 97) (t := 0) (lo := 0) (hi := 6) (nx := 79) (by decide +kernel) ?_
                  intro v80 ev80 lv80 uv80
                  refine zwW_p [(0, 1, 0)] (q := 80) (ls' := [(2, 37), (0, a), (0, vL7), (9, 0)]) (st' := [(0, 1), (0, v80), (2, 37)]) (by decide +kernel) rfl ?_
                  refine zwW_add (nx := 81) (by decide +kernel) (by first | omega | exact ⟨by omega, by omega⟩) ?_
                  refine zwW_ps Ih79 (kd := 13) (bn := 87) (n := 97) (lo := 0) (hi := 6) (nx := 84) (by decide +kernel) (by first | omega | exact ⟨by omega, by omega⟩) ?_
                  intro h81 eh81 Ih81
                  have th81_37_1 : fld h81 37 1 = fld h79 37 1 := by rw [eh81]; exact fld_wr (by decide)
                  have th81_37_2 : fld h81 37 2 = fld h79 37 2 := by rw [eh81]; exact fld_wr (by decide)
                  have th81_37_64 : fld h81 37 64 = fld h79 37 64 := by rw [eh81]; exact fld_wr (by decide)
                  have th81_37_86 : fld h81 37 86 = fld h79 37 86 := by rw [eh81]; exact fld_wr (by decide)
                  have th81_37_87 : fld h81 37 87 = (v80 + 1) := by rw [eh81]; exact fld_wr_eq (Ih79.s (a1 := 37) (a2 := 37) (k := 13) (n := 97) (by decide +kernel) (by decide) (by decide)) (by decide)
                  have th81_37_88 : fld h81 37 88 = fld h79 37 88 := by rw [eh81]; exact fld_wr (by decide)
                  have Vh81 : mRq q h81 := Vh79.fr (zMR.one (a1 := 37) (a2 := 37) (j1 := 87) (j2 := 88) (by first | decide | exact ⟨by decide, by decide⟩) (by first | decide | exact ⟨by decide, by decide⟩) eh81) (by decide +kernel)
                  have LMh81 := LM74.fr (zMR.one (a1 := 37) (a2 := 37) (j1 := 87) (j2 := 88) (by first | decide | exact ⟨by decide, by decide⟩) (by first | decide | exact ⟨by decide, by decide⟩) eh81) (by decide +kernel)
                  have kh81_91 : fld h81 91 = (fld h 91) := (funext fun j => fld_oth eh81 (Or.inl (by decide))).trans kh79_91
                  have Zh81 : yM h81 = (yM h) := (yM_fr (ms := [(37, 37, 87, 88)]) (zMR.one (a1 := 37) (a2 := 37) (j1 := 87) (j2 := 88) (by first | decide | exact ⟨by decide, by decide⟩) (by first | decide | exact ⟨by decide, by decide⟩) eh81) (by decide +kernel) (Ih79.b (a1 := 37) (a2 := 37) (j1 := 86) (j2 := 87) (lo := 0) (hi := 6) (by decide +kernel) (r := 37) (j := 86) (by decide) (by decide) (by decide) (by decide)).2).trans Zh79
                  have Rh81 : zMR ms148 h h81 := Rh79.w (a1 := 37) (a2 := 37) (j1 := 87) (j2 := 88) (by decide +kernel) (by first | decide | exact ⟨by decide, by decide⟩) (by first | decide | exact ⟨by decide, by decide⟩) eh81
                  have XL84 : mLm (yLc a ((vL7).toNat + 1)) (yLh a ((vL7).toNat + 1)) h81 ∧ yLc a ((vL7).toNat + 1) ≤ 6 ∧ fld h81 37 87 = ((yLc a ((vL7).toNat + 1) : Nat) : Int) := by
                    first
                    | exact ⟨LMh81.lb YB53, by omega, by omega⟩
                    | exact yLc_sk LMh81 (by unfold yBt; rw [show (((vL7).toNat : Nat) : Int) = vL7 by omega]; omega) (by omega) (by omega)
                  refine zwW_inc (i := 2) (c := 1) (x := vL7) (nx := 87) (by decide +kernel) rfl (by first | omega | exact ⟨by omega, by omega⟩) (ls' := [(2, 37), (0, a), (0, (vL7 + 1)), (9, 0)]) rfl ?_
                  refine zwW_p [(24, 34, 0)] (q := 34) (ls' := [(2, 37), (0, a), (0, (vL7 + 1)), (9, 0)]) (st' := []) (by decide +kernel) rfl ?_
                  exact IHL7 ((100 - (vL7 + 1))).toNat (by omega) (vL7 + 1) h81 rfl (by omega) (by rw [show (vL7 + 1).toNat = (vL7).toNat + 1 by omega]; exact XL84.1) (by rw [show (vL7 + 1).toNat = (vL7).toNat + 1 by omega]; exact XL84.2) (Vh81) (kh81_91) (Zh81) Ih81 Rh81
                · refine zwW_p [(0, 0, 0)] (q := 63) (ls' := [(2, 37), (0, a), (0, vL7), (9, 0)]) (st' := [(0, 0)]) (by decide +kernel) rfl ?_
                  refine zwW_ret (nx := 64) (a := 1) (b := 0) (by decide +kernel) rfl (Or.inr (Or.inl ⟨rfl, Or.inl rfl⟩)) ?_
                  exact ⟨IhL7, RhL7, Or.inr ⟨rfl, by intro KK; have k2b := KK.2.1.2; rw [← S9] at k2b; have k1 := KK.1; have k2 := KK.2.1.1; have k4 := KK.2.2.2; first | omega | exact yHok_z (S := yM h) (by omega) (by rw [show a = 0 by omega] at KK; exact KK)⟩⟩
              · refine zwW_p [(24, 84, 0)] (q := 84) (ls' := [(2, 37), (0, a), (0, vL7), (9, 0)]) (st' := []) (by decide +kernel) rfl ?_
                have XL84 : mLm (yLc a ((vL7).toNat + 1)) (yLh a ((vL7).toNat + 1)) hL7 ∧ yLc a ((vL7).toNat + 1) ≤ 6 ∧ fld hL7 37 87 = ((yLc a ((vL7).toNat + 1) : Nat) : Int) := by
                  first
                  | exact ⟨iL7_1.lb YB53, by omega, by omega⟩
                  | exact yLc_sk iL7_1 (by unfold yBt; rw [show (((vL7).toNat : Nat) : Int) = vL7 by omega]; omega) (by omega) (by omega)
                refine zwW_inc (i := 2) (c := 1) (x := vL7) (nx := 87) (by decide +kernel) rfl (by first | omega | exact ⟨by omega, by omega⟩) (ls' := [(2, 37), (0, a), (0, (vL7 + 1)), (9, 0)]) rfl ?_
                refine zwW_p [(24, 34, 0)] (q := 34) (ls' := [(2, 37), (0, a), (0, (vL7 + 1)), (9, 0)]) (st' := []) (by decide +kernel) rfl ?_
                exact IHL7 ((100 - (vL7 + 1))).toNat (by omega) (vL7 + 1) hL7 rfl (by omega) (by rw [show (vL7 + 1).toNat = (vL7).toNat + 1 by omega]; exact XL84.1) (by rw [show (vL7 + 1).toNat = (vL7).toNat + 1 by omega]; exact XL84.2) (iL7_3) (iL7_4) (iL7_5) IhL7 RhL7
        exact L7 _ 0 h6 rfl (by omega) (LM27) (by show 0 ≤ 6 ∧ fld h6 37 87 = 0; omega) (Vh6) (kh6_91) (Zh6) Ih6 Rh6
      · refine zwW_p [(0, 0, 0)] (q := 26) (ls' := [(2, 37), (0, a), (9, 0), (9, 0)]) (st' := [(0, 0)]) (by decide +kernel) rfl ?_
        refine zwW_ret (nx := 27) (a := 1) (b := 0) (by decide +kernel) rfl (Or.inr (Or.inl ⟨rfl, Or.inl rfl⟩)) ?_
        exact ⟨I, R, Or.inr ⟨rfl, by intro KK; have k2b := KK.2.1.2; rw [← S9] at k2b; have k1 := KK.1; have k2 := KK.2.1.1; have k4 := KK.2.2.2; first | omega | exact yHok_z (S := yM h) (by omega) (by rw [show a = 0 by omega] at KK; exact KK)⟩⟩
  · refine zwif_eq (q := 25) (nx := 18) (by decide +kernel) (fun c82 => ?_) (fun c82 => ?_)
    · refine zwW_p [(0, 0, 0)] (q := 26) (ls' := [(2, 37), (0, a), (9, 0), (9, 0)]) (st' := [(0, 0)]) (by decide +kernel) rfl ?_
      refine zwW_ret (nx := 27) (a := 1) (b := 0) (by decide +kernel) rfl (Or.inr (Or.inl ⟨rfl, Or.inl rfl⟩)) ?_
      exact ⟨I, R, Or.inr ⟨rfl, by intro KK; have k2b := KK.2.1.2; rw [← S9] at k2b; have k1 := KK.1; have k2 := KK.2.1.1; have k4 := KK.2.2.2; first | omega | exact yHok_z (S := yM h) (by omega) (by rw [show a = 0 by omega] at KK; exact KK)⟩⟩
    · exfalso; omega
-- WheelLandModel.hands(II)I
theorem m50_z {sc : List Int} (h : Hp) (I : zI h) (a b : Int) (q : qT) (q_a : -2147483648 ≤ a ∧ a ≤ 2147483647) (V : mRq q h) (ok : yOK (yM h)) (LF : yLf (yM h)) (HA : yHa (yM h)) (BR : ∀ k : Nat, (k : Int) < yM h 37 2 → yM h 91 k ≤ 1000) (PF8 : yF8 (yM h)) (hR : zRO h) : zwC sc 82 50 [(2, 37), (0, a), (0, b)] h (zwRt 0 (fun x g => zI g ∧ zMR ms50 h g ∧ (-2147483648 ≤ x ∧ x ≤ 2147483647) ∧ (x = yHnA q (yM h) a b))) := by
  refine zwC_of (D := 81) 3 (by decide +kernel) rfl (ls := [(2, 37), (0, a), (0, b)]) rfl ?_
  have R : zMR ms50 h h := zMR.rf _ _
  have u0 : yM h 37 0 = fld h 37 0 := rfl
  have u1 : yM h 37 1 = fld h 37 1 := rfl
  have u2 : yM h 37 2 = fld h 37 2 := rfl
  have u64 : yM h 37 64 = fld h 37 64 := rfl
  have u86 : yM h 37 86 = fld h 37 86 := rfl
  have HA1 := HA.1
  refine zwW_p [(1, 0, 2), (1, 1, 0)] (q := 2) (ls' := [(2, 37), (0, a), (0, b)]) (st' := [(0, a), (2, 37)]) (by decide +kernel) rfl ?_
  refine zwW_cm I (op := 60) (k' := 148) (n := 1) (kd := 13) (m := 97) (nx := 5) (r := 37) (tl := [(0, a)]) (st' := []) (by decide +kernel) rfl (by decide +kernel) rfl (m148_z h I a q (by omega) V ok LF HA BR PF8 hR) ?_
  rintro x h1 ⟨Ih1, Qh1, ⟨rfl, f2, f3, f4, f5⟩ | ⟨rfl, f6⟩⟩
  · have Rh1 : zMR ms50 h h1 := R.tr Qh1 (by decide +kernel)
    have Zh1 : yM h1 = (yM h) := (yM_fr Qh1 (by decide +kernel) (I.b (a1 := 37) (a2 := 37) (j1 := 86) (j2 := 87) (lo := 0) (hi := 6) (by decide +kernel) (r := 37) (j := 86) (by decide) (by decide) (by decide) (by decide)).2).trans (rfl : yM h = yM h)
    have th1_37_86 : fld h1 37 86 = fld h 37 86 := Qh1.f (a1 := 37) (a2 := 37) (j1 := 86) (j2 := 87) (by decide +kernel) (by first | decide | exact ⟨by decide, by decide⟩) (by first | decide | exact ⟨by decide, by decide⟩)
    refine zwif_ne (q := 10) (nx := 8) (by decide +kernel) (fun c7 => ?_) (fun c7 => ?_)
    · have OK := f2
      have BD := yHd_ok (q := q) (b := a) ok PF8 LF HA OK.2.2.2
      refine zwW_p [(1, 2, 0), (7, 0, 0), (0, 10, 1), (0, 9, 0), (1, 0, 2)] (q := 18) (ls' := [(2, 37), (0, a), (0, b)]) (st' := [(2, 37), (0, 9), (1, 10), (1, b)]) (by decide +kernel) rfl ?_
      refine zwW_gs Ih1 (kd := 13) (bn := 86) (n := 97) (t := 0) (lo := 0) (hi := 6) (nx := 21) (by decide +kernel) ?_
      intro v8 ev8 lv8 uv8
      have sv8 : v8 = (yM h) 37 86 := Eq.trans ev8 (Eq.trans (Eq.symm (yM_s (h := h1) (i := 86) rfl)) (Eq.trans (congrFun (congrFun Zh1 37) 86) rfl))
      refine zwW_add (nx := 22) (by decide +kernel) (by first | omega | exact ⟨by omega, by omega⟩) ?_
      refine zwW_p [(7, 0, 0)] (q := 23) (ls' := [(2, 37), (0, a), (0, b)]) (st' := [(1, (9 + v8)), (1, 10), (1, b)]) (by decide +kernel) rfl ?_
      refine zwW_cs (k' := 101) (n := 3) (nx := 26) (as := [(1, b), (1, 10), (1, (9 + v8))]) (st' := []) (by decide +kernel) rfl (m101 h1 b 10 (9 + v8)) rfl ?_
      rintro x _ ⟨rfl, ⟨rfl, c9⟩ | ⟨rfl, c9⟩⟩
      · refine zwif_eq (q := 61) (nx := 29) (by decide +kernel) (fun c10 => ?_) (fun c10 => ?_)
        · exfalso; omega
        · refine zwW_p [(1, 0, 2)] (q := 30) (ls' := [(2, 37), (0, a), (0, b)]) (st' := [(2, 37)]) (by decide +kernel) rfl ?_
          refine zwW_gc Ih1 (kd := 13) (bn := 83) (n := 97) (c := 190) (nx := 33) (by decide +kernel) ?_
          refine zwW_p [(1, 2, 0), (0, 10, 0)] (q := 36) (ls' := [(2, 37), (0, a), (0, b)]) (st' := [(0, 10), (0, b), (2, 190)]) (by decide +kernel) rfl ?_
          refine zwW_sub (nx := 37) (by decide +kernel) (by first | omega | exact ⟨by omega, by omega⟩) ?_
          have ib1 : 0 ≤ (b - 10) ∧ (b - 10) < ((6 : Nat) : Int) := (by first | omega | exact ⟨by omega, by omega⟩)
          refine zwW_al Ih1 (a1 := 190) (a2 := 190) (kd := 20) (n := 6) (t := 0) (lo := -1) (hi := 5) (nx := 38) (by decide +kernel) (by first | decide | exact ⟨by decide, by decide⟩) ib1 ?_
          intro v11 ev11 lv11 uv11
          have W38 : v11 = (yHX q (yM h) a).2 (b - 10).toNat := ev11.trans (f4 (b - 10).toNat (by show _ < fld h 37 86; omega))
          have IN38 := yHX_in BD (b - 10).toNat (by show _ < (fld h 37 86).toNat; omega)
          refine zwW_p [(0, -1, 0)] (q := 39) (ls' := [(2, 37), (0, a), (0, b)]) (st' := [(0, -1), (0, v11)]) (by decide +kernel) rfl ?_
          refine zwic_ne (q := 46) (nx := 42) (by decide +kernel) (fun c12 => ?_) (fun c12 => ?_)
          · refine zwW_p [(1, 0, 2)] (q := 47) (ls' := [(2, 37), (0, a), (0, b)]) (st' := [(2, 37)]) (by decide +kernel) rfl ?_
            refine zwW_gc Ih1 (kd := 13) (bn := 81) (n := 97) (c := 188) (nx := 50) (by decide +kernel) ?_
            refine zwW_p [(1, 0, 2)] (q := 51) (ls' := [(2, 37), (0, a), (0, b)]) (st' := [(2, 37), (2, 188)]) (by decide +kernel) rfl ?_
            refine zwW_gc Ih1 (kd := 13) (bn := 83) (n := 97) (c := 190) (nx := 54) (by decide +kernel) ?_
            refine zwW_p [(1, 2, 0), (0, 10, 0)] (q := 57) (ls' := [(2, 37), (0, a), (0, b)]) (st' := [(0, 10), (0, b), (2, 190), (2, 188)]) (by decide +kernel) rfl ?_
            refine zwW_sub (nx := 58) (by decide +kernel) (by first | omega | exact ⟨by omega, by omega⟩) ?_
            refine zwW_al Ih1 (a1 := 190) (a2 := 190) (kd := 20) (n := 6) (t := 0) (lo := -1) (hi := 5) (nx := 59) (by decide +kernel) (by first | decide | exact ⟨by decide, by decide⟩) ib1 ?_
            intro v13 ev13 lv13 uv13
            have W59 : v13 = (yHX q (yM h) a).2 (b - 10).toNat := ev13.trans (f4 (b - 10).toNat (by show _ < fld h 37 86; omega))
            have ib2 : 0 ≤ v13 ∧ v13 < ((6 : Nat) : Int) := (by first | omega | exact ⟨by omega, by omega⟩)
            refine zwW_al Ih1 (a1 := 188) (a2 := 188) (kd := 20) (n := 6) (t := 0) (lo := 0) (hi := 19) (nx := 60) (by decide +kernel) (by first | decide | exact ⟨by decide, by decide⟩) ib2 ?_
            intro v14 ev14 lv14 uv14
            refine zwW_ret (nx := 61) (a := 0) (b := 0) (by decide +kernel) rfl (Or.inl rfl) ?_
            exact ⟨Ih1, Rh1, by omega, by first | exact (yHnA_n f2).symm | exact (ev14.trans f3.1).trans (yHnA_0 OK (by omega)).symm | exact (ev14.trans f3.2.1).trans (yHnA_1 OK (by omega)).symm | exact (ev14.trans f3.2.2).trans (yHnA_2 OK (by omega)).symm | exact (yHnA_u (by show ¬ ((0 ≤ b ∧ b ≤ 2) ∨ (10 ≤ b ∧ b ≤ 9 + fld h 37 86)); omega)).symm | (rw [yHnA_w OK ⟨by omega, by show _ ≤ 9 + fld h 37 86; omega⟩]; unfold yHw; rw [← W38]; first | (rw [if_neg (by omega)]; done) | (rw [if_pos ⟨by omega, by omega⟩]; refine ev14.trans ?_; rw [W59, ← W38]; exact f5 _ (by omega)))⟩
          · refine zwW_p [(0, -1, 0), (24, 60, 0)] (q := 60) (ls' := [(2, 37), (0, a), (0, b)]) (st' := [(0, -1)]) (by decide +kernel) rfl ?_
            refine zwW_ret (nx := 61) (a := 0) (b := 0) (by decide +kernel) rfl (Or.inl rfl) ?_
            exact ⟨Ih1, Rh1, by omega, by first | exact (yHnA_n f2).symm | exact (rfl.trans f3.1).trans (yHnA_0 OK (by omega)).symm | exact (rfl.trans f3.2.1).trans (yHnA_1 OK (by omega)).symm | exact (rfl.trans f3.2.2).trans (yHnA_2 OK (by omega)).symm | exact (yHnA_u (by show ¬ ((0 ≤ b ∧ b ≤ 2) ∨ (10 ≤ b ∧ b ≤ 9 + fld h 37 86)); omega)).symm | (rw [yHnA_w OK ⟨by omega, by show _ ≤ 9 + fld h 37 86; omega⟩]; unfold yHw; rw [← W38]; first | (rw [if_neg (by omega)]; done) | (rw [if_pos ⟨by omega, by omega⟩]; refine rfl.trans ?_; rw [W59, ← W38]; exact f5 _ (by omega)))⟩
      · refine zwif_eq (q := 61) (nx := 29) (by decide +kernel) (fun c15 => ?_) (fun c15 => ?_)
        · refine zwW_p [(1, 2, 0)] (q := 62) (ls' := [(2, 37), (0, a), (0, b)]) (st' := [(0, b)]) (by decide +kernel) rfl ?_
          refine zwif_ne (q := 72) (nx := 65) (by decide +kernel) (fun c16 => ?_) (fun c16 => ?_)
          · refine zwW_p [(1, 2, 0), (0, 1, 0)] (q := 74) (ls' := [(2, 37), (0, a), (0, b)]) (st' := [(0, 1), (0, b)]) (by decide +kernel) rfl ?_
            refine zwic_ne (q := 84) (nx := 77) (by decide +kernel) (fun c17 => ?_) (fun c17 => ?_)
            · refine zwW_p [(1, 2, 0), (0, 2, 0)] (q := 86) (ls' := [(2, 37), (0, a), (0, b)]) (st' := [(0, 2), (0, b)]) (by decide +kernel) rfl ?_
              refine zwic_ne (q := 96) (nx := 89) (by decide +kernel) (fun c18 => ?_) (fun c18 => ?_)
              · refine zwW_p [(0, -1, 0)] (q := 97) (ls' := [(2, 37), (0, a), (0, b)]) (st' := [(0, -1)]) (by decide +kernel) rfl ?_
                refine zwW_ret (nx := 98) (a := 0) (b := 0) (by decide +kernel) rfl (Or.inl rfl) ?_
                exact ⟨Ih1, Rh1, by omega, by first | exact (yHnA_n f2).symm | exact (rfl.trans f3.1).trans (yHnA_0 OK (by omega)).symm | exact (rfl.trans f3.2.1).trans (yHnA_1 OK (by omega)).symm | exact (rfl.trans f3.2.2).trans (yHnA_2 OK (by omega)).symm | exact (yHnA_u (by show ¬ ((0 ≤ b ∧ b ≤ 2) ∨ (10 ≤ b ∧ b ≤ 9 + fld h 37 86)); omega)).symm | (rw [yHnA_w OK ⟨by omega, by show _ ≤ 9 + fld h 37 86; omega⟩]; unfold yHw; rw [← W38]; first | (rw [if_neg (by omega)]; done) | (rw [if_pos ⟨by omega, by omega⟩]; refine rfl.trans ?_; rw [W59, ← W38]; exact f5 _ (by omega)))⟩
              · refine zwW_p [(1, 0, 2)] (q := 90) (ls' := [(2, 37), (0, a), (0, b)]) (st' := [(2, 37)]) (by decide +kernel) rfl ?_
                refine zwW_gs Ih1 (kd := 13) (bn := 90) (n := 97) (t := 0) (lo := -2147483648) (hi := 2147483647) (nx := 93) (by decide +kernel) ?_
                intro v19 ev19 lv19 uv19
                refine zwW_p [(24, 97, 0)] (q := 97) (ls' := [(2, 37), (0, a), (0, b)]) (st' := [(0, v19)]) (by decide +kernel) rfl ?_
                refine zwW_ret (nx := 98) (a := 0) (b := 0) (by decide +kernel) rfl (Or.inl rfl) ?_
                exact ⟨Ih1, Rh1, by omega, by first | exact (yHnA_n f2).symm | exact (ev19.trans f3.1).trans (yHnA_0 OK (by omega)).symm | exact (ev19.trans f3.2.1).trans (yHnA_1 OK (by omega)).symm | exact (ev19.trans f3.2.2).trans (yHnA_2 OK (by omega)).symm | exact (yHnA_u (by show ¬ ((0 ≤ b ∧ b ≤ 2) ∨ (10 ≤ b ∧ b ≤ 9 + fld h 37 86)); omega)).symm | (rw [yHnA_w OK ⟨by omega, by show _ ≤ 9 + fld h 37 86; omega⟩]; unfold yHw; rw [← W38]; first | (rw [if_neg (by omega)]; done) | (rw [if_pos ⟨by omega, by omega⟩]; refine ev19.trans ?_; rw [W59, ← W38]; exact f5 _ (by omega)))⟩
            · refine zwW_p [(1, 0, 2)] (q := 78) (ls' := [(2, 37), (0, a), (0, b)]) (st' := [(2, 37)]) (by decide +kernel) rfl ?_
              refine zwW_gs Ih1 (kd := 13) (bn := 89) (n := 97) (t := 0) (lo := -2147483648) (hi := 2147483647) (nx := 81) (by decide +kernel) ?_
              intro v20 ev20 lv20 uv20
              refine zwW_p [(24, 97, 0)] (q := 97) (ls' := [(2, 37), (0, a), (0, b)]) (st' := [(0, v20)]) (by decide +kernel) rfl ?_
              refine zwW_ret (nx := 98) (a := 0) (b := 0) (by decide +kernel) rfl (Or.inl rfl) ?_
              exact ⟨Ih1, Rh1, by omega, by first | exact (yHnA_n f2).symm | exact (ev20.trans f3.1).trans (yHnA_0 OK (by omega)).symm | exact (ev20.trans f3.2.1).trans (yHnA_1 OK (by omega)).symm | exact (ev20.trans f3.2.2).trans (yHnA_2 OK (by omega)).symm | exact (yHnA_u (by show ¬ ((0 ≤ b ∧ b ≤ 2) ∨ (10 ≤ b ∧ b ≤ 9 + fld h 37 86)); omega)).symm | (rw [yHnA_w OK ⟨by omega, by show _ ≤ 9 + fld h 37 86; omega⟩]; unfold yHw; rw [← W38]; first | (rw [if_neg (by omega)]; done) | (rw [if_pos ⟨by omega, by omega⟩]; refine ev20.trans ?_; rw [W59, ← W38]; exact f5 _ (by omega)))⟩
          · refine zwW_p [(1, 0, 2)] (q := 66) (ls' := [(2, 37), (0, a), (0, b)]) (st' := [(2, 37)]) (by decide +kernel) rfl ?_
            refine zwW_gs Ih1 (kd := 13) (bn := 88) (n := 97) (t := 0) (lo := -2147483648) (hi := 2147483647) (nx := 69) (by decide +kernel) ?_
            intro v21 ev21 lv21 uv21
            refine zwW_p [(24, 97, 0)] (q := 97) (ls' := [(2, 37), (0, a), (0, b)]) (st' := [(0, v21)]) (by decide +kernel) rfl ?_
            refine zwW_ret (nx := 98) (a := 0) (b := 0) (by decide +kernel) rfl (Or.inl rfl) ?_
            exact ⟨Ih1, Rh1, by omega, by first | exact (yHnA_n f2).symm | exact (ev21.trans f3.1).trans (yHnA_0 OK (by omega)).symm | exact (ev21.trans f3.2.1).trans (yHnA_1 OK (by omega)).symm | exact (ev21.trans f3.2.2).trans (yHnA_2 OK (by omega)).symm | exact (yHnA_u (by show ¬ ((0 ≤ b ∧ b ≤ 2) ∨ (10 ≤ b ∧ b ≤ 9 + fld h 37 86)); omega)).symm | (rw [yHnA_w OK ⟨by omega, by show _ ≤ 9 + fld h 37 86; omega⟩]; unfold yHw; rw [← W38]; first | (rw [if_neg (by omega)]; done) | (rw [if_pos ⟨by omega, by omega⟩]; refine ev21.trans ?_; rw [W59, ← W38]; exact f5 _ (by omega)))⟩
        · exfalso; omega
    · exfalso; omega
  · have Rh1 : zMR ms50 h h1 := R.tr Qh1 (by decide +kernel)
    have Zh1 : yM h1 = (yM h) := (yM_fr Qh1 (by decide +kernel) (I.b (a1 := 37) (a2 := 37) (j1 := 86) (j2 := 87) (lo := 0) (hi := 6) (by decide +kernel) (r := 37) (j := 86) (by decide) (by decide) (by decide) (by decide)).2).trans (rfl : yM h = yM h)
    have th1_37_86 : fld h1 37 86 = fld h 37 86 := Qh1.f (a1 := 37) (a2 := 37) (j1 := 86) (j2 := 87) (by decide +kernel) (by first | decide | exact ⟨by decide, by decide⟩) (by first | decide | exact ⟨by decide, by decide⟩)
    refine zwif_ne (q := 10) (nx := 8) (by decide +kernel) (fun c22 => ?_) (fun c22 => ?_)
    · exfalso; omega
    · refine zwW_p [(0, -1, 0)] (q := 9) (ls' := [(2, 37), (0, a), (0, b)]) (st' := [(0, -1)]) (by decide +kernel) rfl ?_
      refine zwW_ret (nx := 10) (a := 0) (b := 0) (by decide +kernel) rfl (Or.inl rfl) ?_
      exact ⟨Ih1, Rh1, by omega, by first | exact (yHnA_n f6).symm | exact (rfl.trans trivial.1).trans (yHnA_0 OK (by omega)).symm | exact (rfl.trans trivial.2.1).trans (yHnA_1 OK (by omega)).symm | exact (rfl.trans trivial.2.2).trans (yHnA_2 OK (by omega)).symm | exact (yHnA_u (by show ¬ ((0 ≤ b ∧ b ≤ 2) ∨ (10 ≤ b ∧ b ≤ 9 + fld h 37 86)); omega)).symm | (rw [yHnA_w OK ⟨by omega, by show _ ≤ 9 + fld h 37 86; omega⟩]; unfold yHw; rw [← W38]; first | (rw [if_neg (by omega)]; done) | (rw [if_pos ⟨by omega, by omega⟩]; refine rfl.trans ?_; rw [W59, ← W38]; exact trivial _ (by omega)))⟩
end
section
/-! what is left of every lot: kept by every call -/
section YLF
variable {h g : Hp} {S T : zT} {q : qT} {a b c s x y z : Int} {ms : Zms} {k l n : Nat}
theorem yLf.of (F : yLf S) (t64 : T 37 64 = S 37 64) (t : ∀ l : Nat, (l : Int) < S 37 64 → T 175 l = S 175 l) : yLf T := fun l hl => by
  rw [t64] at hl
  rw [t l hl]
  exact F l hl
theorem yLf.fr (F : yLf (yM h)) (R : zXR ms c s h g) (e : (zqN ms 37 37 64 65 && zqN ms 175 175 0 300) = true) : yLf (yM g) := by
  rw [Bool.and_eq_true] at e
  refine F.of ?_ (fun l hl => ?_)
  · exact R.f e.1 (r := 37) (by first | decide | exact ⟨by decide, by decide⟩) (by first | decide | exact ⟨by decide, by decide⟩) (by first | decide | exact ⟨by decide, by decide⟩)
  · by_cases z : l < 300
    · rw [yM_p (a := 175) (n := 300) rfl z, yM_p (a := 175) (n := 300) rfl z]
      exact R.f e.2 (by first | decide | exact ⟨by decide, by decide⟩) ⟨Nat.zero_le _, z⟩ (by first | decide | exact ⟨by decide, by decide⟩)
    · rw [yM_o (by decide) (by decide) (show 300 ≤ l by omega), yM_o (by decide) (by decide) (show 300 ≤ l by omega)]
theorem yLf.ly1 (F : yLf S) (B : zBs S) (hk : (k : Int) < S 37 2) : yLf (yLy1 S k) := by
  have xb := yX_b B (yEp_4 (S := S)) hk
  have n64 := B.2.2.1
  unfold yLy1
  split
  · intro l hl
    rw [zs_eq] at hl
    rw [zs_na (by decide), zs_if]
    by_cases z : l = (S 37 64).toNat
    · rw [if_pos ⟨rfl, z⟩]
      omega
    · rw [if_neg (fun w => z w.2), zs_na (by decide), zs_na (by decide), zs_na (by decide), zs_na (by decide), zs_na (by decide), zs_na (by decide), zs_na (by decide)]
      exact F l (by omega)
  · exact F.of (zs_na (by decide)) (fun l _ => zs_na (by decide))
theorem yLf.lyn (F : yLf S) (B : zBs S) : ∀ k : Nat, (k : Int) ≤ S 37 2 → yLf (yLyN S k)
  | 0, _ => F
  | k + 1, hk => by
    rw [yLyN_s]
    exact (F.lyn B k (by omega)).ly1 (B.lyn (by omega)) (by rw [(yLyN_e B (k := k) (by omega)).2.1]; omega)
theorem yWk5_l {a i : Nat} (e : a = 175 ∨ (a = 37 ∧ i = 64)) : yWk5 q S a i = yLyA S a i := by
  have e3 : yWk3 q S a i = yLyA S a i := (yWrA_n (by omega)).trans (yBys_n (by omega) _)
  unfold yWk5
  split
  · rw [ySea_n (by omega), e3]
  · exact e3
theorem yLf.wk (F : yLf S) (B : zBs S) : yLf (yWkC q S) := by
  have b := B.2.2.2.2.2
  have F1 : yLf (yLyA S) := F.lyn B _ (by omega)
  refine F1.of ?_ (fun l _ => ?_)
  · exact (yWkC_n (by omega)).trans (yWk5_l (by omega))
  · exact (yWkC_n (by omega)).trans (yWk5_l (by omega))
theorem yLf.go (F : yLf S) (V : yIv S) : ∀ k : Nat, yLf (yGoN q S k)
  | 0 => F
  | k + 1 => by
    rw [yGoN_s]
    split
    · exact (F.go V k).wk (V.go k).1.2.1
    · exact F.go V k
theorem yLf.gof (F : yLf S) (V : yIv S) : yLf (yGoF q S x) := by
  unfold yGoF
  split
  · exact F.go V _
  · exact F
theorem yLf.wv (F : yLf S) (V : yIv S) : yLf (yWvF q S x y z) := by
  unfold yWvF
  split
  · rename_i w
    obtain ⟨⟨w1, w2, w3⟩, w4, w5, w6⟩ := w
    have f := F y.toNat (by omega)
    have u : z ≤ S 175 y.toNat := by
      unfold yBarF at w6
      by_cases z1 : yLbar q S x.toNat y.toNat z ≠ 0
      · rw [if_pos z1] at w6
        exact absurd w6 z1
      · rw [if_neg z1] at w6
        by_cases z2 : S 175 y.toNat < z
        · rw [if_pos z2] at w6
          exact absurd w6 (by decide)
        · omega
    unfold yWvS
    intro l hl
    rw [zs_ni (by decide), zs_ni (by decide), zs_na (by decide), zs_na (by decide), zs_na (by decide), zs_na (by decide), zs_na (by decide), zs_na (by decide), zs_na (by decide), zs_na (by decide), zs_na (by decide), zs_na (by decide)] at hl
    rw [zs_na (by decide), zs_na (by decide), zs_na (by decide), zs_na (by decide), zs_na (by decide), zs_na (by decide), zs_na (by decide), zs_na (by decide), zs_if]
    by_cases z1 : l = y.toNat
    · rw [if_pos ⟨rfl, z1⟩, w32_id ⟨by omega, by omega⟩]
      omega
    · rw [if_neg (fun w => z1 w.2), zs_na (by decide), zs_na (by decide), zs_na (by decide)]
      exact F l hl
  · exact F
theorem yLf.pay (F : yLf S) : yLf (yPay S x y z) := by
  unfold yPay
  split
  · rename_i w
    obtain ⟨w1, w2, w3⟩ := w
    have f := F y.toNat (by omega)
    have e : w32 (S 175 y.toNat - z) = S 175 y.toNat - z := w32_id (by first | omega | exact ⟨by omega, by omega⟩)
    have G : yLf (zs S 175 y.toNat (w32 (S 175 y.toNat - z))) := fun l hl => by
      rw [zs_na (by decide)] at hl
      rw [zs_if]
      by_cases q : l = y.toNat
      · rw [if_pos ⟨rfl, q⟩, e]
        omega
      · rw [if_neg (fun w => q w.2)]
        exact F l hl
    split
    · exact G.of ((zs_ni (by decide)).trans (zs_na (by decide))) (fun l _ => (zs_na (by decide)).trans (zs_na (by decide)))
    · exact G.of ((zs_ni (by decide)).trans ((zs_na (by decide)).trans (zs_na (by decide)))) (fun l _ => (zs_na (by decide)).trans ((zs_na (by decide)).trans (zs_na (by decide))))
  · exact F
theorem yLf_start (e : wkD h = true) : yLf (yM h) := by
  unfold wkD at e
  simp only [Bool.and_eq_true, List.all_eq_true] at e
  obtain ⟨e1, e2, e3, e4, e5⟩ := e
  have w : fld h 37 64 = 0 := of_decide_eq_true (e3 64 (by decide)).1
  have q : yM h 37 64 = 0 := w
  exact fun l hl => by omega
end YLF
end
