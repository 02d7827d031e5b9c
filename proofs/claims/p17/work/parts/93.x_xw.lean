/-! joined: 93.x_xw 93.y_mw 94.0_wh 94.a_inv 94.b_inv -/
section
/-! contracts of the class -/
-- WheelLand.daysBetween(LWheelLand$Village;LWheelLand$Village;)I
theorem x105_z {sc : List Int} (h : Hp) (C : CI h) (r y : Int) (G_r : gV h r) (G_y : gV h y) (J : yR h) (k : Nat) (P_r : r = zv h 2 k ∧ (k : Int) < fld h 2 2) (l : Nat) (P_y : y = zv h 2 l ∧ (l : Int) < fld h 2 2) (PF8 : yF8 (yC h)) : zwC sc 3 105 [(2, 1), (2, r), (2, y)] h (zwRt 0 (fun x g => h = g ∧ (-2147483648 ≤ x ∧ x ≤ 2147483647) ∧ (-1 ≤ x ∧ x ≤ 999999) ∧ (x = yFarq (yC h) k l))) := by
  refine zwC_of (D := 2) 3 (by decide +kernel) rfl (ls := [(2, 1), (2, r), (2, y)]) rfl ?_
  have lw_r := G_r.1
  have lw_y := G_y.1
  have u0 : yC h 37 0 = fld h 1 0 := rfl
  have u1 : yC h 37 1 = fld h 2 2 := rfl
  have u2 : yC h 37 2 = fld h 3 2 := rfl
  have u64 : yC h 37 64 = fld h 4 2 := rfl
  have u78 : yC h 37 78 = fld h 5 2 := rfl
  have b22 := zLb_2 C
  have B105 := yFarq_b PF8 (k := k) (l := l) (by have := P_r.2; omega) (by have := P_y.2; omega)
  refine zwW_p [(1, 1, 2)] (q := 1) (ls' := [(2, 1), (2, r), (2, y)]) (st' := [(2, r)]) (by decide +kernel) rfl ?_
  refine zwnu_eq (q := 8) (nx := 4) (by decide +kernel) (by omega) (fun c1 => ?_) (fun c1 => ?_)
  · exfalso; omega
  · refine zwW_p [(1, 2, 2)] (q := 5) (ls' := [(2, 1), (2, r), (2, y)]) (st' := [(2, y)]) (by decide +kernel) rfl ?_
    refine zwnu_ne (q := 12) (nx := 8) (by decide +kernel) (by omega) (fun c2 => ?_) (fun c2 => ?_)
    · refine zwW_p [(1, 0, 2)] (q := 13) (ls' := [(2, 1), (2, r), (2, y)]) (st' := [(2, 1)]) (by decide +kernel) rfl ?_
      refine zwW_gc C.1 (kd := 12) (bn := 6) (n := 13) (c := 6) (nx := 16) (by decide +kernel) ?_
      refine zwW_p [(1, 1, 2)] (q := 17) (ls' := [(2, 1), (2, r), (2, y)]) (st' := [(2, r), (2, 6)]) (by decide +kernel) rfl ?_
      refine zwX_gi C (kd := 11) (bn := 0) (n := 17) (nx := 20) (by decide +kernel) G_r.2.1 G_r.1 rfl ?_
      intro v3 ev3 lv3 uv3
      have sv3 : v3 = ((k : Nat) : Int) := Eq.trans ev3 (Eq.trans (congrArg (fun q => fld h q 0) P_r.1) (J.1 2 (by decide) _ P_r.2))
      refine zwW_p [(1, 2, 2)] (q := 21) (ls' := [(2, 1), (2, r), (2, y)]) (st' := [(2, y), (0, v3), (2, 6)]) (by decide +kernel) rfl ?_
      refine zwX_gi C (kd := 11) (bn := 0) (n := 17) (nx := 24) (by decide +kernel) G_y.2.1 G_y.1 rfl ?_
      intro v4 ev4 lv4 uv4
      have sv4 : v4 = ((l : Nat) : Int) := Eq.trans ev4 (Eq.trans (congrArg (fun q => fld h q 0) P_y.1) (J.1 2 (by decide) _ P_y.2))
      refine zwW_cm C.1 (op := 60) (k' := 184) (n := 2) (kd := 8) (m := 2) (nx := 27) (r := 6) (tl := [(0, v3), (0, v4)]) (st' := []) (by decide +kernel) rfl (by decide +kernel) rfl (x184 h C v3 v4 (by omega) (by omega)) ?_
      rintro v5 _ ⟨rfl, f6, f7⟩
      have A24 : v5 = yFarq (yC h) k l := by
        have z := f7 (by omega)
        rw [z, sv3, sv4, Int.toNat_natCast, Int.toNat_natCast]
        exact yFq_c (by have := P_r.2; omega) (by have := P_y.2; omega)
      refine zwW_ret (nx := 28) (a := 0) (b := 0) (by decide +kernel) rfl (Or.inl rfl) ?_
      exact ⟨rfl, by omega, by omega, by first | exact A24 | (exfalso; omega)⟩
    · exfalso; omega
-- WheelLand.canBeWoven(I)Z
theorem x130_z {sc : List Int} (h : Hp) (C : CI h) (a : Int) (q_a : -2147483648 ≤ a ∧ a ≤ 2147483647) : zwC sc 2 130 [(0, a)] h (zwRt 0 (fun x g => h = g ∧ ((x = 1 ∧ (a % 2 = 0 ∧ 2 ≤ a ∧ a ≤ 100)) ∨ (x = 0 ∧ (¬ (a % 2 = 0 ∧ 2 ≤ a ∧ a ≤ 100)))))) := by
  refine zwC_of (D := 1) 1 (by decide +kernel) rfl (ls := [(0, a)]) rfl ?_
  have T2 := tm2 (x := a)
  refine zwW_p [(1, 0, 0), (0, 2, 0)] (q := 2) (ls' := [(0, a)]) (st' := [(0, 2), (0, a)]) (by decide +kernel) rfl ?_
  refine zwW_tmw (nx := 3) (by decide +kernel) ⟨by omega, by omega⟩ (by omega) ?_
  intro v1 ev1 lv1 uv1
  refine zwif_ne (q := 20) (nx := 6) (by decide +kernel) (fun c2 => ?_) (fun c2 => ?_)
  · refine zwW_p [(0, 0, 0)] (q := 21) (ls' := [(0, a)]) (st' := [(0, 0)]) (by decide +kernel) rfl ?_
    refine zwW_ret (nx := 22) (a := 1) (b := 0) (by decide +kernel) rfl (Or.inr (Or.inl ⟨rfl, by omega⟩)) ?_
    exact ⟨rfl, Or.inr ⟨rfl, by omega⟩⟩
  · refine zwW_p [(1, 0, 0), (0, 2, 0), (0, 100, 0)] (q := 10) (ls' := [(0, a)]) (st' := [(0, 100), (0, 2), (0, a)]) (by decide +kernel) rfl ?_
    refine zwW_cs (k' := 98) (n := 3) (nx := 13) (as := [(0, a), (0, 2), (0, 100)]) (st' := []) (by decide +kernel) rfl (x98 h C a 2 100 (by omega) (by omega) (by omega)) rfl ?_
    rintro x _ ⟨rfl, ⟨rfl, c3⟩ | ⟨rfl, c3⟩⟩
    · refine zwif_ne (q := 20) (nx := 16) (by decide +kernel) (fun c4 => ?_) (fun c4 => ?_)
      · refine zwW_p [(0, 0, 0)] (q := 21) (ls' := [(0, a)]) (st' := [(0, 0)]) (by decide +kernel) rfl ?_
        refine zwW_ret (nx := 22) (a := 1) (b := 0) (by decide +kernel) rfl (Or.inr (Or.inl ⟨rfl, by omega⟩)) ?_
        exact ⟨rfl, Or.inr ⟨rfl, by omega⟩⟩
      · exfalso; omega
    · refine zwif_ne (q := 20) (nx := 16) (by decide +kernel) (fun c5 => ?_) (fun c5 => ?_)
      · exfalso; omega
      · refine zwW_p [(0, 1, 0), (24, 21, 0)] (q := 21) (ls' := [(0, a)]) (st' := [(0, 1)]) (by decide +kernel) rfl ?_
        refine zwW_ret (nx := 22) (a := 1) (b := 0) (by decide +kernel) rfl (Or.inr (Or.inl ⟨rfl, by omega⟩)) ?_
        exact ⟨rfl, Or.inl ⟨rfl, by omega⟩⟩
def msx134_z : Zms := [(17, 17, 0, 13), (18, 18, 0, 400)]
-- WheelLand.askOfWeaving(ILWheelLand$House;LWheelLand$Lot;I)I
theorem x134_z {sc : List Int} (h : Hp) (C : CI h) (a r y b : Int) (q : qT) (q_a : -2147483648 ≤ a ∧ a ≤ 2147483647) (G_r : gH h r) (G_y : gL h y) (q_b : -2147483648 ≤ b ∧ b ≤ 2147483647) (J : yR h) (k : Nat) (P_r : r = zv h 3 k ∧ (k : Int) < fld h 3 2) (l : Nat) (P_y : y = zv h 4 l ∧ (l : Int) < fld h 4 2) (V : zRq q h) (ok : yOK (yC h)) (PF8 : yF8 (yC h)) (pa : 0 ≤ a ∧ a ≤ 4) (pb : -1000 ≤ b ∧ b ≤ 1000) : zwC sc 4 134 [(2, 1), (0, a), (2, r), (2, y), (0, b)] h (zwRt 0 (fun x g => CI g ∧ zXR msx134_z (0) (0) h g ∧ (-2147483648 ≤ x ∧ x ≤ 2147483647) ∧ (-1000000 ≤ x ∧ x ≤ 1000000) ∧ (x = yWask q (yC h) a k l b) ∧ (yR g))) := by
  refine zwC_of (D := 3) 5 (by decide +kernel) rfl (ls := [(2, 1), (0, a), (2, r), (2, y), (0, b)]) rfl ?_
  have lw_r := G_r.1
  have lw_y := G_y.1
  have X : zXR msx134_z 0 0 h h := zXR.rf _ _
  have u0 : yC h 37 0 = fld h 1 0 := rfl
  have u1 : yC h 37 1 = fld h 2 2 := rfl
  have u2 : yC h 37 2 = fld h 3 2 := rfl
  have u64 : yC h 37 64 = fld h 4 2 := rfl
  have WNS := eNs_wn ok PF8 (k := k) (l := l) (x := b) (by have := P_r.2; omega) (by have := P_y.2; omega) pb
  have B134 : eNum (q a (yC h 37 0) (yWN (yC h) k l b)) := by
    by_cases z : a < 3
    · exact V.num WNS ⟨pa.1, z⟩
    · exact (V.bit WNS ⟨by omega, by omega⟩).num
  unfold eNum at B134
  refine zwW_p [(1, 0, 2)] (q := 1) (ls' := [(2, 1), (0, a), (2, r), (2, y), (0, b)]) (st' := [(2, 1)]) (by decide +kernel) rfl ?_
  refine zwW_gc C.1 (kd := 12) (bn := 8) (n := 13) (c := 13) (nx := 4) (by decide +kernel) ?_
  refine zwW_p [(1, 0, 2)] (q := 5) (ls' := [(2, 1), (0, a), (2, r), (2, y), (0, b)]) (st' := [(2, 1), (2, 13)]) (by decide +kernel) rfl ?_
  refine zwW_gs C.1 (kd := 12) (bn := 0) (n := 13) (t := 0) (lo := 0) (hi := 156) (nx := 8) (by decide +kernel) ?_
  intro v1 ev1 lv1 uv1
  have sv1 : v1 = (yC h) 37 0 := Eq.trans ev1 (Eq.trans (Eq.symm (yC_s (h := h) (i := 0) rfl)) (Eq.trans (congrFun (congrFun (rfl : yC h = yC h) 37) 0) rfl))
  refine zwW_cmv C.1 (op := 60) (k' := 166) (n := 1) (kd := 9) (m := 6) (nx := 11) (r := 13) (tl := [(0, v1)]) (st' := []) (by decide +kernel) rfl (by decide +kernel) rfl (x166_n h C v1 (by omega) (by omega)) ?_
  rintro h3 ⟨Ch3, Qh3, f2⟩
  have Zh3 : yC h3 = (yC h) := (yC_fr C Qh3 (by decide +kernel) (C.1.b (a1 := 37) (a2 := 37) (j1 := 86) (j2 := 87) (lo := 0) (hi := 6) (by decide +kernel) (r := 37) (j := 86) (by decide) (by decide) (by decide) (by decide)).2).trans (rfl : yC h = yC h)
  have Xh3 : zXR msx134_z (0) (0) h h3 := X.tr (c2 := 0) (s2 := 0) Qh3 (by decide +kernel) (by decide) (by decide)
  have Gh3_0 : gH h3 r := G_r.x Qh3
  have Gh3_1 : gL h3 y := G_y.x Qh3
  have Jh3 : yR h3 := J.fr C Qh3 (by decide +kernel)
  have pr_h3 : r = zv h3 3 k ∧ ((k : Nat) : Int) < fld h3 3 2 := zpv C Qh3 (A := 3) (by decide) (by decide +kernel) P_r
  have py_h3 : y = zv h3 4 l ∧ ((l : Nat) : Int) < fld h3 4 2 := zpv C Qh3 (A := 4) (by decide) (by decide +kernel) P_y
  have Vh3 : zRq q h3 := V.fr C Qh3 (by decide +kernel)
  have G8 : n13 17 h3 (yNm0 (yC h 37 0)) := f2.cg (by rw [sv1])
  refine zwW_p [(1, 0, 2)] (q := 12) (ls' := [(2, 1), (0, a), (2, r), (2, y), (0, b)]) (st' := [(2, 1)]) (by decide +kernel) rfl ?_
  refine zwW_gc Ch3.1 (kd := 12) (bn := 8) (n := 13) (c := 13) (nx := 15) (by decide +kernel) ?_
  refine zwW_p [(1, 3, 2)] (q := 16) (ls' := [(2, 1), (0, a), (2, r), (2, y), (0, b)]) (st' := [(2, y), (2, 13)]) (by decide +kernel) rfl ?_
  refine zwW_get (kd := 6) (bn := 1) (t := 2) (n := 7) (nx := 19) (by decide +kernel) Gh3_1.2.1 rfl ?_
  obtain ⟨v4, ev4⟩ : ∃ z, z = fld h3 y 1 := ⟨_, rfl⟩
  rw [← ev4]
  have Gv4 : gH h3 v4 := by rw [ev4]; exact Gh3_1.2.2
  have lv4 := Gv4.1
  have qv4 : yC h3 170 l = (yC h) 170 l := Eq.trans (congrFun (congrFun Zh3 170) l) rfl
  have wv4 := Jh3.r (a := 170) (A := 4) (j := 1) (B := 3) (i := l) rfl py_h3.2
  rw [qv4] at wv4
  have pv4 : v4 = zv h3 3 (((yC h) 170 l).toNat) ∧ ((((yC h) 170 l).toNat : Nat) : Int) < fld h3 3 2 := ⟨by rw [ev4, py_h3.1]; exact wv4.2.2, wv4.2.1⟩
  refine zwW_p [(1, 0, 2)] (q := 20) (ls' := [(2, 1), (0, a), (2, r), (2, y), (0, b)]) (st' := [(2, 1), (2, v4), (2, 13)]) (by decide +kernel) rfl ?_
  refine zwW_gs Ch3.1 (kd := 12) (bn := 0) (n := 13) (t := 0) (lo := 0) (hi := 156) (nx := 23) (by decide +kernel) ?_
  intro v5 ev5 lv5 uv5
  have sv5 : v5 = (yC h) 37 0 := Eq.trans ev5 (Eq.trans (Eq.symm (yC_s (h := h3) (i := 0) rfl)) (Eq.trans (congrFun (congrFun Zh3 37) 0) rfl))
  refine zwW_cs (k' := 162) (n := 1) (nx := 26) (as := [(0, v5)]) (st' := [(2, v4), (2, 13)]) (by decide +kernel) rfl (x162 h3 Ch3 v5 (by omega) (by omega)) rfl ?_
  rintro v6 _ ⟨rfl, f7, f8, f9⟩
  have Z26 := Zh3
  refine zwW_cmv Ch3.1 (op := 60) (k' := 167) (n := 2) (kd := 9) (m := 6) (nx := 29) (r := 13) (tl := [(2, v4), (0, v6)]) (st' := []) (by decide +kernel) rfl (by decide +kernel) rfl (x167_z h3 Ch3 v4 v6 (yNm0 (yC h 37 0)) Gv4 (by omega) Jh3 (((yC h) 170 l).toNat) pv4 (by rw [Zh3]; exact ok) G8 (by rw [Zh3]; omega)) ?_
  rintro h12 ⟨Ch12, Qh12, f10, f11⟩
  have Zh12 : yC h12 = (yC h) := (yC_fr Ch3 Qh12 (by decide +kernel) (Ch3.1.b (a1 := 37) (a2 := 37) (j1 := 86) (j2 := 87) (lo := 0) (hi := 6) (by decide +kernel) (r := 37) (j := 86) (by decide) (by decide) (by decide) (by decide)).2).trans Zh3
  have Xh12 : zXR msx134_z (0) (0) h h12 := Xh3.tr (c2 := 0) (s2 := 0) Qh12 (by decide +kernel) (by decide) (by decide)
  have Gh12_0 : gH h12 r := Gh3_0.x Qh12
  have Gh12_1 : gL h12 y := Gh3_1.x Qh12
  have pr_h12 : r = zv h12 3 k ∧ ((k : Nat) : Int) < fld h12 3 2 := zpv Ch3 Qh12 (A := 3) (by decide) (by decide +kernel) pr_h3
  have py_h12 : y = zv h12 4 l ∧ ((l : Nat) : Int) < fld h12 4 2 := zpv Ch3 Qh12 (A := 4) (by decide) (by decide +kernel) py_h3
  have Vh12 : zRq q h12 := Vh3.fr Ch3 Qh12 (by decide +kernel)
  have G26 : n13 17 h12 (yNmH (yC h) (yC h 170 l).toNat (yNm0 (yC h 37 0))) := by
    have z := f10
    rw [Z26] at z
    exact z
  refine zwW_p [(1, 0, 2)] (q := 30) (ls' := [(2, 1), (0, a), (2, r), (2, y), (0, b)]) (st' := [(2, 1)]) (by decide +kernel) rfl ?_
  refine zwW_gc Ch12.1 (kd := 12) (bn := 8) (n := 13) (c := 13) (nx := 33) (by decide +kernel) ?_
  refine zwW_p [(1, 2, 2)] (q := 34) (ls' := [(2, 1), (0, a), (2, r), (2, y), (0, b)]) (st' := [(2, r), (2, 13)]) (by decide +kernel) rfl ?_
  refine zwX_gi Ch12 (kd := 4) (bn := 4) (n := 19) (nx := 37) (by decide +kernel) Gh12_0.2.1 Gh12_0.1 rfl ?_
  intro v13 ev13 lv13 uv13
  have sv13 : v13 = (yC h) 82 k := Eq.trans ev13 (Eq.trans (congrArg (fun q => fld h12 q 4) pr_h12.1) (Eq.trans (Eq.symm (yC_f (h := h12) (a := 82) (A := 3) (j := 4) (i := k) rfl pr_h12.2)) (Eq.trans (congrFun (congrFun Zh12 82) k) rfl)))
  refine zwW_p [(1, 0, 2), (1, 3, 2)] (q := 39) (ls' := [(2, 1), (0, a), (2, r), (2, y), (0, b)]) (st' := [(2, y), (2, 1), (0, v13), (2, 13)]) (by decide +kernel) rfl ?_
  refine zwW_get (kd := 6) (bn := 1) (t := 2) (n := 7) (nx := 42) (by decide +kernel) Gh12_1.2.1 rfl ?_
  obtain ⟨v14, ev14⟩ : ∃ z, z = fld h12 y 1 := ⟨_, rfl⟩
  rw [← ev14]
  have Gv14 : gH h12 v14 := by rw [ev14]; exact Gh12_1.2.2
  have lv14 := Gv14.1
  have qv14 : yC h12 170 l = (yC h) 170 l := Eq.trans (congrFun (congrFun Zh12 170) l) rfl
  have wv14 := f11.r (a := 170) (A := 4) (j := 1) (B := 3) (i := l) rfl py_h12.2
  rw [qv14] at wv14
  have pv14 : v14 = zv h12 3 (((yC h) 170 l).toNat) ∧ ((((yC h) 170 l).toNat : Nat) : Int) < fld h12 3 2 := ⟨by rw [ev14, py_h12.1]; exact wv14.2.2, wv14.2.1⟩
  refine zwW_get (kd := 4) (bn := 1) (t := 2) (n := 19) (nx := 45) (by decide +kernel) Gv14.2.1 rfl ?_
  obtain ⟨v15, ev15⟩ : ∃ z, z = fld h12 v14 1 := ⟨_, rfl⟩
  rw [← ev15]
  have Gv15 : gV h12 v15 := by rw [ev15]; exact Gv14.2.2
  have lv15 := Gv15.1
  have qv15 : yC h12 79 (((yC h) 170 l).toNat) = (yC h) 79 (((yC h) 170 l).toNat) := Eq.trans (congrFun (congrFun Zh12 79) (((yC h) 170 l).toNat)) rfl
  have wv15 := f11.r (a := 79) (A := 3) (j := 1) (B := 2) (i := ((yC h) 170 l).toNat) rfl pv14.2
  rw [qv15] at wv15
  have pv15 : v15 = zv h12 2 (((yC h) 79 (((yC h) 170 l).toNat)).toNat) ∧ ((((yC h) 79 (((yC h) 170 l).toNat)).toNat : Nat) : Int) < fld h12 2 2 := ⟨by rw [ev15, pv14.1]; exact wv15.2.2, wv15.2.1⟩
  refine zwW_p [(1, 2, 2)] (q := 46) (ls' := [(2, 1), (0, a), (2, r), (2, y), (0, b)]) (st' := [(2, r), (2, v15), (2, 1), (0, v13), (2, 13)]) (by decide +kernel) rfl ?_
  refine zwW_get (kd := 4) (bn := 1) (t := 2) (n := 19) (nx := 49) (by decide +kernel) Gh12_0.2.1 rfl ?_
  obtain ⟨v16, ev16⟩ : ∃ z, z = fld h12 r 1 := ⟨_, rfl⟩
  rw [← ev16]
  have Gv16 : gV h12 v16 := by rw [ev16]; exact Gh12_0.2.2
  have lv16 := Gv16.1
  have qv16 : yC h12 79 k = (yC h) 79 k := Eq.trans (congrFun (congrFun Zh12 79) k) rfl
  have wv16 := f11.r (a := 79) (A := 3) (j := 1) (B := 2) (i := k) rfl pr_h12.2
  rw [qv16] at wv16
  have pv16 : v16 = zv h12 2 (((yC h) 79 k).toNat) ∧ ((((yC h) 79 k).toNat : Nat) : Int) < fld h12 2 2 := ⟨by rw [ev16, pr_h12.1]; exact wv16.2.2, wv16.2.1⟩
  refine zwW_cm Ch12.1 (op := 60) (k' := 105) (n := 2) (kd := 12) (m := 13) (nx := 52) (r := 1) (tl := [(2, v15), (2, v16)]) (st' := [(0, v13), (2, 13)]) (by decide +kernel) rfl (by decide +kernel) rfl (x105_z h12 Ch12 v15 v16 Gv15 Gv16 f11 (((yC h) 79 (((yC h) 170 l).toNat)).toNat) pv15 (((yC h) 79 k).toNat) pv16 (by rw [Zh12]; exact PF8)) ?_
  rintro v17 _ ⟨rfl, f18, f19, f20⟩
  have sv17 : v17 = yFarq (yC h) (((yC h) 79 (((yC h) 170 l).toNat)).toNat) (((yC h) 79 k).toNat) := by rw [f20, Zh12]
  refine zwW_cmv Ch12.1 (op := 60) (k' := 168) (n := 2) (kd := 9) (m := 6) (nx := 55) (r := 13) (tl := [(0, v13), (0, v17)]) (st' := []) (by decide +kernel) rfl (by decide +kernel) rfl (x168_n h12 Ch12 v13 v17 (yNmH (yC h) (yC h 170 l).toNat (yNm0 (yC h 37 0))) (by omega) (by omega) G26) ?_
  rintro h22 ⟨Ch22, Qh22, f21⟩
  have Zh22 : yC h22 = (yC h) := (yC_fr Ch12 Qh22 (by decide +kernel) (Ch12.1.b (a1 := 37) (a2 := 37) (j1 := 86) (j2 := 87) (lo := 0) (hi := 6) (by decide +kernel) (r := 37) (j := 86) (by decide) (by decide) (by decide) (by decide)).2).trans Zh12
  have Xh22 : zXR msx134_z (0) (0) h h22 := Xh12.tr (c2 := 0) (s2 := 0) Qh22 (by decide +kernel) (by decide) (by decide)
  have Gh22_0 : gH h22 r := Gh12_0.x Qh22
  have Gh22_1 : gL h22 y := Gh12_1.x Qh22
  have Jh22 : yR h22 := f11.fr Ch12 Qh22 (by decide +kernel)
  have pr_h22 : r = zv h22 3 k ∧ ((k : Nat) : Int) < fld h22 3 2 := zpv Ch12 Qh22 (A := 3) (by decide) (by decide +kernel) pr_h12
  have py_h22 : y = zv h22 4 l ∧ ((l : Nat) : Int) < fld h22 4 2 := zpv Ch12 Qh22 (A := 4) (by decide) (by decide +kernel) py_h12
  have Vh22 : zRq q h22 := Vh12.fr Ch12 Qh22 (by decide +kernel)
  have G52 : n13 17 h22 (zu (zu (yNmH (yC h) (yC h 170 l).toNat (yNm0 (yC h 37 0))) 6 (yC h 82 k)) 11 (yFarq (yC h) (yC h 79 (yC h 170 l).toNat).toNat (yC h 79 k).toNat)) := f21.cg (by rw [sv13, sv17])
  refine zwW_p [(1, 0, 2)] (q := 56) (ls' := [(2, 1), (0, a), (2, r), (2, y), (0, b)]) (st' := [(2, 1)]) (by decide +kernel) rfl ?_
  refine zwW_gc Ch22.1 (kd := 12) (bn := 8) (n := 13) (c := 13) (nx := 59) (by decide +kernel) ?_
  refine zwW_p [(1, 3, 2)] (q := 60) (ls' := [(2, 1), (0, a), (2, r), (2, y), (0, b)]) (st' := [(2, y), (2, 13)]) (by decide +kernel) rfl ?_
  refine zwX_gi Ch22 (kd := 6) (bn := 3) (n := 7) (nx := 63) (by decide +kernel) Gh22_1.2.1 Gh22_1.1 rfl ?_
  intro v23 ev23 lv23 uv23
  have sv23 : v23 = (yC h) 172 l := Eq.trans ev23 (Eq.trans (congrArg (fun q => fld h22 q 3) py_h22.1) (Eq.trans (Eq.symm (yC_f (h := h22) (a := 172) (A := 4) (j := 3) (i := l) rfl py_h22.2)) (Eq.trans (congrFun (congrFun Zh22 172) l) rfl)))
  refine zwW_p [(1, 3, 2)] (q := 64) (ls' := [(2, 1), (0, a), (2, r), (2, y), (0, b)]) (st' := [(2, y), (0, v23), (2, 13)]) (by decide +kernel) rfl ?_
  refine zwX_gi Ch22 (kd := 6) (bn := 4) (n := 7) (nx := 67) (by decide +kernel) Gh22_1.2.1 Gh22_1.1 rfl ?_
  intro v24 ev24 lv24 uv24
  have sv24 : v24 = (yC h) 173 l := Eq.trans ev24 (Eq.trans (congrArg (fun q => fld h22 q 4) py_h22.1) (Eq.trans (Eq.symm (yC_f (h := h22) (a := 173) (A := 4) (j := 4) (i := l) rfl py_h22.2)) (Eq.trans (congrFun (congrFun Zh22 173) l) rfl)))
  refine zwW_p [(1, 4, 0)] (q := 69) (ls' := [(2, 1), (0, a), (2, r), (2, y), (0, b)]) (st' := [(0, b), (0, v24), (0, v23), (2, 13)]) (by decide +kernel) rfl ?_
  refine zwW_cmv Ch22.1 (op := 60) (k' := 171) (n := 3) (kd := 9) (m := 6) (nx := 72) (r := 13) (tl := [(0, v23), (0, v24), (0, b)]) (st' := []) (by decide +kernel) rfl (by decide +kernel) rfl (x171_n h22 Ch22 v23 v24 b (zu (zu (yNmH (yC h) (yC h 170 l).toNat (yNm0 (yC h 37 0))) 6 (yC h 82 k)) 11 (yFarq (yC h) (yC h 79 (yC h 170 l).toNat).toNat (yC h 79 k).toNat)) (by omega) (by omega) (by omega) G52) ?_
  rintro h26 ⟨Ch26, Qh26, f25⟩
  have Zh26 : yC h26 = (yC h) := (yC_fr Ch22 Qh26 (by decide +kernel) (Ch22.1.b (a1 := 37) (a2 := 37) (j1 := 86) (j2 := 87) (lo := 0) (hi := 6) (by decide +kernel) (r := 37) (j := 86) (by decide) (by decide) (by decide) (by decide)).2).trans Zh22
  have Xh26 : zXR msx134_z (0) (0) h h26 := Xh22.tr (c2 := 0) (s2 := 0) Qh26 (by decide +kernel) (by decide) (by decide)
  have Gh26_0 : gH h26 r := Gh22_0.x Qh26
  have Gh26_1 : gL h26 y := Gh22_1.x Qh26
  have Jh26 : yR h26 := Jh22.fr Ch22 Qh26 (by decide +kernel)
  have pr_h26 : r = zv h26 3 k ∧ ((k : Nat) : Int) < fld h26 3 2 := zpv Ch22 Qh26 (A := 3) (by decide) (by decide +kernel) pr_h22
  have py_h26 : y = zv h26 4 l ∧ ((l : Nat) : Int) < fld h26 4 2 := zpv Ch22 Qh26 (A := 4) (by decide) (by decide +kernel) py_h22
  have Vh26 : zRq q h26 := Vh22.fr Ch22 Qh26 (by decide +kernel)
  have G69 : n13 17 h26 (yWN (yC h) k l b) := f25.cg (by unfold yWN; rw [sv23, sv24])
  refine zwW_p [(1, 0, 2)] (q := 73) (ls' := [(2, 1), (0, a), (2, r), (2, y), (0, b)]) (st' := [(2, 1)]) (by decide +kernel) rfl ?_
  refine zwW_gc Ch26.1 (kd := 12) (bn := 8) (n := 13) (c := 13) (nx := 76) (by decide +kernel) ?_
  refine zwW_p [(1, 1, 0), (1, 0, 2)] (q := 78) (ls' := [(2, 1), (0, a), (2, r), (2, y), (0, b)]) (st' := [(2, 1), (0, a), (2, 13)]) (by decide +kernel) rfl ?_
  refine zwW_gs Ch26.1 (kd := 12) (bn := 0) (n := 13) (t := 0) (lo := 0) (hi := 156) (nx := 81) (by decide +kernel) ?_
  intro v27 ev27 lv27 uv27
  have sv27 : v27 = (yC h) 37 0 := Eq.trans ev27 (Eq.trans (Eq.symm (yC_s (h := h26) (i := 0) rfl)) (Eq.trans (congrFun (congrFun Zh26 37) 0) rfl))
  refine zwW_cm Ch26.1 (op := 60) (k' := 172) (n := 2) (kd := 9) (m := 6) (nx := 84) (r := 13) (tl := [(0, a), (0, v27)]) (st' := []) (by decide +kernel) rfl (by decide +kernel) rfl (x172_e h26 Ch26 a v27 (by omega) (by omega) pa Vh26.1.1 Vh26.1.2.1 Vh26.1.2.2 (G69.ns WNS) Vh26.2.1.1 Vh26.2.1.2) ?_
  rintro v30 h31 ⟨Ch31, Qh31, f28, f29⟩
  have Zh31 : yC h31 = (yC h) := (yC_fr Ch26 Qh31 (by decide +kernel) (Ch26.1.b (a1 := 37) (a2 := 37) (j1 := 86) (j2 := 87) (lo := 0) (hi := 6) (by decide +kernel) (r := 37) (j := 86) (by decide) (by decide) (by decide) (by decide)).2).trans Zh26
  have Xh31 : zXR msx134_z (0) (0) h h31 := Xh26.tr (c2 := 0) (s2 := 0) Qh31 (by decide +kernel) (by decide) (by decide)
  have Gh31_0 : gH h31 r := Gh26_0.x Qh31
  have Gh31_1 : gL h31 y := Gh26_1.x Qh31
  have Jh31 : yR h31 := Jh26.fr Ch26 Qh31 (by decide +kernel)
  have pr_h31 : r = zv h31 3 k ∧ ((k : Nat) : Int) < fld h31 3 2 := zpv Ch26 Qh31 (A := 3) (by decide) (by decide +kernel) pr_h26
  have py_h31 : y = zv h31 4 l ∧ ((l : Nat) : Int) < fld h31 4 2 := zpv Ch26 Qh31 (A := 4) (by decide) (by decide +kernel) py_h26
  have Vh31 : zRq q h31 := Vh26.fr Ch26 Qh31 (by decide +kernel)
  have A81 : v30 = q a (yC h 37 0) (yWN (yC h) k l b) := by
    have z := f29
    rw [z, G69.tl, Vh26.2.2 _ _ _ pa.1 pa.2, sv27]
  refine zwW_ret (nx := 85) (a := 0) (b := 0) (by decide +kernel) rfl (Or.inl rfl) ?_
  exact ⟨Ch31, Xh31.le (by decide) (by decide), by omega, by omega, by exact A81, by exact Jh31⟩
def msx207_z : Zms := [(17, 17, 0, 13), (18, 18, 0, 400)]
-- WheelLand.lastingBarOf(LWheelLand$House;LWheelLand$Lot;I)I
theorem x207_z {sc : List Int} (h : Hp) (C : CI h) (r y a : Int) (q : qT) (G_r : gH h r) (G_y : gL h y) (q_a : -2147483648 ≤ a ∧ a ≤ 2147483647) (J : yR h) (k : Nat) (P_r : r = zv h 3 k ∧ (k : Int) < fld h 3 2) (l : Nat) (P_y : y = zv h 4 l ∧ (l : Int) < fld h 4 2) (V : zRq q h) (ok : yOK (yC h)) (PF8 : yF8 (yC h)) (pb : -1000 ≤ a ∧ a ≤ 1000) : zwC sc 5 207 [(2, 1), (2, r), (2, y), (0, a)] h (zwRt 0 (fun x g => CI g ∧ zXR msx207_z (0) (0) h g ∧ (-2147483648 ≤ x ∧ x ≤ 2147483647) ∧ (0 ≤ x ∧ x ≤ 5) ∧ (x = yLbar q (yC h) k l a) ∧ (yR g))) := by
  refine zwC_of (D := 4) 4 (by decide +kernel) rfl (ls := [(2, 1), (2, r), (2, y), (0, a)]) rfl ?_
  have lw_r := G_r.1
  have lw_y := G_y.1
  have X : zXR msx207_z 0 0 h h := zXR.rf _ _
  have u0 : yC h 37 0 = fld h 1 0 := rfl
  have u1 : yC h 37 1 = fld h 2 2 := rfl
  have u2 : yC h 37 2 = fld h 3 2 := rfl
  have u64 : yC h 37 64 = fld h 4 2 := rfl
  have WNS := eNs_wn ok PF8 (k := k) (l := l) (x := a) (by have := P_r.2; omega) (by have := P_y.2; omega) pb
  have BT := V.bit (c := 3) (w := yC h 37 0) WNS ⟨by decide, by decide⟩
  unfold eBit at BT
  have KL := ok.lo (l := l) (by have := P_y.2; omega)
  refine zwW_p [(1, 1, 2)] (q := 1) (ls' := [(2, 1), (2, r), (2, y), (0, a)]) (st' := [(2, r)]) (by decide +kernel) rfl ?_
  refine zwW_cv (op := 60) (k' := 110) (n := 0) (kd := 4) (m := 19) (nx := 4) (r := r) (tl := []) (st' := []) (by decide +kernel) rfl (by decide +kernel) G_r.2.1 (x110_z h C r G_r J k P_r) rfl ?_
  rintro x _ ⟨rfl, ⟨rfl, c1⟩ | ⟨rfl, c1⟩⟩
  · refine zwif_ne (q := 9) (nx := 7) (by decide +kernel) (fun c2 => ?_) (fun c2 => ?_)
    · refine zwW_p [(1, 2, 2)] (q := 10) (ls' := [(2, 1), (2, r), (2, y), (0, a)]) (st' := [(2, y)]) (by decide +kernel) rfl ?_
      refine zwX_gi C (kd := 6) (bn := 3) (n := 7) (nx := 13) (by decide +kernel) G_y.2.1 G_y.1 rfl ?_
      intro v3 ev3 lv3 uv3
      have sv3 : v3 = (yC h) 172 l := Eq.trans ev3 (Eq.trans (congrArg (fun q => fld h q 3) P_y.1) (Eq.trans (Eq.symm (yC_f (h := h) (a := 172) (A := 4) (j := 3) (i := l) rfl P_y.2)) (Eq.trans (congrFun (congrFun (rfl : yC h = yC h) 172) l) rfl)))
      refine zwW_p [(1, 1, 2)] (q := 14) (ls' := [(2, 1), (2, r), (2, y), (0, a)]) (st' := [(2, r), (0, v3)]) (by decide +kernel) rfl ?_
      refine zwX_gi C (kd := 4) (bn := 11) (n := 19) (nx := 17) (by decide +kernel) G_r.2.1 G_r.1 rfl ?_
      intro v4 ev4 lv4 uv4
      have sv4 : v4 = (yC h) 89 k := Eq.trans ev4 (Eq.trans (congrArg (fun q => fld h q 11) P_r.1) (Eq.trans (Eq.symm (yC_f (h := h) (a := 89) (A := 3) (j := 11) (i := k) rfl P_r.2)) (Eq.trans (congrFun (congrFun (rfl : yC h = yC h) 89) k) rfl)))
      refine zwW_p [(1, 1, 2)] (q := 18) (ls' := [(2, 1), (2, r), (2, y), (0, a)]) (st' := [(2, r), (0, v4), (0, v3)]) (by decide +kernel) rfl ?_
      refine zwX_gi C (kd := 4) (bn := 12) (n := 19) (nx := 21) (by decide +kernel) G_r.2.1 G_r.1 rfl ?_
      intro v5 ev5 lv5 uv5
      have sv5 : v5 = (yC h) 90 k := Eq.trans ev5 (Eq.trans (congrArg (fun q => fld h q 12) P_r.1) (Eq.trans (Eq.symm (yC_f (h := h) (a := 90) (A := 3) (j := 12) (i := k) rfl P_r.2)) (Eq.trans (congrFun (congrFun (rfl : yC h = yC h) 90) k) rfl)))
      refine zwW_cs (k' := 98) (n := 3) (nx := 24) (as := [(0, v3), (0, v4), (0, v5)]) (st' := []) (by decide +kernel) rfl (x98 h C v3 v4 v5 (by omega) (by omega) (by omega)) rfl ?_
      rintro x _ ⟨rfl, ⟨rfl, c6⟩ | ⟨rfl, c6⟩⟩
      · refine zwif_eq (q := 29) (nx := 27) (by decide +kernel) (fun c7 => ?_) (fun c7 => ?_)
        · exfalso; omega
        · refine zwW_p [(0, 2, 0)] (q := 28) (ls' := [(2, 1), (2, r), (2, y), (0, a)]) (st' := [(0, 2)]) (by decide +kernel) rfl ?_
          refine zwW_ret (nx := 29) (a := 0) (b := 0) (by decide +kernel) rfl (Or.inl rfl) ?_
          exact ⟨C, X.le (by decide) (by decide), by omega, by omega, by unfold yLbar; (try unfold yWask at *); (repeat' (first | rw [if_pos (by omega)] | rw [if_neg (by omega)])); all_goals (first | rfl | omega), by exact J⟩
      · refine zwif_eq (q := 29) (nx := 27) (by decide +kernel) (fun c8 => ?_) (fun c8 => ?_)
        · refine zwW_p [(1, 2, 2)] (q := 30) (ls' := [(2, 1), (2, r), (2, y), (0, a)]) (st' := [(2, y)]) (by decide +kernel) rfl ?_
          refine zwX_gi C (kd := 6) (bn := 4) (n := 7) (nx := 33) (by decide +kernel) G_y.2.1 G_y.1 rfl ?_
          intro v9 ev9 lv9 uv9
          have sv9 : v9 = (yC h) 173 l := Eq.trans ev9 (Eq.trans (congrArg (fun q => fld h q 4) P_y.1) (Eq.trans (Eq.symm (yC_f (h := h) (a := 173) (A := 4) (j := 4) (i := l) rfl P_y.2)) (Eq.trans (congrFun (congrFun (rfl : yC h = yC h) 173) l) rfl)))
          refine zwW_p [(1, 2, 2)] (q := 34) (ls' := [(2, 1), (2, r), (2, y), (0, a)]) (st' := [(2, y), (0, v9)]) (by decide +kernel) rfl ?_
          refine zwX_gi C (kd := 6) (bn := 3) (n := 7) (nx := 37) (by decide +kernel) G_y.2.1 G_y.1 rfl ?_
          intro v10 ev10 lv10 uv10
          have sv10 : v10 = (yC h) 172 l := Eq.trans ev10 (Eq.trans (congrArg (fun q => fld h q 3) P_y.1) (Eq.trans (Eq.symm (yC_f (h := h) (a := 172) (A := 4) (j := 3) (i := l) rfl P_y.2)) (Eq.trans (congrFun (congrFun (rfl : yC h = yC h) 172) l) rfl)))
          refine zwW_p [(0, 30, 0)] (q := 39) (ls' := [(2, 1), (2, r), (2, y), (0, a)]) (st' := [(0, 30), (0, v10), (0, v9)]) (by decide +kernel) rfl ?_
          refine zwW_add (nx := 40) (by decide +kernel) ⟨by omega, by omega⟩ ?_
          refine zwic_ge (q := 45) (nx := 43) (by decide +kernel) (fun c11 => ?_) (fun c11 => ?_)
          · refine zwW_p [(1, 0, 2), (1, 2, 2)] (q := 47) (ls' := [(2, 1), (2, r), (2, y), (0, a)]) (st' := [(2, y), (2, 1)]) (by decide +kernel) rfl ?_
            refine zwW_get (kd := 6) (bn := 1) (t := 2) (n := 7) (nx := 50) (by decide +kernel) G_y.2.1 rfl ?_
            obtain ⟨v12, ev12⟩ : ∃ z, z = fld h y 1 := ⟨_, rfl⟩
            rw [← ev12]
            have Gv12 : gH h v12 := by rw [ev12]; exact G_y.2.2
            have lv12 := Gv12.1
            have qv12 : yC h 170 l = (yC h) 170 l := Eq.trans (congrFun (congrFun (rfl : yC h = yC h) 170) l) rfl
            have wv12 := J.r (a := 170) (A := 4) (j := 1) (B := 3) (i := l) rfl P_y.2
            rw [qv12] at wv12
            have pv12 : v12 = zv h 3 (((yC h) 170 l).toNat) ∧ ((((yC h) 170 l).toNat : Nat) : Int) < fld h 3 2 := ⟨by rw [ev12, P_y.1]; exact wv12.2.2, wv12.2.1⟩
            refine zwW_get (kd := 4) (bn := 1) (t := 2) (n := 19) (nx := 53) (by decide +kernel) Gv12.2.1 rfl ?_
            obtain ⟨v13, ev13⟩ : ∃ z, z = fld h v12 1 := ⟨_, rfl⟩
            rw [← ev13]
            have Gv13 : gV h v13 := by rw [ev13]; exact Gv12.2.2
            have lv13 := Gv13.1
            have qv13 : yC h 79 (((yC h) 170 l).toNat) = (yC h) 79 (((yC h) 170 l).toNat) := Eq.trans (congrFun (congrFun (rfl : yC h = yC h) 79) (((yC h) 170 l).toNat)) rfl
            have wv13 := J.r (a := 79) (A := 3) (j := 1) (B := 2) (i := ((yC h) 170 l).toNat) rfl pv12.2
            rw [qv13] at wv13
            have pv13 : v13 = zv h 2 (((yC h) 79 (((yC h) 170 l).toNat)).toNat) ∧ ((((yC h) 79 (((yC h) 170 l).toNat)).toNat : Nat) : Int) < fld h 2 2 := ⟨by rw [ev13, pv12.1]; exact wv13.2.2, wv13.2.1⟩
            refine zwW_p [(1, 1, 2)] (q := 54) (ls' := [(2, 1), (2, r), (2, y), (0, a)]) (st' := [(2, r), (2, v13), (2, 1)]) (by decide +kernel) rfl ?_
            refine zwW_get (kd := 4) (bn := 1) (t := 2) (n := 19) (nx := 57) (by decide +kernel) G_r.2.1 rfl ?_
            obtain ⟨v14, ev14⟩ : ∃ z, z = fld h r 1 := ⟨_, rfl⟩
            rw [← ev14]
            have Gv14 : gV h v14 := by rw [ev14]; exact G_r.2.2
            have lv14 := Gv14.1
            have qv14 : yC h 79 k = (yC h) 79 k := Eq.trans (congrFun (congrFun (rfl : yC h = yC h) 79) k) rfl
            have wv14 := J.r (a := 79) (A := 3) (j := 1) (B := 2) (i := k) rfl P_r.2
            rw [qv14] at wv14
            have pv14 : v14 = zv h 2 (((yC h) 79 k).toNat) ∧ ((((yC h) 79 k).toNat : Nat) : Int) < fld h 2 2 := ⟨by rw [ev14, P_r.1]; exact wv14.2.2, wv14.2.1⟩
            refine zwW_cm C.1 (op := 60) (k' := 105) (n := 2) (kd := 12) (m := 13) (nx := 60) (r := 1) (tl := [(2, v13), (2, v14)]) (st' := []) (by decide +kernel) rfl (by decide +kernel) rfl (x105_z h C v13 v14 Gv13 Gv14 J (((yC h) 79 (((yC h) 170 l).toNat)).toNat) pv13 (((yC h) 79 k).toNat) pv14 PF8) ?_
            rintro v15 _ ⟨rfl, f16, f17, f18⟩
            have sv15 : v15 = yFarq (yC h) (((yC h) 79 (((yC h) 170 l).toNat)).toNat) (((yC h) 79 k).toNat) := by rw [f18]
            refine zwW_p [(0, -1, 0)] (q := 61) (ls' := [(2, 1), (2, r), (2, y), (0, a)]) (st' := [(0, -1), (0, v15)]) (by decide +kernel) rfl ?_
            refine zwic_ne (q := 66) (nx := 64) (by decide +kernel) (fun c19 => ?_) (fun c19 => ?_)
            · refine zwW_p [(1, 0, 2), (0, 3, 0), (1, 1, 2), (1, 2, 2), (1, 3, 0)] (q := 71) (ls' := [(2, 1), (2, r), (2, y), (0, a)]) (st' := [(0, a), (2, y), (2, r), (0, 3), (2, 1)]) (by decide +kernel) rfl ?_
              refine zwW_cm C.1 (op := 60) (k' := 134) (n := 4) (kd := 12) (m := 13) (nx := 74) (r := 1) (tl := [(0, 3), (2, r), (2, y), (0, a)]) (st' := []) (by decide +kernel) rfl (by decide +kernel) rfl (x134_z h C 3 r y a q (by omega) G_r G_y (by omega) J k P_r l P_y V ok PF8 ⟨by decide, by decide⟩ pb) ?_
              rintro v24 h25 ⟨Ch25, Qh25, f20, f21, f22, f23⟩
              have sv24 : v24 = yWask q (yC h) 3 k l a := by rw [f22]
              have Zh25 : yC h25 = (yC h) := (yC_fr C Qh25 (by decide +kernel) (C.1.b (a1 := 37) (a2 := 37) (j1 := 86) (j2 := 87) (lo := 0) (hi := 6) (by decide +kernel) (r := 37) (j := 86) (by decide) (by decide) (by decide) (by decide)).2).trans (rfl : yC h = yC h)
              have Xh25 : zXR msx207_z (0) (0) h h25 := X.tr (c2 := 0) (s2 := 0) Qh25 (by decide +kernel) (by decide) (by decide)
              have Gh25_0 : gH h25 r := G_r.x Qh25
              have Gh25_1 : gL h25 y := G_y.x Qh25
              have pr_h25 : r = zv h25 3 k ∧ ((k : Nat) : Int) < fld h25 3 2 := zpv C Qh25 (A := 3) (by decide) (by decide +kernel) P_r
              have py_h25 : y = zv h25 4 l ∧ ((l : Nat) : Int) < fld h25 4 2 := zpv C Qh25 (A := 4) (by decide) (by decide +kernel) P_y
              have Vh25 : zRq q h25 := V.fr C Qh25 (by decide +kernel)
              refine zwif_ne (q := 81) (nx := 77) (by decide +kernel) (fun c26 => ?_) (fun c26 => ?_)
              · refine zwW_p [(0, 0, 0)] (q := 82) (ls' := [(2, 1), (2, r), (2, y), (0, a)]) (st' := [(0, 0)]) (by decide +kernel) rfl ?_
                refine zwW_ret (nx := 83) (a := 0) (b := 0) (by decide +kernel) rfl (Or.inl rfl) ?_
                exact ⟨Ch25, Xh25.le (by decide) (by decide), by omega, by omega, by unfold yLbar; (try unfold yWask at *); (repeat' (first | rw [if_pos (by omega)] | rw [if_neg (by omega)])); all_goals (first | rfl | omega), by exact f23⟩
              · refine zwW_p [(0, 5, 0), (24, 82, 0)] (q := 82) (ls' := [(2, 1), (2, r), (2, y), (0, a)]) (st' := [(0, 5)]) (by decide +kernel) rfl ?_
                refine zwW_ret (nx := 83) (a := 0) (b := 0) (by decide +kernel) rfl (Or.inl rfl) ?_
                exact ⟨Ch25, Xh25.le (by decide) (by decide), by omega, by omega, by unfold yLbar; (try unfold yWask at *); (repeat' (first | rw [if_pos (by omega)] | rw [if_neg (by omega)])); all_goals (first | rfl | omega), by exact f23⟩
            · refine zwW_p [(0, 4, 0)] (q := 65) (ls' := [(2, 1), (2, r), (2, y), (0, a)]) (st' := [(0, 4)]) (by decide +kernel) rfl ?_
              refine zwW_ret (nx := 66) (a := 0) (b := 0) (by decide +kernel) rfl (Or.inl rfl) ?_
              exact ⟨C, X.le (by decide) (by decide), by omega, by omega, by unfold yLbar; (try unfold yWask at *); (repeat' (first | rw [if_pos (by omega)] | rw [if_neg (by omega)])); all_goals (first | rfl | omega), by exact J⟩
          · refine zwW_p [(0, 3, 0)] (q := 44) (ls' := [(2, 1), (2, r), (2, y), (0, a)]) (st' := [(0, 3)]) (by decide +kernel) rfl ?_
            refine zwW_ret (nx := 45) (a := 0) (b := 0) (by decide +kernel) rfl (Or.inl rfl) ?_
            exact ⟨C, X.le (by decide) (by decide), by omega, by omega, by unfold yLbar; (try unfold yWask at *); (repeat' (first | rw [if_pos (by omega)] | rw [if_neg (by omega)])); all_goals (first | rfl | omega), by exact J⟩
        · exfalso; omega
    · exfalso; omega
  · refine zwif_ne (q := 9) (nx := 7) (by decide +kernel) (fun c27 => ?_) (fun c27 => ?_)
    · exfalso; omega
    · refine zwW_p [(0, 1, 0)] (q := 8) (ls' := [(2, 1), (2, r), (2, y), (0, a)]) (st' := [(0, 1)]) (by decide +kernel) rfl ?_
      refine zwW_ret (nx := 9) (a := 0) (b := 0) (by decide +kernel) rfl (Or.inl rfl) ?_
      exact ⟨C, X.le (by decide) (by decide), by omega, by omega, by unfold yLbar; (try unfold yWask at *); (repeat' (first | rw [if_pos (by omega)] | rw [if_neg (by omega)])); all_goals (first | rfl | omega), by exact J⟩
def msx131_z : Zms := [(17, 17, 0, 13), (18, 18, 0, 400)]
-- WheelLand.barOf(LWheelLand$House;LWheelLand$Lot;I)I
theorem x131_z {sc : List Int} (h : Hp) (C : CI h) (r y a : Int) (q : qT) (G_r : gH h r) (G_y : gL h y) (q_a : -2147483648 ≤ a ∧ a ≤ 2147483647) (J : yR h) (k : Nat) (P_r : r = zv h 3 k ∧ (k : Int) < fld h 3 2) (l : Nat) (P_y : y = zv h 4 l ∧ (l : Int) < fld h 4 2) (V : zRq q h) (ok : yOK (yC h)) (PF8 : yF8 (yC h)) (pb : -1000 ≤ a ∧ a ≤ 1000) : zwC sc 6 131 [(2, 1), (2, r), (2, y), (0, a)] h (zwRt 0 (fun x g => CI g ∧ zXR msx131_z (0) (0) h g ∧ (-2147483648 ≤ x ∧ x ≤ 2147483647) ∧ (0 ≤ x ∧ x ≤ 7) ∧ (x = yBarF q (yC h) k l a) ∧ (yR g))) := by
  refine zwC_of (D := 5) 5 (by decide +kernel) rfl (ls := [(2, 1), (2, r), (2, y), (0, a), (9, 0)]) rfl ?_
  have lw_r := G_r.1
  have lw_y := G_y.1
  have X : zXR msx131_z 0 0 h h := zXR.rf _ _
  have u0 : yC h 37 0 = fld h 1 0 := rfl
  have u1 : yC h 37 1 = fld h 2 2 := rfl
  have u2 : yC h 37 2 = fld h 3 2 := rfl
  have u64 : yC h 37 64 = fld h 4 2 := rfl
  have u78 : yC h 37 78 = fld h 5 2 := rfl
  refine zwW_p [(1, 0, 2), (1, 1, 2), (1, 2, 2), (1, 3, 0)] (q := 4) (ls' := [(2, 1), (2, r), (2, y), (0, a), (9, 0)]) (st' := [(0, a), (2, y), (2, r), (2, 1)]) (by decide +kernel) rfl ?_
  refine zwW_cm C.1 (op := 60) (k' := 207) (n := 3) (kd := 12) (m := 13) (nx := 7) (r := 1) (tl := [(2, r), (2, y), (0, a)]) (st' := []) (by decide +kernel) rfl (by decide +kernel) rfl (x207_z h C r y a q G_r G_y (by omega) J k P_r l P_y V ok PF8 pb) ?_
  rintro v5 h6 ⟨Ch6, Qh6, f1, f2, f3, f4⟩
  have sv5 : v5 = yLbar q (yC h) k l a := by rw [f3]
  have Zh6 : yC h6 = (yC h) := (yC_fr C Qh6 (by decide +kernel) (C.1.b (a1 := 37) (a2 := 37) (j1 := 86) (j2 := 87) (lo := 0) (hi := 6) (by decide +kernel) (r := 37) (j := 86) (by decide) (by decide) (by decide) (by decide)).2).trans (rfl : yC h = yC h)
  have Xh6 : zXR msx131_z (0) (0) h h6 := X.tr (c2 := 0) (s2 := 0) Qh6 (by decide +kernel) (by decide) (by decide)
  have Gh6_0 : gH h6 r := G_r.x Qh6
  have Gh6_1 : gL h6 y := G_y.x Qh6
  have pr_h6 : r = zv h6 3 k ∧ ((k : Nat) : Int) < fld h6 3 2 := zpv C Qh6 (A := 3) (by decide) (by decide +kernel) P_r
  have py_h6 : y = zv h6 4 l ∧ ((l : Nat) : Int) < fld h6 4 2 := zpv C Qh6 (A := 4) (by decide) (by decide +kernel) P_y
  have Vh6 : zRq q h6 := V.fr C Qh6 (by decide +kernel)
  refine zwW_p [(2, 4, 0), (1, 4, 0)] (q := 11) (ls' := [(2, 1), (2, r), (2, y), (0, a), (0, v5)]) (st' := [(0, v5)]) (by decide +kernel) rfl ?_
  refine zwif_eq (q := 17) (nx := 14) (by decide +kernel) (fun c7 => ?_) (fun c7 => ?_)
  · refine zwW_p [(1, 2, 2)] (q := 18) (ls' := [(2, 1), (2, r), (2, y), (0, a), (0, v5)]) (st' := [(2, y)]) (by decide +kernel) rfl ?_
    refine zwX_gi Ch6 (kd := 6) (bn := 6) (n := 7) (nx := 21) (by decide +kernel) Gh6_1.2.1 Gh6_1.1 rfl ?_
    intro v8 ev8 lv8 uv8
    have sv8 : v8 = (yC h) 175 l := Eq.trans ev8 (Eq.trans (congrArg (fun q => fld h6 q 6) py_h6.1) (Eq.trans (Eq.symm (yC_f (h := h6) (a := 175) (A := 4) (j := 6) (i := l) rfl py_h6.2)) (Eq.trans (congrFun (congrFun Zh6 175) l) rfl)))
    refine zwW_p [(1, 3, 0)] (q := 22) (ls' := [(2, 1), (2, r), (2, y), (0, a), (0, v5)]) (st' := [(0, a), (0, v8)]) (by decide +kernel) rfl ?_
    refine zwic_ge (q := 28) (nx := 25) (by decide +kernel) (fun c9 => ?_) (fun c9 => ?_)
    · refine zwW_p [(1, 1, 2)] (q := 29) (ls' := [(2, 1), (2, r), (2, y), (0, a), (0, v5)]) (st' := [(2, r)]) (by decide +kernel) rfl ?_
      refine zwX_gi Ch6 (kd := 4) (bn := 13) (n := 19) (nx := 32) (by decide +kernel) Gh6_0.2.1 Gh6_0.1 rfl ?_
      intro v10 ev10 lv10 uv10
      have sv10 : v10 = (yC h) 91 k := Eq.trans ev10 (Eq.trans (congrArg (fun q => fld h6 q 13) pr_h6.1) (Eq.trans (Eq.symm (yC_f (h := h6) (a := 91) (A := 3) (j := 13) (i := k) rfl pr_h6.2)) (Eq.trans (congrFun (congrFun Zh6 91) k) rfl)))
      refine zwW_p [(1, 1, 2)] (q := 33) (ls' := [(2, 1), (2, r), (2, y), (0, a), (0, v5)]) (st' := [(2, r), (0, v10)]) (by decide +kernel) rfl ?_
      refine zwX_gi Ch6 (kd := 4) (bn := 14) (n := 19) (nx := 36) (by decide +kernel) Gh6_0.2.1 Gh6_0.1 rfl ?_
      intro v11 ev11 lv11 uv11
      have sv11 : v11 = (yC h) 92 k := Eq.trans ev11 (Eq.trans (congrArg (fun q => fld h6 q 14) pr_h6.1) (Eq.trans (Eq.symm (yC_f (h := h6) (a := 92) (A := 3) (j := 14) (i := k) rfl pr_h6.2)) (Eq.trans (congrFun (congrFun Zh6 92) k) rfl)))
      refine zwW_sbw (nx := 37) (by decide +kernel) ?_
      intro v12 ev12 lv12 uv12
      have Ev12 : v12 = w32 (((yC h) 91 k) - ((yC h) 92 k)) := by rw [ev12, sv10, sv11]
      refine zwW_p [(1, 3, 0)] (q := 38) (ls' := [(2, 1), (2, r), (2, y), (0, a), (0, v5)]) (st' := [(0, a), (0, v12)]) (by decide +kernel) rfl ?_
      refine zwic_ge (q := 46) (nx := 41) (by decide +kernel) (fun c13 => ?_) (fun c13 => ?_)
      · refine zwW_p [(0, 0, 0)] (q := 47) (ls' := [(2, 1), (2, r), (2, y), (0, a), (0, v5)]) (st' := [(0, 0)]) (by decide +kernel) rfl ?_
        refine zwW_ret (nx := 48) (a := 0) (b := 0) (by decide +kernel) rfl (Or.inl rfl) ?_
        exact ⟨Ch6, Xh6.le (by decide) (by decide), by omega, by omega, by unfold yBarF; (repeat' (first | rw [if_pos (by omega)] | rw [if_neg (by omega)])); all_goals (first | rfl | omega), by exact f4⟩
      · refine zwW_p [(0, 7, 0), (24, 47, 0)] (q := 47) (ls' := [(2, 1), (2, r), (2, y), (0, a), (0, v5)]) (st' := [(0, 7)]) (by decide +kernel) rfl ?_
        refine zwW_ret (nx := 48) (a := 0) (b := 0) (by decide +kernel) rfl (Or.inl rfl) ?_
        exact ⟨Ch6, Xh6.le (by decide) (by decide), by omega, by omega, by unfold yBarF; (repeat' (first | rw [if_pos (by omega)] | rw [if_neg (by omega)])); all_goals (first | rfl | omega), by exact f4⟩
    · refine zwW_p [(0, 6, 0)] (q := 27) (ls' := [(2, 1), (2, r), (2, y), (0, a), (0, v5)]) (st' := [(0, 6)]) (by decide +kernel) rfl ?_
      refine zwW_ret (nx := 28) (a := 0) (b := 0) (by decide +kernel) rfl (Or.inl rfl) ?_
      exact ⟨Ch6, Xh6.le (by decide) (by decide), by omega, by omega, by unfold yBarF; (repeat' (first | rw [if_pos (by omega)] | rw [if_neg (by omega)])); all_goals (first | rfl | omega), by exact f4⟩
  · refine zwW_p [(1, 4, 0)] (q := 16) (ls' := [(2, 1), (2, r), (2, y), (0, a), (0, v5)]) (st' := [(0, v5)]) (by decide +kernel) rfl ?_
    refine zwW_ret (nx := 17) (a := 0) (b := 0) (by decide +kernel) rfl (Or.inl rfl) ?_
    exact ⟨Ch6, Xh6.le (by decide) (by decide), by omega, by omega, by unfold yBarF; (repeat' (first | rw [if_pos (by omega)] | rw [if_neg (by omega)])); all_goals (first | rfl | omega), by exact f4⟩
def msx39_z : Zms := [(17, 17, 0, 13), (18, 18, 0, 400)]
-- WheelLand.bar(III)I
theorem x39_z {sc : List Int} (h : Hp) (C : CI h) (a b c : Int) (q : qT) (q_a : -2147483648 ≤ a ∧ a ≤ 2147483647) (q_b : -2147483648 ≤ b ∧ b ≤ 2147483647) (q_c : -2147483648 ≤ c ∧ c ≤ 2147483647) (J : yR h) (V : zRq q h) (ok : yOK (yC h)) (PF8 : yF8 (yC h)) : zwC sc 7 39 [(2, 1), (0, a), (0, b), (0, c)] h (zwRt 0 (fun x g => CI g ∧ zXR msx39_z (0) (0) h g ∧ (-2147483648 ≤ x ∧ x ≤ 2147483647) ∧ (x = yBarA q (yC h) a b c) ∧ (yR g))) := by
  refine zwC_of (D := 6) 6 (by decide +kernel) rfl (ls := [(2, 1), (0, a), (0, b), (0, c), (9, 0), (9, 0)]) rfl ?_
  have X : zXR msx39_z 0 0 h h := zXR.rf _ _
  have u0 : yC h 37 0 = fld h 1 0 := rfl
  have u1 : yC h 37 1 = fld h 2 2 := rfl
  have u2 : yC h 37 2 = fld h 3 2 := rfl
  have u64 : yC h 37 64 = fld h 4 2 := rfl
  refine zwW_p [(1, 0, 2), (1, 1, 0)] (q := 2) (ls' := [(2, 1), (0, a), (0, b), (0, c), (9, 0), (9, 0)]) (st' := [(0, a), (2, 1)]) (by decide +kernel) rfl ?_
  refine zwW_cm C.1 (op := 60) (k' := 109) (n := 1) (kd := 12) (m := 13) (nx := 5) (r := 1) (tl := [(0, a)]) (st' := []) (by decide +kernel) rfl (by decide +kernel) rfl (x109 h C a (by omega)) ?_
  rintro v2 _ ⟨rfl, ⟨rfl, c1⟩ | ⟨Gv2, c1⟩⟩
  · refine zwW_p [(2, 4, 2), (1, 0, 2), (1, 2, 0)] (q := 9) (ls' := [(2, 1), (0, a), (0, b), (0, c), (2, 0), (9, 0)]) (st' := [(0, b), (2, 1)]) (by decide +kernel) rfl ?_
    refine zwW_cm C.1 (op := 60) (k' := 115) (n := 1) (kd := 12) (m := 13) (nx := 12) (r := 1) (tl := [(0, b)]) (st' := []) (by decide +kernel) rfl (by decide +kernel) rfl (x115 h C b (by omega)) ?_
    rintro v4 _ ⟨rfl, ⟨rfl, c3⟩ | ⟨Gv4, c3⟩⟩
    · refine zwW_p [(2, 5, 2), (1, 4, 2)] (q := 16) (ls' := [(2, 1), (0, a), (0, b), (0, c), (2, 0), (2, 0)]) (st' := [(2, 0)]) (by decide +kernel) rfl ?_
      refine zwnu_eq (q := 31) (nx := 19) (by decide +kernel) (by decide) (fun c5 => ?_) (fun c5 => ?_)
      · refine zwW_p [(0, -1, 0)] (q := 32) (ls' := [(2, 1), (0, a), (0, b), (0, c), (2, 0), (2, 0)]) (st' := [(0, -1)]) (by decide +kernel) rfl ?_
        refine zwW_ret (nx := 33) (a := 0) (b := 0) (by decide +kernel) rfl (Or.inl rfl) ?_
        exact ⟨C, X.le (by decide) (by decide), by omega, by unfold yBarA; (repeat' (first | rw [if_pos (by omega)] | rw [if_neg (by omega)])); all_goals (first | rfl | omega), by exact J⟩
      · exfalso; omega
    · have lv4 := Gv4.1
      have ev4 := c3.2.2
      have pv4 : v4 = zv h 4 b.toNat ∧ ((b.toNat : Nat) : Int) < fld h 4 2 := ⟨ev4, by omega⟩
      refine zwW_p [(2, 5, 2), (1, 4, 2)] (q := 16) (ls' := [(2, 1), (0, a), (0, b), (0, c), (2, 0), (2, v4)]) (st' := [(2, 0)]) (by decide +kernel) rfl ?_
      refine zwnu_eq (q := 31) (nx := 19) (by decide +kernel) (by decide) (fun c6 => ?_) (fun c6 => ?_)
      · refine zwW_p [(0, -1, 0)] (q := 32) (ls' := [(2, 1), (0, a), (0, b), (0, c), (2, 0), (2, v4)]) (st' := [(0, -1)]) (by decide +kernel) rfl ?_
        refine zwW_ret (nx := 33) (a := 0) (b := 0) (by decide +kernel) rfl (Or.inl rfl) ?_
        exact ⟨C, X.le (by decide) (by decide), by omega, by unfold yBarA; (repeat' (first | rw [if_pos (by omega)] | rw [if_neg (by omega)])); all_goals (first | rfl | omega), by exact J⟩
      · exfalso; omega
  · have lv2 := Gv2.1
    have ev2 := c1.2.2
    have pv2 : v2 = zv h 3 a.toNat ∧ ((a.toNat : Nat) : Int) < fld h 3 2 := ⟨ev2, by omega⟩
    refine zwW_p [(2, 4, 2), (1, 0, 2), (1, 2, 0)] (q := 9) (ls' := [(2, 1), (0, a), (0, b), (0, c), (2, v2), (9, 0)]) (st' := [(0, b), (2, 1)]) (by decide +kernel) rfl ?_
    refine zwW_cm C.1 (op := 60) (k' := 115) (n := 1) (kd := 12) (m := 13) (nx := 12) (r := 1) (tl := [(0, b)]) (st' := []) (by decide +kernel) rfl (by decide +kernel) rfl (x115 h C b (by omega)) ?_
    rintro v8 _ ⟨rfl, ⟨rfl, c7⟩ | ⟨Gv8, c7⟩⟩
    · refine zwW_p [(2, 5, 2), (1, 4, 2)] (q := 16) (ls' := [(2, 1), (0, a), (0, b), (0, c), (2, v2), (2, 0)]) (st' := [(2, v2)]) (by decide +kernel) rfl ?_
      refine zwnu_eq (q := 31) (nx := 19) (by decide +kernel) (by omega) (fun c9 => ?_) (fun c9 => ?_)
      · exfalso; omega
      · refine zwW_p [(1, 5, 2)] (q := 21) (ls' := [(2, 1), (0, a), (0, b), (0, c), (2, v2), (2, 0)]) (st' := [(2, 0)]) (by decide +kernel) rfl ?_
        refine zwnu_eq (q := 31) (nx := 24) (by decide +kernel) (by decide) (fun c10 => ?_) (fun c10 => ?_)
        · refine zwW_p [(0, -1, 0)] (q := 32) (ls' := [(2, 1), (0, a), (0, b), (0, c), (2, v2), (2, 0)]) (st' := [(0, -1)]) (by decide +kernel) rfl ?_
          refine zwW_ret (nx := 33) (a := 0) (b := 0) (by decide +kernel) rfl (Or.inl rfl) ?_
          exact ⟨C, X.le (by decide) (by decide), by omega, by unfold yBarA; (repeat' (first | rw [if_pos (by omega)] | rw [if_neg (by omega)])); all_goals (first | rfl | omega), by exact J⟩
        · exfalso; omega
    · have lv8 := Gv8.1
      have ev8 := c7.2.2
      have pv8 : v8 = zv h 4 b.toNat ∧ ((b.toNat : Nat) : Int) < fld h 4 2 := ⟨ev8, by omega⟩
      refine zwW_p [(2, 5, 2), (1, 4, 2)] (q := 16) (ls' := [(2, 1), (0, a), (0, b), (0, c), (2, v2), (2, v8)]) (st' := [(2, v2)]) (by decide +kernel) rfl ?_
      refine zwnu_eq (q := 31) (nx := 19) (by decide +kernel) (by omega) (fun c11 => ?_) (fun c11 => ?_)
      · exfalso; omega
      · refine zwW_p [(1, 5, 2)] (q := 21) (ls' := [(2, 1), (0, a), (0, b), (0, c), (2, v2), (2, v8)]) (st' := [(2, v8)]) (by decide +kernel) rfl ?_
        refine zwnu_eq (q := 31) (nx := 24) (by decide +kernel) (by omega) (fun c12 => ?_) (fun c12 => ?_)
        · exfalso; omega
        · refine zwW_p [(1, 3, 0)] (q := 25) (ls' := [(2, 1), (0, a), (0, b), (0, c), (2, v2), (2, v8)]) (st' := [(0, c)]) (by decide +kernel) rfl ?_
          refine zwW_cs (k' := 130) (n := 1) (nx := 28) (as := [(0, c)]) (st' := []) (by decide +kernel) rfl (x130_z h C c (by omega)) rfl ?_
          rintro x _ ⟨rfl, ⟨rfl, c13⟩ | ⟨rfl, c13⟩⟩
          · refine zwif_ne (q := 33) (nx := 31) (by decide +kernel) (fun c14 => ?_) (fun c14 => ?_)
            · refine zwW_p [(1, 0, 2), (1, 4, 2), (1, 5, 2), (1, 3, 0)] (q := 39) (ls' := [(2, 1), (0, a), (0, b), (0, c), (2, v2), (2, v8)]) (st' := [(0, c), (2, v8), (2, v2), (2, 1)]) (by decide +kernel) rfl ?_
              refine zwW_cm C.1 (op := 60) (k' := 131) (n := 3) (kd := 12) (m := 13) (nx := 42) (r := 1) (tl := [(2, v2), (2, v8), (0, c)]) (st' := []) (by decide +kernel) rfl (by decide +kernel) rfl (x131_z h C v2 v8 c q Gv2 Gv8 (by omega) J a.toNat pv2 b.toNat pv8 V ok PF8 ⟨by omega, by omega⟩) ?_
              rintro v19 h20 ⟨Ch20, Qh20, f15, f16, f17, f18⟩
              have sv19 : v19 = yBarF q (yC h) a.toNat b.toNat c := by rw [f17]
              have Zh20 : yC h20 = (yC h) := (yC_fr C Qh20 (by decide +kernel) (C.1.b (a1 := 37) (a2 := 37) (j1 := 86) (j2 := 87) (lo := 0) (hi := 6) (by decide +kernel) (r := 37) (j := 86) (by decide) (by decide) (by decide) (by decide)).2).trans (rfl : yC h = yC h)
              have Xh20 : zXR msx39_z (0) (0) h h20 := X.tr (c2 := 0) (s2 := 0) Qh20 (by decide +kernel) (by decide) (by decide)
              have Gh20_0 : gH h20 v2 := Gv2.x Qh20
              have Gh20_1 : gL h20 v8 := Gv8.x Qh20
              have pv2_h20 : v2 = zv h20 3 a.toNat ∧ ((a.toNat : Nat) : Int) < fld h20 3 2 := zpv C Qh20 (A := 3) (by decide) (by decide +kernel) pv2
              have pv8_h20 : v8 = zv h20 4 b.toNat ∧ ((b.toNat : Nat) : Int) < fld h20 4 2 := zpv C Qh20 (A := 4) (by decide) (by decide +kernel) pv8
              have Vh20 : zRq q h20 := V.fr C Qh20 (by decide +kernel)
              refine zwW_ret (nx := 43) (a := 0) (b := 0) (by decide +kernel) rfl (Or.inl rfl) ?_
              exact ⟨Ch20, Xh20.le (by decide) (by decide), by omega, by unfold yBarA; (repeat' (first | rw [if_pos (by omega)] | rw [if_neg (by omega)])); all_goals (first | rfl | omega), by exact f18⟩
            · exfalso; omega
          · refine zwif_ne (q := 33) (nx := 31) (by decide +kernel) (fun c21 => ?_) (fun c21 => ?_)
            · exfalso; omega
            · refine zwW_p [(0, -1, 0)] (q := 32) (ls' := [(2, 1), (0, a), (0, b), (0, c), (2, v2), (2, v8)]) (st' := [(0, -1)]) (by decide +kernel) rfl ?_
              refine zwW_ret (nx := 33) (a := 0) (b := 0) (by decide +kernel) rfl (Or.inl rfl) ?_
              exact ⟨C, X.le (by decide) (by decide), by omega, by unfold yBarA; (repeat' (first | rw [if_pos (by omega)] | rw [if_neg (by omega)])); all_goals (first | rfl | omega), by exact J⟩
def msx41_z : Zms := [(5, 5, 0, 3), (17, 17, 0, 13), (18, 18, 0, 400), (34, 34, 1, 2), (1004, 1004, 6, 7), (1004, 1004, 14, 15), (1006, 1006, 6, 7)]
-- WheelLand.weave(III)I
theorem x41_z {sc : List Int} (h : Hp) (C : CI h) (a b c : Int) (q : qT) (q_a : -2147483648 ≤ a ∧ a ≤ 2147483647) (q_b : -2147483648 ≤ b ∧ b ≤ 2147483647) (q_c : -2147483648 ≤ c ∧ c ≤ 2147483647) (J : yR h) (V : zRq q h) (ok : yOK (yC h)) (PF8 : yF8 (yC h)) (hl : h.length ≤ 999930000) : zwC sc 7 41 [(2, 1), (0, a), (0, b), (0, c)] h (zwRt 0 (fun x g => CI g ∧ zXR msx41_z (2) (1006) h g ∧ (-2147483648 ≤ x ∧ x ≤ 2147483647) ∧ (x = yWvA q (yC h) a b c) ∧ (yC g = yWvF q (yC h) a b c) ∧ (yR g))) := by
  refine zwC_of (D := 6) 8 (by decide +kernel) rfl (ls := [(2, 1), (0, a), (0, b), (0, c), (9, 0), (9, 0), (9, 0), (9, 0)]) rfl ?_
  have X : zXR msx41_z 0 0 h h := zXR.rf _ _
  have u0 : yC h 37 0 = fld h 1 0 := rfl
  have u1 : yC h 37 1 = fld h 2 2 := rfl
  have u2 : yC h 37 2 = fld h 3 2 := rfl
  have u64 : yC h 37 64 = fld h 4 2 := rfl
  have u70 : yC h 37 70 = fld h 34 1 := rfl
  have u78 : yC h 37 78 = fld h 5 2 := rfl
  have b55 := zLb_5 C
  refine zwW_p [(1, 0, 2), (1, 1, 0)] (q := 2) (ls' := [(2, 1), (0, a), (0, b), (0, c), (9, 0), (9, 0), (9, 0), (9, 0)]) (st' := [(0, a), (2, 1)]) (by decide +kernel) rfl ?_
  refine zwW_cm C.1 (op := 60) (k' := 109) (n := 1) (kd := 12) (m := 13) (nx := 5) (r := 1) (tl := [(0, a)]) (st' := []) (by decide +kernel) rfl (by decide +kernel) rfl (x109 h C a (by omega)) ?_
  rintro v2 _ ⟨rfl, ⟨rfl, c1⟩ | ⟨Gv2, c1⟩⟩
  · refine zwW_p [(2, 4, 2), (1, 0, 2), (1, 2, 0)] (q := 9) (ls' := [(2, 1), (0, a), (0, b), (0, c), (2, 0), (9, 0), (9, 0), (9, 0)]) (st' := [(0, b), (2, 1)]) (by decide +kernel) rfl ?_
    refine zwW_cm C.1 (op := 60) (k' := 115) (n := 1) (kd := 12) (m := 13) (nx := 12) (r := 1) (tl := [(0, b)]) (st' := []) (by decide +kernel) rfl (by decide +kernel) rfl (x115 h C b (by omega)) ?_
    rintro v4 _ ⟨rfl, ⟨rfl, c3⟩ | ⟨Gv4, c3⟩⟩
    · refine zwW_p [(2, 5, 2), (1, 4, 2)] (q := 16) (ls' := [(2, 1), (0, a), (0, b), (0, c), (2, 0), (2, 0), (9, 0), (9, 0)]) (st' := [(2, 0)]) (by decide +kernel) rfl ?_
      refine zwnu_eq (q := 66) (nx := 19) (by decide +kernel) (by decide) (fun c5 => ?_) (fun c5 => ?_)
      · refine zwW_p [(0, -1, 0)] (q := 67) (ls' := [(2, 1), (0, a), (0, b), (0, c), (2, 0), (2, 0), (9, 0), (9, 0)]) (st' := [(0, -1)]) (by decide +kernel) rfl ?_
        refine zwW_ret (nx := 68) (a := 0) (b := 0) (by decide +kernel) rfl (Or.inl rfl) ?_
        exact ⟨C, X.le (by decide) (by decide), by omega, by unfold yWvA; (repeat' (first | rw [if_pos (by omega)] | rw [if_neg (by omega)])); all_goals (first | rfl | omega), by refine Eq.trans (rfl : yC h = yC h) ?_; unfold yWvF yWvS; (repeat' (first | rw [if_pos (by omega)] | rw [if_neg (by omega)])); all_goals (repeat' (first | rfl | omega | apply zs_cg)), by exact J⟩
      · exfalso; omega
    · have lv4 := Gv4.1
      have ev4 := c3.2.2
      have pv4 : v4 = zv h 4 b.toNat ∧ ((b.toNat : Nat) : Int) < fld h 4 2 := ⟨ev4, by omega⟩
      refine zwW_p [(2, 5, 2), (1, 4, 2)] (q := 16) (ls' := [(2, 1), (0, a), (0, b), (0, c), (2, 0), (2, v4), (9, 0), (9, 0)]) (st' := [(2, 0)]) (by decide +kernel) rfl ?_
      refine zwnu_eq (q := 66) (nx := 19) (by decide +kernel) (by decide) (fun c6 => ?_) (fun c6 => ?_)
      · refine zwW_p [(0, -1, 0)] (q := 67) (ls' := [(2, 1), (0, a), (0, b), (0, c), (2, 0), (2, v4), (9, 0), (9, 0)]) (st' := [(0, -1)]) (by decide +kernel) rfl ?_
        refine zwW_ret (nx := 68) (a := 0) (b := 0) (by decide +kernel) rfl (Or.inl rfl) ?_
        exact ⟨C, X.le (by decide) (by decide), by omega, by unfold yWvA; (repeat' (first | rw [if_pos (by omega)] | rw [if_neg (by omega)])); all_goals (first | rfl | omega), by refine Eq.trans (rfl : yC h = yC h) ?_; unfold yWvF yWvS; (repeat' (first | rw [if_pos (by omega)] | rw [if_neg (by omega)])); all_goals (repeat' (first | rfl | omega | apply zs_cg)), by exact J⟩
      · exfalso; omega
  · have lv2 := Gv2.1
    have ev2 := c1.2.2
    have pv2 : v2 = zv h 3 a.toNat ∧ ((a.toNat : Nat) : Int) < fld h 3 2 := ⟨ev2, by omega⟩
    refine zwW_p [(2, 4, 2), (1, 0, 2), (1, 2, 0)] (q := 9) (ls' := [(2, 1), (0, a), (0, b), (0, c), (2, v2), (9, 0), (9, 0), (9, 0)]) (st' := [(0, b), (2, 1)]) (by decide +kernel) rfl ?_
    refine zwW_cm C.1 (op := 60) (k' := 115) (n := 1) (kd := 12) (m := 13) (nx := 12) (r := 1) (tl := [(0, b)]) (st' := []) (by decide +kernel) rfl (by decide +kernel) rfl (x115 h C b (by omega)) ?_
    rintro v8 _ ⟨rfl, ⟨rfl, c7⟩ | ⟨Gv8, c7⟩⟩
    · refine zwW_p [(2, 5, 2), (1, 4, 2)] (q := 16) (ls' := [(2, 1), (0, a), (0, b), (0, c), (2, v2), (2, 0), (9, 0), (9, 0)]) (st' := [(2, v2)]) (by decide +kernel) rfl ?_
      refine zwnu_eq (q := 66) (nx := 19) (by decide +kernel) (by omega) (fun c9 => ?_) (fun c9 => ?_)
      · exfalso; omega
      · refine zwW_p [(1, 5, 2)] (q := 21) (ls' := [(2, 1), (0, a), (0, b), (0, c), (2, v2), (2, 0), (9, 0), (9, 0)]) (st' := [(2, 0)]) (by decide +kernel) rfl ?_
        refine zwnu_eq (q := 66) (nx := 24) (by decide +kernel) (by decide) (fun c10 => ?_) (fun c10 => ?_)
        · refine zwW_p [(0, -1, 0)] (q := 67) (ls' := [(2, 1), (0, a), (0, b), (0, c), (2, v2), (2, 0), (9, 0), (9, 0)]) (st' := [(0, -1)]) (by decide +kernel) rfl ?_
          refine zwW_ret (nx := 68) (a := 0) (b := 0) (by decide +kernel) rfl (Or.inl rfl) ?_
          exact ⟨C, X.le (by decide) (by decide), by omega, by unfold yWvA; (repeat' (first | rw [if_pos (by omega)] | rw [if_neg (by omega)])); all_goals (first | rfl | omega), by refine Eq.trans (rfl : yC h = yC h) ?_; unfold yWvF yWvS; (repeat' (first | rw [if_pos (by omega)] | rw [if_neg (by omega)])); all_goals (repeat' (first | rfl | omega | apply zs_cg)), by exact J⟩
        · exfalso; omega
    · have lv8 := Gv8.1
      have ev8 := c7.2.2
      have pv8 : v8 = zv h 4 b.toNat ∧ ((b.toNat : Nat) : Int) < fld h 4 2 := ⟨ev8, by omega⟩
      refine zwW_p [(2, 5, 2), (1, 4, 2)] (q := 16) (ls' := [(2, 1), (0, a), (0, b), (0, c), (2, v2), (2, v8), (9, 0), (9, 0)]) (st' := [(2, v2)]) (by decide +kernel) rfl ?_
      refine zwnu_eq (q := 66) (nx := 19) (by decide +kernel) (by omega) (fun c11 => ?_) (fun c11 => ?_)
      · exfalso; omega
      · refine zwW_p [(1, 5, 2)] (q := 21) (ls' := [(2, 1), (0, a), (0, b), (0, c), (2, v2), (2, v8), (9, 0), (9, 0)]) (st' := [(2, v8)]) (by decide +kernel) rfl ?_
        refine zwnu_eq (q := 66) (nx := 24) (by decide +kernel) (by omega) (fun c12 => ?_) (fun c12 => ?_)
        · exfalso; omega
        · refine zwW_p [(1, 3, 0)] (q := 25) (ls' := [(2, 1), (0, a), (0, b), (0, c), (2, v2), (2, v8), (9, 0), (9, 0)]) (st' := [(0, c)]) (by decide +kernel) rfl ?_
          refine zwW_cs (k' := 130) (n := 1) (nx := 28) (as := [(0, c)]) (st' := []) (by decide +kernel) rfl (x130_z h C c (by omega)) rfl ?_
          rintro x _ ⟨rfl, ⟨rfl, c13⟩ | ⟨rfl, c13⟩⟩
          · refine zwif_eq (q := 66) (nx := 31) (by decide +kernel) (fun c14 => ?_) (fun c14 => ?_)
            · exfalso; omega
            · refine zwW_p [(1, 0, 2)] (q := 32) (ls' := [(2, 1), (0, a), (0, b), (0, c), (2, v2), (2, v8), (9, 0), (9, 0)]) (st' := [(2, 1)]) (by decide +kernel) rfl ?_
              refine zwW_gc C.1 (kd := 12) (bn := 5) (n := 13) (c := 5) (nx := 35) (by decide +kernel) ?_
              refine zwW_cm C.1 (op := 60) (k' := 96) (n := 0) (kd := 0) (m := 3) (nx := 38) (r := 5) (tl := []) (st' := []) (by decide +kernel) rfl (by decide +kernel) rfl (x96_5 C) ?_
              rintro v15 _ ⟨rfl, ev15⟩
              have bv15 := zLb_5 C
              have sv15 : v15 = (yC h) 37 78 := Eq.trans ev15 (Eq.trans (Eq.symm (yC_s (h := h) (i := 78) rfl)) (Eq.trans (congrFun (congrFun (rfl : yC h = yC h) 37) 78) rfl))
              refine zwW_p [(0, 200, 0)] (q := 41) (ls' := [(2, 1), (0, a), (0, b), (0, c), (2, v2), (2, v8), (9, 0), (9, 0)]) (st' := [(0, 200), (0, v15)]) (by decide +kernel) rfl ?_
              refine zwic_ge (q := 66) (nx := 44) (by decide +kernel) (fun c16 => ?_) (fun c16 => ?_)
              · refine zwW_p [(0, -1, 0)] (q := 67) (ls' := [(2, 1), (0, a), (0, b), (0, c), (2, v2), (2, v8), (9, 0), (9, 0)]) (st' := [(0, -1)]) (by decide +kernel) rfl ?_
                refine zwW_ret (nx := 68) (a := 0) (b := 0) (by decide +kernel) rfl (Or.inl rfl) ?_
                exact ⟨C, X.le (by decide) (by decide), by omega, by unfold yWvA; (repeat' (first | rw [if_pos (by omega)] | rw [if_neg (by omega)])); all_goals (first | rfl | omega), by refine Eq.trans (rfl : yC h = yC h) ?_; unfold yWvF yWvS; (repeat' (first | rw [if_pos (by omega)] | rw [if_neg (by omega)])); all_goals (repeat' (first | rfl | omega | apply zs_cg)), by exact J⟩
              · refine zwW_p [(1, 0, 2)] (q := 45) (ls' := [(2, 1), (0, a), (0, b), (0, c), (2, v2), (2, v8), (9, 0), (9, 0)]) (st' := [(2, 1)]) (by decide +kernel) rfl ?_
                refine zwW_gs C.1 (kd := 12) (bn := 0) (n := 13) (t := 0) (lo := 0) (hi := 156) (nx := 48) (by decide +kernel) ?_
                intro v17 ev17 lv17 uv17
                have sv17 : v17 = (yC h) 37 0 := Eq.trans ev17 (Eq.trans (Eq.symm (yC_s (h := h) (i := 0) rfl)) (Eq.trans (congrFun (congrFun (rfl : yC h = yC h) 37) 0) rfl))
                refine zwW_p [(0, 156, 0)] (q := 51) (ls' := [(2, 1), (0, a), (0, b), (0, c), (2, v2), (2, v8), (9, 0), (9, 0)]) (st' := [(0, 156), (0, v17)]) (by decide +kernel) rfl ?_
                refine zwic_ge (q := 66) (nx := 54) (by decide +kernel) (fun c18 => ?_) (fun c18 => ?_)
                · refine zwW_p [(0, -1, 0)] (q := 67) (ls' := [(2, 1), (0, a), (0, b), (0, c), (2, v2), (2, v8), (9, 0), (9, 0)]) (st' := [(0, -1)]) (by decide +kernel) rfl ?_
                  refine zwW_ret (nx := 68) (a := 0) (b := 0) (by decide +kernel) rfl (Or.inl rfl) ?_
                  exact ⟨C, X.le (by decide) (by decide), by omega, by unfold yWvA; (repeat' (first | rw [if_pos (by omega)] | rw [if_neg (by omega)])); all_goals (first | rfl | omega), by refine Eq.trans (rfl : yC h = yC h) ?_; unfold yWvF yWvS; (repeat' (first | rw [if_pos (by omega)] | rw [if_neg (by omega)])); all_goals (repeat' (first | rfl | omega | apply zs_cg)), by exact J⟩
                · refine zwW_p [(1, 0, 2), (1, 4, 2), (1, 5, 2), (1, 3, 0)] (q := 60) (ls' := [(2, 1), (0, a), (0, b), (0, c), (2, v2), (2, v8), (9, 0), (9, 0)]) (st' := [(0, c), (2, v8), (2, v2), (2, 1)]) (by decide +kernel) rfl ?_
                  refine zwW_cm C.1 (op := 60) (k' := 131) (n := 3) (kd := 12) (m := 13) (nx := 63) (r := 1) (tl := [(2, v2), (2, v8), (0, c)]) (st' := []) (by decide +kernel) rfl (by decide +kernel) rfl (x131_z h C v2 v8 c q Gv2 Gv8 (by omega) J a.toNat pv2 b.toNat pv8 V ok PF8 ⟨by omega, by omega⟩) ?_
                  rintro v23 h24 ⟨Ch24, Qh24, f19, f20, f21, f22⟩
                  have sv23 : v23 = yBarF q (yC h) a.toNat b.toNat c := by rw [f21]
                  have Zh24 : yC h24 = (yC h) := (yC_fr C Qh24 (by decide +kernel) (C.1.b (a1 := 37) (a2 := 37) (j1 := 86) (j2 := 87) (lo := 0) (hi := 6) (by decide +kernel) (r := 37) (j := 86) (by decide) (by decide) (by decide) (by decide)).2).trans (rfl : yC h = yC h)
                  have Xh24 : zXR msx41_z (0) (0) h h24 := X.tr (c2 := 0) (s2 := 0) Qh24 (by decide +kernel) (by decide) (by decide)
                  have Gh24_0 : gH h24 v2 := Gv2.x Qh24
                  have Gh24_1 : gL h24 v8 := Gv8.x Qh24
                  have pv2_h24 : v2 = zv h24 3 a.toNat ∧ ((a.toNat : Nat) : Int) < fld h24 3 2 := zpv C Qh24 (A := 3) (by decide) (by decide +kernel) pv2
                  have pv8_h24 : v8 = zv h24 4 b.toNat ∧ ((b.toNat : Nat) : Int) < fld h24 4 2 := zpv C Qh24 (A := 4) (by decide) (by decide +kernel) pv8
                  have th24_5_2 : fld h24 5 2 = fld h 5 2 := Qh24.f (a1 := 5) (a2 := 5) (j1 := 2) (j2 := 3) (by decide +kernel) ⟨by decide, by decide⟩ ⟨by decide, by decide⟩ ⟨by decide, by decide⟩
                  have Vh24 : zRq q h24 := V.fr C Qh24 (by decide +kernel)
                  refine zwif_eq (q := 68) (nx := 66) (by decide +kernel) (fun c25 => ?_) (fun c25 => ?_)
                  · refine zwW_p [(1, 0, 2), (0, 1, 0), (1, 4, 2), (1, 5, 2), (1, 3, 0)] (q := 75) (ls' := [(2, 1), (0, a), (0, b), (0, c), (2, v2), (2, v8), (9, 0), (9, 0)]) (st' := [(0, c), (2, v8), (2, v2), (0, 1), (2, 1)]) (by decide +kernel) rfl ?_
                    refine zwW_cm Ch24.1 (op := 60) (k' := 134) (n := 4) (kd := 12) (m := 13) (nx := 78) (r := 1) (tl := [(0, 1), (2, v2), (2, v8), (0, c)]) (st' := []) (by decide +kernel) rfl (by decide +kernel) rfl (x134_z h24 Ch24 1 v2 v8 c q (by omega) Gh24_0 Gh24_1 (by omega) f22 a.toNat pv2_h24 b.toNat pv8_h24 Vh24 (by rw [Zh24]; exact ok) (by rw [Zh24]; exact PF8) ⟨by decide, by decide⟩ ⟨by omega, by omega⟩) ?_
                    rintro v30 h31 ⟨Ch31, Qh31, f26, f27, f28, f29⟩
                    have sv30 : v30 = yWask q (yC h) 1 a.toNat b.toNat c := by rw [f28, Zh24]
                    have Zh31 : yC h31 = (yC h) := (yC_fr Ch24 Qh31 (by decide +kernel) (Ch24.1.b (a1 := 37) (a2 := 37) (j1 := 86) (j2 := 87) (lo := 0) (hi := 6) (by decide +kernel) (r := 37) (j := 86) (by decide) (by decide) (by decide) (by decide)).2).trans Zh24
                    have Xh31 : zXR msx41_z (0) (0) h h31 := Xh24.tr (c2 := 0) (s2 := 0) Qh31 (by decide +kernel) (by decide) (by decide)
                    have Gh31_0 : gH h31 v2 := Gh24_0.x Qh31
                    have Gh31_1 : gL h31 v8 := Gh24_1.x Qh31
                    have pv2_h31 : v2 = zv h31 3 a.toNat ∧ ((a.toNat : Nat) : Int) < fld h31 3 2 := zpv Ch24 Qh31 (A := 3) (by decide) (by decide +kernel) pv2_h24
                    have pv8_h31 : v8 = zv h31 4 b.toNat ∧ ((b.toNat : Nat) : Int) < fld h31 4 2 := zpv Ch24 Qh31 (A := 4) (by decide) (by decide +kernel) pv8_h24
                    have th31_5_2 : fld h31 5 2 = fld h24 5 2 := Qh31.f (a1 := 5) (a2 := 5) (j1 := 2) (j2 := 3) (by decide +kernel) ⟨by decide, by decide⟩ ⟨by decide, by decide⟩ ⟨by decide, by decide⟩
                    have Vh31 : zRq q h31 := Vh24.fr Ch24 Qh31 (by decide +kernel)
                    refine zwW_p [(0, 0, 0)] (q := 79) (ls' := [(2, 1), (0, a), (0, b), (0, c), (2, v2), (2, v8), (9, 0), (9, 0)]) (st' := [(0, 0), (0, v30)]) (by decide +kernel) rfl ?_
                    refine zwW_max (nx := 82) (by decide +kernel) rfl ?_
                    intro v32 ev32
                    have Ev32 : v32 = max (yWask q (yC h) 1 a.toNat b.toNat c) 0 := by rw [ev32, sv30]
                    refine zwW_p [(2, 6, 0), (1, 0, 2), (0, 4, 0), (1, 4, 2), (1, 5, 2), (1, 3, 0)] (q := 91) (ls' := [(2, 1), (0, a), (0, b), (0, c), (2, v2), (2, v8), (0, v32), (9, 0)]) (st' := [(0, c), (2, v8), (2, v2), (0, 4), (2, 1)]) (by decide +kernel) rfl ?_
                    refine zwW_cm Ch31.1 (op := 60) (k' := 134) (n := 4) (kd := 12) (m := 13) (nx := 94) (r := 1) (tl := [(0, 4), (2, v2), (2, v8), (0, c)]) (st' := []) (by decide +kernel) rfl (by decide +kernel) rfl (x134_z h31 Ch31 4 v2 v8 c q (by omega) Gh31_0 Gh31_1 (by omega) f29 a.toNat pv2_h31 b.toNat pv8_h31 Vh31 (by rw [Zh31]; exact ok) (by rw [Zh31]; exact PF8) ⟨by decide, by decide⟩ ⟨by omega, by omega⟩) ?_
                    rintro v37 h38 ⟨Ch38, Qh38, f33, f34, f35, f36⟩
                    have sv37 : v37 = yWask q (yC h) 4 a.toNat b.toNat c := by rw [f35, Zh31]
                    have Zh38 : yC h38 = (yC h) := (yC_fr Ch31 Qh38 (by decide +kernel) (Ch31.1.b (a1 := 37) (a2 := 37) (j1 := 86) (j2 := 87) (lo := 0) (hi := 6) (by decide +kernel) (r := 37) (j := 86) (by decide) (by decide) (by decide) (by decide)).2).trans Zh31
                    have Xh38 : zXR msx41_z (0) (0) h h38 := Xh31.tr (c2 := 0) (s2 := 0) Qh38 (by decide +kernel) (by decide) (by decide)
                    have Gh38_0 : gH h38 v2 := Gh31_0.x Qh38
                    have Gh38_1 : gL h38 v8 := Gh31_1.x Qh38
                    have pv2_h38 : v2 = zv h38 3 a.toNat ∧ ((a.toNat : Nat) : Int) < fld h38 3 2 := zpv Ch31 Qh38 (A := 3) (by decide) (by decide +kernel) pv2_h31
                    have pv8_h38 : v8 = zv h38 4 b.toNat ∧ ((b.toNat : Nat) : Int) < fld h38 4 2 := zpv Ch31 Qh38 (A := 4) (by decide) (by decide +kernel) pv8_h31
                    have th38_5_2 : fld h38 5 2 = fld h31 5 2 := Qh38.f (a1 := 5) (a2 := 5) (j1 := 2) (j2 := 3) (by decide +kernel) ⟨by decide, by decide⟩ ⟨by decide, by decide⟩ ⟨by decide, by decide⟩
                    have Vh38 : zRq q h38 := Vh31.fr Ch31 Qh38 (by decide +kernel)
                    refine zwif_eq (q := 101) (nx := 97) (by decide +kernel) (fun c39 => ?_) (fun c39 => ?_)
                    · refine zwW_p [(0, 0, 0), (2, 7, 0), (1, 5, 2), (12, 0, 0)] (q := 107) (ls' := [(2, 1), (0, a), (0, b), (0, c), (2, v2), (2, v8), (0, v32), (0, 0)]) (st' := [(2, v8), (2, v8)]) (by decide +kernel) rfl ?_
                      refine zwX_gi Ch38 (kd := 6) (bn := 6) (n := 7) (nx := 110) (by decide +kernel) Gh38_1.2.1 Gh38_1.1 rfl ?_
                      intro v40 ev40 lv40 uv40
                      have sv40 : v40 = (yC h) 175 b.toNat := Eq.trans ev40 (Eq.trans (congrArg (fun q => fld h38 q 6) pv8_h38.1) (Eq.trans (Eq.symm (yC_f (h := h38) (a := 175) (A := 4) (j := 6) (i := b.toNat) rfl pv8_h38.2)) (Eq.trans (congrFun (congrFun Zh38 175) b.toNat) rfl)))
                      refine zwW_p [(1, 3, 0)] (q := 111) (ls' := [(2, 1), (0, a), (0, b), (0, c), (2, v2), (2, v8), (0, v32), (0, 0)]) (st' := [(0, c), (0, v40), (2, v8)]) (by decide +kernel) rfl ?_
                      refine zwW_sbw (nx := 112) (by decide +kernel) ?_
                      intro v41 ev41 lv41 uv41
                      have Ev41 : v41 = w32 (((yC h) 175 b.toNat) - c) := by rw [ev41, sv40]
                      refine zwX_pi Ch38 (kd := 6) (bn := 6) (n := 7) (nx := 115) (by decide +kernel) Gh38_1.2.1 Gh38_1.1 ⟨by omega, by omega⟩ ?_
                      rintro h42 eh42 Ch42 Qh42
                      have Zh42 : yC h42 = (zs (yC h) 175 b.toNat (w32 (((yC h) 175 b.toNat) - c))) := by rw [yC_w (a := 175) (A := 4) (j := 6) (k := b.toNat) Ch38 f36 rfl pv8_h38 eh42, Zh38, Ev41]
                      have Xh42 : zXR msx41_z (0) (0) h h42 := Xh38.tr (c2 := 0) (s2 := 0) Qh42 (by decide +kernel) (by decide) (by decide)
                      have Gh42_0 : gH h42 v2 := Gh38_0.x Qh42
                      have Gh42_1 : gL h42 v8 := Gh38_1.x Qh42
                      have Jh42 : yR h42 := f36.fr Ch38 Qh42 (by decide +kernel)
                      have pv2_h42 : v2 = zv h42 3 a.toNat ∧ ((a.toNat : Nat) : Int) < fld h42 3 2 := zpv Ch38 Qh42 (A := 3) (by decide) (by decide +kernel) pv2_h38
                      have pv8_h42 : v8 = zv h42 4 b.toNat ∧ ((b.toNat : Nat) : Int) < fld h42 4 2 := zpv Ch38 Qh42 (A := 4) (by decide) (by decide +kernel) pv8_h38
                      have th42_5_2 : fld h42 5 2 = fld h38 5 2 := Qh42.f (a1 := 5) (a2 := 5) (j1 := 2) (j2 := 3) (by decide +kernel) ⟨by decide, by decide⟩ ⟨by decide, by decide⟩ ⟨by decide, by decide⟩
                      have Vh42 : zRq q h42 := Vh38.fr Ch38 Qh42 (by decide +kernel)
                      refine zwW_p [(1, 5, 2)] (q := 117) (ls' := [(2, 1), (0, a), (0, b), (0, c), (2, v2), (2, v8), (0, v32), (0, 0)]) (st' := [(2, v8)]) (by decide +kernel) rfl ?_
                      refine zwW_get (kd := 6) (bn := 1) (t := 2) (n := 7) (nx := 120) (by decide +kernel) Gh42_1.2.1 rfl ?_
                      obtain ⟨v43, ev43⟩ : ∃ z, z = fld h42 v8 1 := ⟨_, rfl⟩
                      rw [← ev43]
                      have Gv43 : gH h42 v43 := by rw [ev43]; exact Gh42_1.2.2
                      have lv43 := Gv43.1
                      have qv43 : yC h42 170 b.toNat = (yC h) 170 b.toNat := Eq.trans (congrFun (congrFun Zh42 170) b.toNat) (Eq.trans (zs_na (by decide) : (zs (yC h) 175 b.toNat (w32 (((yC h) 175 b.toNat) - c))) 170 b.toNat = (yC h) 170 b.toNat) rfl)
                      have wv43 := Jh42.r (a := 170) (A := 4) (j := 1) (B := 3) (i := b.toNat) rfl pv8_h42.2
                      rw [qv43] at wv43
                      have pv43 : v43 = zv h42 3 (((yC h) 170 b.toNat).toNat) ∧ ((((yC h) 170 b.toNat).toNat : Nat) : Int) < fld h42 3 2 := ⟨by rw [ev43, pv8_h42.1]; exact wv43.2.2, wv43.2.1⟩
                      refine zwW_p [(12, 0, 0)] (q := 121) (ls' := [(2, 1), (0, a), (0, b), (0, c), (2, v2), (2, v8), (0, v32), (0, 0)]) (st' := [(2, v43), (2, v43)]) (by decide +kernel) rfl ?_
                      refine zwX_gi Ch42 (kd := 4) (bn := 6) (n := 19) (nx := 124) (by decide +kernel) Gv43.2.1 Gv43.1 rfl ?_
                      intro v44 ev44 lv44 uv44
                      have sv44 : v44 = (yC h) 84 (((yC h) 170 b.toNat).toNat) := Eq.trans ev44 (Eq.trans (congrArg (fun q => fld h42 q 6) pv43.1) (Eq.trans (Eq.symm (yC_f (h := h42) (a := 84) (A := 3) (j := 6) (i := ((yC h) 170 b.toNat).toNat) rfl pv43.2)) (Eq.trans (congrFun (congrFun Zh42 84) (((yC h) 170 b.toNat).toNat)) (Eq.trans (zs_na (by decide) : (zs (yC h) 175 b.toNat (w32 (((yC h) 175 b.toNat) - c))) 84 (((yC h) 170 b.toNat).toNat) = (yC h) 84 (((yC h) 170 b.toNat).toNat)) rfl))))
                      refine zwW_p [(1, 6, 0)] (q := 126) (ls' := [(2, 1), (0, a), (0, b), (0, c), (2, v2), (2, v8), (0, v32), (0, 0)]) (st' := [(0, v32), (0, v44), (2, v43)]) (by decide +kernel) rfl ?_
                      refine zwW_sbw (nx := 127) (by decide +kernel) ?_
                      intro v45 ev45 lv45 uv45
                      have Ev45 : v45 = w32 (((yC h) 84 (((yC h) 170 b.toNat).toNat)) - (max (yWask q (yC h) 1 a.toNat b.toNat c) 0)) := by rw [ev45, sv44, Ev32]
                      refine zwX_pi Ch42 (kd := 4) (bn := 6) (n := 19) (nx := 130) (by decide +kernel) Gv43.2.1 Gv43.1 ⟨by omega, by omega⟩ ?_
                      rintro h46 eh46 Ch46 Qh46
                      have Uh46 : yC h46 = (zs (zs (yC h) 175 b.toNat (w32 (((yC h) 175 b.toNat) - c))) 84 (((yC h) 170 b.toNat).toNat) (w32 (((yC h) 84 (((yC h) 170 b.toNat).toNat)) - (max (yWask q (yC h) 1 a.toNat b.toNat c) 0)))) := by rw [yC_w (a := 84) (A := 3) (j := 6) (k := ((yC h) 170 b.toNat).toNat) Ch42 Jh42 rfl pv43 eh46, Zh42, Ev45]
                      have Zh46 : yC h46 = (zs (zs (yC h) 84 (((yC h) 170 b.toNat).toNat) (w32 (((yC h) 84 (((yC h) 170 b.toNat).toNat)) - (max (yWask q (yC h) 1 a.toNat b.toNat c) 0)))) 175 b.toNat (w32 (((yC h) 175 b.toNat) - c))) := by rw [Uh46, zs_sw (a := 175) (b := 84) (by decide)]
                      have Xh46 : zXR msx41_z (0) (0) h h46 := Xh42.tr (c2 := 0) (s2 := 0) Qh46 (by decide +kernel) (by decide) (by decide)
                      have Gh46_0 : gH h46 v2 := Gh42_0.x Qh46
                      have Gh46_1 : gL h46 v8 := Gh42_1.x Qh46
                      have Jh46 : yR h46 := Jh42.fr Ch42 Qh46 (by decide +kernel)
                      have pv2_h46 : v2 = zv h46 3 a.toNat ∧ ((a.toNat : Nat) : Int) < fld h46 3 2 := zpv Ch42 Qh46 (A := 3) (by decide) (by decide +kernel) pv2_h42
                      have pv8_h46 : v8 = zv h46 4 b.toNat ∧ ((b.toNat : Nat) : Int) < fld h46 4 2 := zpv Ch42 Qh46 (A := 4) (by decide) (by decide +kernel) pv8_h42
                      have th46_5_2 : fld h46 5 2 = fld h42 5 2 := Qh46.f (a1 := 5) (a2 := 5) (j1 := 2) (j2 := 3) (by decide +kernel) ⟨by decide, by decide⟩ ⟨by decide, by decide⟩ ⟨by decide, by decide⟩
                      have Vh46 : zRq q h46 := Vh42.fr Ch42 Qh46 (by decide +kernel)
                      refine zwW_p [(1, 4, 2), (12, 0, 0)] (q := 133) (ls' := [(2, 1), (0, a), (0, b), (0, c), (2, v2), (2, v8), (0, v32), (0, 0)]) (st' := [(2, v2), (2, v2)]) (by decide +kernel) rfl ?_
                      refine zwX_gi Ch46 (kd := 4) (bn := 6) (n := 19) (nx := 136) (by decide +kernel) Gh46_0.2.1 Gh46_0.1 rfl ?_
                      intro v47 ev47 lv47 uv47
                      have sv47 : v47 = (zs (yC h) 84 (((yC h) 170 b.toNat).toNat) (w32 (((yC h) 84 (((yC h) 170 b.toNat).toNat)) - (max (yWask q (yC h) 1 a.toNat b.toNat c) 0)))) 84 a.toNat := Eq.trans ev47 (Eq.trans (congrArg (fun q => fld h46 q 6) pv2_h46.1) (Eq.trans (Eq.symm (yC_f (h := h46) (a := 84) (A := 3) (j := 6) (i := a.toNat) rfl pv2_h46.2)) (Eq.trans (congrFun (congrFun Zh46 84) a.toNat) (Eq.trans (zs_na (by decide) : (zs (zs (yC h) 84 (((yC h) 170 b.toNat).toNat) (w32 (((yC h) 84 (((yC h) 170 b.toNat).toNat)) - (max (yWask q (yC h) 1 a.toNat b.toNat c) 0)))) 175 b.toNat (w32 (((yC h) 175 b.toNat) - c))) 84 a.toNat = (zs (yC h) 84 (((yC h) 170 b.toNat).toNat) (w32 (((yC h) 84 (((yC h) 170 b.toNat).toNat)) - (max (yWask q (yC h) 1 a.toNat b.toNat c) 0)))) 84 a.toNat) rfl))))
                      refine zwW_p [(1, 6, 0)] (q := 138) (ls' := [(2, 1), (0, a), (0, b), (0, c), (2, v2), (2, v8), (0, v32), (0, 0)]) (st' := [(0, v32), (0, v47), (2, v2)]) (by decide +kernel) rfl ?_
                      refine zwW_adw (nx := 139) (by decide +kernel) ?_
                      intro v48 ev48 lv48 uv48
                      have Ev48 : v48 = w32 (((zs (yC h) 84 (((yC h) 170 b.toNat).toNat) (w32 (((yC h) 84 (((yC h) 170 b.toNat).toNat)) - (max (yWask q (yC h) 1 a.toNat b.toNat c) 0)))) 84 a.toNat) + (max (yWask q (yC h) 1 a.toNat b.toNat c) 0)) := by rw [ev48, sv47, Ev32]
                      refine zwX_pi Ch46 (kd := 4) (bn := 6) (n := 19) (nx := 142) (by decide +kernel) Gh46_0.2.1 Gh46_0.1 ⟨by omega, by omega⟩ ?_
                      rintro h49 eh49 Ch49 Qh49
                      have Uh49 : yC h49 = (zs (zs (zs (yC h) 84 (((yC h) 170 b.toNat).toNat) (w32 (((yC h) 84 (((yC h) 170 b.toNat).toNat)) - (max (yWask q (yC h) 1 a.toNat b.toNat c) 0)))) 175 b.toNat (w32 (((yC h) 175 b.toNat) - c))) 84 a.toNat (w32 (((zs (yC h) 84 (((yC h) 170 b.toNat).toNat) (w32 (((yC h) 84 (((yC h) 170 b.toNat).toNat)) - (max (yWask q (yC h) 1 a.toNat b.toNat c) 0)))) 84 a.toNat) + (max (yWask q (yC h) 1 a.toNat b.toNat c) 0)))) := by rw [yC_w (a := 84) (A := 3) (j := 6) (k := a.toNat) Ch46 Jh46 rfl pv2_h46 eh49, Zh46, Ev48]
                      have Zh49 : yC h49 = (zs (zs (zs (yC h) 84 (((yC h) 170 b.toNat).toNat) (w32 (((yC h) 84 (((yC h) 170 b.toNat).toNat)) - (max (yWask q (yC h) 1 a.toNat b.toNat c) 0)))) 84 a.toNat (w32 (((zs (yC h) 84 (((yC h) 170 b.toNat).toNat) (w32 (((yC h) 84 (((yC h) 170 b.toNat).toNat)) - (max (yWask q (yC h) 1 a.toNat b.toNat c) 0)))) 84 a.toNat) + (max (yWask q (yC h) 1 a.toNat b.toNat c) 0)))) 175 b.toNat (w32 (((yC h) 175 b.toNat) - c))) := by rw [Uh49, zs_sw (a := 175) (b := 84) (by decide)]
                      have Xh49 : zXR msx41_z (0) (0) h h49 := Xh46.tr (c2 := 0) (s2 := 0) Qh49 (by decide +kernel) (by decide) (by decide)
                      have Gh49_0 : gH h49 v2 := Gh46_0.x Qh49
                      have Gh49_1 : gL h49 v8 := Gh46_1.x Qh49
                      have Jh49 : yR h49 := Jh46.fr Ch46 Qh49 (by decide +kernel)
                      have pv2_h49 : v2 = zv h49 3 a.toNat ∧ ((a.toNat : Nat) : Int) < fld h49 3 2 := zpv Ch46 Qh49 (A := 3) (by decide) (by decide +kernel) pv2_h46
                      have pv8_h49 : v8 = zv h49 4 b.toNat ∧ ((b.toNat : Nat) : Int) < fld h49 4 2 := zpv Ch46 Qh49 (A := 4) (by decide) (by decide +kernel) pv8_h46
                      have th49_5_2 : fld h49 5 2 = fld h46 5 2 := Qh49.f (a1 := 5) (a2 := 5) (j1 := 2) (j2 := 3) (by decide +kernel) ⟨by decide, by decide⟩ ⟨by decide, by decide⟩ ⟨by decide, by decide⟩
                      have Vh49 : zRq q h49 := Vh46.fr Ch46 Qh49 (by decide +kernel)
                      refine zwW_p [(1, 4, 2), (12, 0, 0)] (q := 145) (ls' := [(2, 1), (0, a), (0, b), (0, c), (2, v2), (2, v8), (0, v32), (0, 0)]) (st' := [(2, v2), (2, v2)]) (by decide +kernel) rfl ?_
                      refine zwX_gi Ch49 (kd := 4) (bn := 14) (n := 19) (nx := 148) (by decide +kernel) Gh49_0.2.1 Gh49_0.1 rfl ?_
                      intro v50 ev50 lv50 uv50
                      have sv50 : v50 = (yC h) 92 a.toNat := Eq.trans ev50 (Eq.trans (congrArg (fun q => fld h49 q 14) pv2_h49.1) (Eq.trans (Eq.symm (yC_f (h := h49) (a := 92) (A := 3) (j := 14) (i := a.toNat) rfl pv2_h49.2)) (Eq.trans (congrFun (congrFun Zh49 92) a.toNat) (Eq.trans (zs_na (by decide) : (zs (zs (zs (yC h) 84 (((yC h) 170 b.toNat).toNat) (w32 (((yC h) 84 (((yC h) 170 b.toNat).toNat)) - (max (yWask q (yC h) 1 a.toNat b.toNat c) 0)))) 84 a.toNat (w32 (((zs (yC h) 84 (((yC h) 170 b.toNat).toNat) (w32 (((yC h) 84 (((yC h) 170 b.toNat).toNat)) - (max (yWask q (yC h) 1 a.toNat b.toNat c) 0)))) 84 a.toNat) + (max (yWask q (yC h) 1 a.toNat b.toNat c) 0)))) 175 b.toNat (w32 (((yC h) 175 b.toNat) - c))) 92 a.toNat = (zs (zs (yC h) 84 (((yC h) 170 b.toNat).toNat) (w32 (((yC h) 84 (((yC h) 170 b.toNat).toNat)) - (max (yWask q (yC h) 1 a.toNat b.toNat c) 0)))) 84 a.toNat (w32 (((zs (yC h) 84 (((yC h) 170 b.toNat).toNat) (w32 (((yC h) 84 (((yC h) 170 b.toNat).toNat)) - (max (yWask q (yC h) 1 a.toNat b.toNat c) 0)))) 84 a.toNat) + (max (yWask q (yC h) 1 a.toNat b.toNat c) 0)))) 92 a.toNat) (Eq.trans (zs_na (by decide) : (zs (zs (yC h) 84 (((yC h) 170 b.toNat).toNat) (w32 (((yC h) 84 (((yC h) 170 b.toNat).toNat)) - (max (yWask q (yC h) 1 a.toNat b.toNat c) 0)))) 84 a.toNat (w32 (((zs (yC h) 84 (((yC h) 170 b.toNat).toNat) (w32 (((yC h) 84 (((yC h) 170 b.toNat).toNat)) - (max (yWask q (yC h) 1 a.toNat b.toNat c) 0)))) 84 a.toNat) + (max (yWask q (yC h) 1 a.toNat b.toNat c) 0)))) 92 a.toNat = (zs (yC h) 84 (((yC h) 170 b.toNat).toNat) (w32 (((yC h) 84 (((yC h) 170 b.toNat).toNat)) - (max (yWask q (yC h) 1 a.toNat b.toNat c) 0)))) 92 a.toNat) (Eq.trans (zs_na (by decide) : (zs (yC h) 84 (((yC h) 170 b.toNat).toNat) (w32 (((yC h) 84 (((yC h) 170 b.toNat).toNat)) - (max (yWask q (yC h) 1 a.toNat b.toNat c) 0)))) 92 a.toNat = (yC h) 92 a.toNat) rfl))))))
                      refine zwW_p [(1, 3, 0)] (q := 149) (ls' := [(2, 1), (0, a), (0, b), (0, c), (2, v2), (2, v8), (0, v32), (0, 0)]) (st' := [(0, c), (0, v50), (2, v2)]) (by decide +kernel) rfl ?_
                      refine zwW_adw (nx := 150) (by decide +kernel) ?_
                      intro v51 ev51 lv51 uv51
                      have Ev51 : v51 = w32 (((yC h) 92 a.toNat) + c) := by rw [ev51, sv50]
                      refine zwX_pi Ch49 (kd := 4) (bn := 14) (n := 19) (nx := 153) (by decide +kernel) Gh49_0.2.1 Gh49_0.1 ⟨by omega, by omega⟩ ?_
                      rintro h52 eh52 Ch52 Qh52
                      have Uh52 : yC h52 = (zs (zs (zs (zs (yC h) 84 (((yC h) 170 b.toNat).toNat) (w32 (((yC h) 84 (((yC h) 170 b.toNat).toNat)) - (max (yWask q (yC h) 1 a.toNat b.toNat c) 0)))) 84 a.toNat (w32 (((zs (yC h) 84 (((yC h) 170 b.toNat).toNat) (w32 (((yC h) 84 (((yC h) 170 b.toNat).toNat)) - (max (yWask q (yC h) 1 a.toNat b.toNat c) 0)))) 84 a.toNat) + (max (yWask q (yC h) 1 a.toNat b.toNat c) 0)))) 175 b.toNat (w32 (((yC h) 175 b.toNat) - c))) 92 a.toNat (w32 (((yC h) 92 a.toNat) + c))) := by rw [yC_w (a := 92) (A := 3) (j := 14) (k := a.toNat) Ch49 Jh49 rfl pv2_h49 eh52, Zh49, Ev51]
                      have Zh52 : yC h52 = (zs (zs (zs (zs (yC h) 84 (((yC h) 170 b.toNat).toNat) (w32 (((yC h) 84 (((yC h) 170 b.toNat).toNat)) - (max (yWask q (yC h) 1 a.toNat b.toNat c) 0)))) 84 a.toNat (w32 (((zs (yC h) 84 (((yC h) 170 b.toNat).toNat) (w32 (((yC h) 84 (((yC h) 170 b.toNat).toNat)) - (max (yWask q (yC h) 1 a.toNat b.toNat c) 0)))) 84 a.toNat) + (max (yWask q (yC h) 1 a.toNat b.toNat c) 0)))) 92 a.toNat (w32 (((yC h) 92 a.toNat) + c))) 175 b.toNat (w32 (((yC h) 175 b.toNat) - c))) := by rw [Uh52, zs_sw (a := 175) (b := 92) (by decide)]
                      have Xh52 : zXR msx41_z (0) (0) h h52 := Xh49.tr (c2 := 0) (s2 := 0) Qh52 (by decide +kernel) (by decide) (by decide)
                      have Gh52_0 : gH h52 v2 := Gh49_0.x Qh52
                      have Gh52_1 : gL h52 v8 := Gh49_1.x Qh52
                      have Jh52 : yR h52 := Jh49.fr Ch49 Qh52 (by decide +kernel)
                      have pv2_h52 : v2 = zv h52 3 a.toNat ∧ ((a.toNat : Nat) : Int) < fld h52 3 2 := zpv Ch49 Qh52 (A := 3) (by decide) (by decide +kernel) pv2_h49
                      have pv8_h52 : v8 = zv h52 4 b.toNat ∧ ((b.toNat : Nat) : Int) < fld h52 4 2 := zpv Ch49 Qh52 (A := 4) (by decide) (by decide +kernel) pv8_h49
                      have th52_5_2 : fld h52 5 2 = fld h49 5 2 := Qh52.f (a1 := 5) (a2 := 5) (j1 := 2) (j2 := 3) (by decide +kernel) ⟨by decide, by decide⟩ ⟨by decide, by decide⟩ ⟨by decide, by decide⟩
                      have Vh52 : zRq q h52 := Vh49.fr Ch49 Qh52 (by decide +kernel)
                      refine zwW_p [(1, 0, 2)] (q := 154) (ls' := [(2, 1), (0, a), (0, b), (0, c), (2, v2), (2, v8), (0, v32), (0, 0)]) (st' := [(2, 1)]) (by decide +kernel) rfl ?_
                      refine zwW_gc Ch52.1 (kd := 12) (bn := 11) (n := 13) (c := 34) (nx := 157) (by decide +kernel) ?_
                      refine zwW_p [(12, 0, 0)] (q := 158) (ls' := [(2, 1), (0, a), (0, b), (0, c), (2, v2), (2, v8), (0, v32), (0, 0)]) (st' := [(2, 34), (2, 34)]) (by decide +kernel) rfl ?_
                      refine zwW_gs Ch52.1 (kd := 5) (bn := 1) (n := 4) (t := 0) (lo := -2147483648) (hi := 2147483647) (nx := 161) (by decide +kernel) ?_
                      intro v53 ev53 lv53 uv53
                      have sv53 : v53 = (yC h) 37 70 := Eq.trans ev53 (Eq.trans (Eq.symm (yC_s (h := h52) (i := 70) rfl)) (Eq.trans (congrFun (congrFun Zh52 37) 70) (Eq.trans (zs_na (by decide) : (zs (zs (zs (zs (yC h) 84 (((yC h) 170 b.toNat).toNat) (w32 (((yC h) 84 (((yC h) 170 b.toNat).toNat)) - (max (yWask q (yC h) 1 a.toNat b.toNat c) 0)))) 84 a.toNat (w32 (((zs (yC h) 84 (((yC h) 170 b.toNat).toNat) (w32 (((yC h) 84 (((yC h) 170 b.toNat).toNat)) - (max (yWask q (yC h) 1 a.toNat b.toNat c) 0)))) 84 a.toNat) + (max (yWask q (yC h) 1 a.toNat b.toNat c) 0)))) 92 a.toNat (w32 (((yC h) 92 a.toNat) + c))) 175 b.toNat (w32 (((yC h) 175 b.toNat) - c))) 37 70 = (zs (zs (zs (yC h) 84 (((yC h) 170 b.toNat).toNat) (w32 (((yC h) 84 (((yC h) 170 b.toNat).toNat)) - (max (yWask q (yC h) 1 a.toNat b.toNat c) 0)))) 84 a.toNat (w32 (((zs (yC h) 84 (((yC h) 170 b.toNat).toNat) (w32 (((yC h) 84 (((yC h) 170 b.toNat).toNat)) - (max (yWask q (yC h) 1 a.toNat b.toNat c) 0)))) 84 a.toNat) + (max (yWask q (yC h) 1 a.toNat b.toNat c) 0)))) 92 a.toNat (w32 (((yC h) 92 a.toNat) + c))) 37 70) (Eq.trans (zs_na (by decide) : (zs (zs (zs (yC h) 84 (((yC h) 170 b.toNat).toNat) (w32 (((yC h) 84 (((yC h) 170 b.toNat).toNat)) - (max (yWask q (yC h) 1 a.toNat b.toNat c) 0)))) 84 a.toNat (w32 (((zs (yC h) 84 (((yC h) 170 b.toNat).toNat) (w32 (((yC h) 84 (((yC h) 170 b.toNat).toNat)) - (max (yWask q (yC h) 1 a.toNat b.toNat c) 0)))) 84 a.toNat) + (max (yWask q (yC h) 1 a.toNat b.toNat c) 0)))) 92 a.toNat (w32 (((yC h) 92 a.toNat) + c))) 37 70 = (zs (zs (yC h) 84 (((yC h) 170 b.toNat).toNat) (w32 (((yC h) 84 (((yC h) 170 b.toNat).toNat)) - (max (yWask q (yC h) 1 a.toNat b.toNat c) 0)))) 84 a.toNat (w32 (((zs (yC h) 84 (((yC h) 170 b.toNat).toNat) (w32 (((yC h) 84 (((yC h) 170 b.toNat).toNat)) - (max (yWask q (yC h) 1 a.toNat b.toNat c) 0)))) 84 a.toNat) + (max (yWask q (yC h) 1 a.toNat b.toNat c) 0)))) 37 70) (Eq.trans (zs_na (by decide) : (zs (zs (yC h) 84 (((yC h) 170 b.toNat).toNat) (w32 (((yC h) 84 (((yC h) 170 b.toNat).toNat)) - (max (yWask q (yC h) 1 a.toNat b.toNat c) 0)))) 84 a.toNat (w32 (((zs (yC h) 84 (((yC h) 170 b.toNat).toNat) (w32 (((yC h) 84 (((yC h) 170 b.toNat).toNat)) - (max (yWask q (yC h) 1 a.toNat b.toNat c) 0)))) 84 a.toNat) + (max (yWask q (yC h) 1 a.toNat b.toNat c) 0)))) 37 70 = (zs (yC h) 84 (((yC h) 170 b.toNat).toNat) (w32 (((yC h) 84 (((yC h) 170 b.toNat).toNat)) - (max (yWask q (yC h) 1 a.toNat b.toNat c) 0)))) 37 70) (Eq.trans (zs_na (by decide) : (zs (yC h) 84 (((yC h) 170 b.toNat).toNat) (w32 (((yC h) 84 (((yC h) 170 b.toNat).toNat)) - (max (yWask q (yC h) 1 a.toNat b.toNat c) 0)))) 37 70 = (yC h) 37 70) rfl))))))
                      refine zwW_p [(1, 3, 0)] (q := 162) (ls' := [(2, 1), (0, a), (0, b), (0, c), (2, v2), (2, v8), (0, v32), (0, 0)]) (st' := [(0, c), (0, v53), (2, 34)]) (by decide +kernel) rfl ?_
                      refine zwW_adw (nx := 163) (by decide +kernel) ?_
                      intro v54 ev54 lv54 uv54
                      have Ev54 : v54 = w32 (((yC h) 37 70) + c) := by rw [ev54, sv53]
                      refine zwW_ps Ch52.1 (kd := 5) (bn := 1) (n := 4) (lo := -2147483648) (hi := 2147483647) (nx := 166) (by decide +kernel) ⟨by omega, by omega⟩ ?_
                      intro h55 eh55 Ih55
                      have Ch55 : CI h55 := Ch52.wc eh55 Ih55 (by decide) (by decide)
                      have Qh55 : zXR [(34, 34, 1, 2)] 0 0 h52 h55 := zXR.wc eh55 rfl ⟨by decide, by decide, Or.inl (by decide)⟩ ⟨by decide, by decide⟩
                      have Zh55 : yC h55 = (zs (zs (zs (zs (zs (yC h) 84 (((yC h) 170 b.toNat).toNat) (w32 (((yC h) 84 (((yC h) 170 b.toNat).toNat)) - (max (yWask q (yC h) 1 a.toNat b.toNat c) 0)))) 84 a.toNat (w32 (((zs (yC h) 84 (((yC h) 170 b.toNat).toNat) (w32 (((yC h) 84 (((yC h) 170 b.toNat).toNat)) - (max (yWask q (yC h) 1 a.toNat b.toNat c) 0)))) 84 a.toNat) + (max (yWask q (yC h) 1 a.toNat b.toNat c) 0)))) 92 a.toNat (w32 (((yC h) 92 a.toNat) + c))) 175 b.toNat (w32 (((yC h) 175 b.toNat) - c))) 37 70 (w32 (((yC h) 37 70) + c))) := by rw [yC_ws (q := 70) (r := 34) (j := 1) (kd := 5) (n := 4) rfl (Ch52.1.s (a1 := 34) (a2 := 34) (by decide +kernel) (by decide) (by decide)) (by decide) Ch52 eh55, Zh52, Ev54]
                      have Xh55 : zXR msx41_z (0) (0) h h55 := Xh52.tr (c2 := 0) (s2 := 0) Qh55 (by decide +kernel) (by decide) (by decide)
                      have Gh55_0 : gH h55 v2 := Gh52_0.x Qh55
                      have Gh55_1 : gL h55 v8 := Gh52_1.x Qh55
                      have Jh55 : yR h55 := Jh52.fr Ch52 Qh55 (by decide +kernel)
                      have pv2_h55 : v2 = zv h55 3 a.toNat ∧ ((a.toNat : Nat) : Int) < fld h55 3 2 := zpv Ch52 Qh55 (A := 3) (by decide) (by decide +kernel) pv2_h52
                      have pv8_h55 : v8 = zv h55 4 b.toNat ∧ ((b.toNat : Nat) : Int) < fld h55 4 2 := zpv Ch52 Qh55 (A := 4) (by decide) (by decide +kernel) pv8_h52
                      have th55_5_2 : fld h55 5 2 = fld h52 5 2 := Qh55.f (a1 := 5) (a2 := 5) (j1 := 2) (j2 := 3) (by decide +kernel) ⟨by decide, by decide⟩ ⟨by decide, by decide⟩ ⟨by decide, by decide⟩
                      have Vh55 : zRq q h55 := Vh52.fr Ch52 Qh55 (by decide +kernel)
                      refine zwW_p [(1, 0, 2)] (q := 167) (ls' := [(2, 1), (0, a), (0, b), (0, c), (2, v2), (2, v8), (0, v32), (0, 0)]) (st' := [(2, 1)]) (by decide +kernel) rfl ?_
                      refine zwW_gc Ch55.1 (kd := 12) (bn := 5) (n := 13) (c := 5) (nx := 170) (by decide +kernel) ?_
                      refine zwW_new (kd := 1) (n := 6) (nx := 173) (by decide +kernel) rfl rfl ?_
                      rintro h56 r57 eh56 er57
                      have Oh56 : zOld h55 h56 := by rw [eh56]; exact zOld.app _
                      have Yh56 : zDy h56 := by rw [eh56]; exact Ch55.2.1.app (fun x hx => by rw [List.eq_of_mem_replicate hx]; decide)
                      have Ch56 : CI h56 := Ch55.old Oh56 Yh56
                      have Xh56 := Oh56.X Ch55
                      have th56_5_2 : fld h56 5 2 = fld h55 5 2 := Xh56.f (a1 := 5) (a2 := 5) (j1 := 2) (j2 := 3) (by decide +kernel) ⟨by decide, by decide⟩ ⟨by decide, by decide⟩ ⟨by decide, by decide⟩
                      have Gh56_0 : gH h56 v2 := Gh55_0.x Xh56
                      have Gh56_1 : gL h56 v8 := Gh55_1.x Xh56
                      have Zh56 : yC h56 = (zs (zs (zs (zs (zs (yC h) 84 (((yC h) 170 b.toNat).toNat) (w32 (((yC h) 84 (((yC h) 170 b.toNat).toNat)) - (max (yWask q (yC h) 1 a.toNat b.toNat c) 0)))) 84 a.toNat (w32 (((zs (yC h) 84 (((yC h) 170 b.toNat).toNat) (w32 (((yC h) 84 (((yC h) 170 b.toNat).toNat)) - (max (yWask q (yC h) 1 a.toNat b.toNat c) 0)))) 84 a.toNat) + (max (yWask q (yC h) 1 a.toNat b.toNat c) 0)))) 92 a.toNat (w32 (((yC h) 92 a.toNat) + c))) 175 b.toNat (w32 (((yC h) 175 b.toNat) - c))) 37 70 (w32 (((yC h) 37 70) + c))) := (yC_fr Ch55 Xh56 (by decide +kernel) (Ch55.1.b (a1 := 37) (a2 := 37) (j1 := 86) (j2 := 87) (lo := 0) (hi := 6) (by decide +kernel) (r := 37) (j := 86) (by decide) (by decide) (by decide) (by decide)).2).trans Zh55
                      refine zwW_p [(12, 0, 0), (1, 5, 2), (1, 4, 2), (1, 0, 2)] (q := 179) (ls' := [(2, 1), (0, a), (0, b), (0, c), (2, v2), (2, v8), (0, v32), (0, 0)]) (st' := [(2, 1), (2, v2), (2, v8), (2, r57), (2, r57), (2, 5)]) (by decide +kernel) rfl ?_
                      refine zwW_gs Ch56.1 (kd := 12) (bn := 0) (n := 13) (t := 0) (lo := 0) (hi := 156) (nx := 182) (by decide +kernel) ?_
                      intro v58 ev58 lv58 uv58
                      have sv58 : v58 = (yC h) 37 0 := Eq.trans ev58 (Eq.trans (Eq.symm (yC_s (h := h56) (i := 0) rfl)) (Eq.trans (congrFun (congrFun Zh56 37) 0) (Eq.trans (zs_ni (by decide) : (zs (zs (zs (zs (zs (yC h) 84 (((yC h) 170 b.toNat).toNat) (w32 (((yC h) 84 (((yC h) 170 b.toNat).toNat)) - (max (yWask q (yC h) 1 a.toNat b.toNat c) 0)))) 84 a.toNat (w32 (((zs (yC h) 84 (((yC h) 170 b.toNat).toNat) (w32 (((yC h) 84 (((yC h) 170 b.toNat).toNat)) - (max (yWask q (yC h) 1 a.toNat b.toNat c) 0)))) 84 a.toNat) + (max (yWask q (yC h) 1 a.toNat b.toNat c) 0)))) 92 a.toNat (w32 (((yC h) 92 a.toNat) + c))) 175 b.toNat (w32 (((yC h) 175 b.toNat) - c))) 37 70 (w32 (((yC h) 37 70) + c))) 37 0 = (zs (zs (zs (zs (yC h) 84 (((yC h) 170 b.toNat).toNat) (w32 (((yC h) 84 (((yC h) 170 b.toNat).toNat)) - (max (yWask q (yC h) 1 a.toNat b.toNat c) 0)))) 84 a.toNat (w32 (((zs (yC h) 84 (((yC h) 170 b.toNat).toNat) (w32 (((yC h) 84 (((yC h) 170 b.toNat).toNat)) - (max (yWask q (yC h) 1 a.toNat b.toNat c) 0)))) 84 a.toNat) + (max (yWask q (yC h) 1 a.toNat b.toNat c) 0)))) 92 a.toNat (w32 (((yC h) 92 a.toNat) + c))) 175 b.toNat (w32 (((yC h) 175 b.toNat) - c))) 37 0) (Eq.trans (zs_na (by decide) : (zs (zs (zs (zs (yC h) 84 (((yC h) 170 b.toNat).toNat) (w32 (((yC h) 84 (((yC h) 170 b.toNat).toNat)) - (max (yWask q (yC h) 1 a.toNat b.toNat c) 0)))) 84 a.toNat (w32 (((zs (yC h) 84 (((yC h) 170 b.toNat).toNat) (w32 (((yC h) 84 (((yC h) 170 b.toNat).toNat)) - (max (yWask q (yC h) 1 a.toNat b.toNat c) 0)))) 84 a.toNat) + (max (yWask q (yC h) 1 a.toNat b.toNat c) 0)))) 92 a.toNat (w32 (((yC h) 92 a.toNat) + c))) 175 b.toNat (w32 (((yC h) 175 b.toNat) - c))) 37 0 = (zs (zs (zs (yC h) 84 (((yC h) 170 b.toNat).toNat) (w32 (((yC h) 84 (((yC h) 170 b.toNat).toNat)) - (max (yWask q (yC h) 1 a.toNat b.toNat c) 0)))) 84 a.toNat (w32 (((zs (yC h) 84 (((yC h) 170 b.toNat).toNat) (w32 (((yC h) 84 (((yC h) 170 b.toNat).toNat)) - (max (yWask q (yC h) 1 a.toNat b.toNat c) 0)))) 84 a.toNat) + (max (yWask q (yC h) 1 a.toNat b.toNat c) 0)))) 92 a.toNat (w32 (((yC h) 92 a.toNat) + c))) 37 0) (Eq.trans (zs_na (by decide) : (zs (zs (zs (yC h) 84 (((yC h) 170 b.toNat).toNat) (w32 (((yC h) 84 (((yC h) 170 b.toNat).toNat)) - (max (yWask q (yC h) 1 a.toNat b.toNat c) 0)))) 84 a.toNat (w32 (((zs (yC h) 84 (((yC h) 170 b.toNat).toNat) (w32 (((yC h) 84 (((yC h) 170 b.toNat).toNat)) - (max (yWask q (yC h) 1 a.toNat b.toNat c) 0)))) 84 a.toNat) + (max (yWask q (yC h) 1 a.toNat b.toNat c) 0)))) 92 a.toNat (w32 (((yC h) 92 a.toNat) + c))) 37 0 = (zs (zs (yC h) 84 (((yC h) 170 b.toNat).toNat) (w32 (((yC h) 84 (((yC h) 170 b.toNat).toNat)) - (max (yWask q (yC h) 1 a.toNat b.toNat c) 0)))) 84 a.toNat (w32 (((zs (yC h) 84 (((yC h) 170 b.toNat).toNat) (w32 (((yC h) 84 (((yC h) 170 b.toNat).toNat)) - (max (yWask q (yC h) 1 a.toNat b.toNat c) 0)))) 84 a.toNat) + (max (yWask q (yC h) 1 a.toNat b.toNat c) 0)))) 37 0) (Eq.trans (zs_na (by decide) : (zs (zs (yC h) 84 (((yC h) 170 b.toNat).toNat) (w32 (((yC h) 84 (((yC h) 170 b.toNat).toNat)) - (max (yWask q (yC h) 1 a.toNat b.toNat c) 0)))) 84 a.toNat (w32 (((zs (yC h) 84 (((yC h) 170 b.toNat).toNat) (w32 (((yC h) 84 (((yC h) 170 b.toNat).toNat)) - (max (yWask q (yC h) 1 a.toNat b.toNat c) 0)))) 84 a.toNat) + (max (yWask q (yC h) 1 a.toNat b.toNat c) 0)))) 37 0 = (zs (yC h) 84 (((yC h) 170 b.toNat).toNat) (w32 (((yC h) 84 (((yC h) 170 b.toNat).toNat)) - (max (yWask q (yC h) 1 a.toNat b.toNat c) 0)))) 37 0) (Eq.trans (zs_na (by decide) : (zs (yC h) 84 (((yC h) 170 b.toNat).toNat) (w32 (((yC h) 84 (((yC h) 170 b.toNat).toNat)) - (max (yWask q (yC h) 1 a.toNat b.toNat c) 0)))) 37 0 = (yC h) 37 0) rfl)))))))
                      refine zwW_p [(1, 3, 0), (0, 2, 0)] (q := 184) (ls' := [(2, 1), (0, a), (0, b), (0, c), (2, v2), (2, v8), (0, v32), (0, 0)]) (st' := [(0, 2), (0, c), (0, v58), (2, v2), (2, v8), (2, r57), (2, r57), (2, 5)]) (by decide +kernel) rfl ?_
                      refine zwW_div (nx := 185) (by decide +kernel) (by omega) (by omega) (by omega) ?_
                      refine zwW_p [(1, 7, 0)] (q := 187) (ls' := [(2, 1), (0, a), (0, b), (0, c), (2, v2), (2, v8), (0, v32), (0, 0)]) (st' := [(0, 0), (0, (c / 2)), (0, v58), (2, v2), (2, v8), (2, r57), (2, r57), (2, 5)]) (by decide +kernel) rfl ?_
                      subst er57 eh56
                      refine zwW_cvv (op := 62) (k' := 135) (n := 5) (kd := 1) (m := 6) (nx := 190) (r := ((h55.length + 1 : Nat) : Int)) (tl := [(2, v8), (2, v2), (0, v58), (0, (c / 2)), (0, 0)]) (st' := [(2, ((h55.length + 1 : Nat) : Int)), (2, 5)]) (by decide +kernel) rfl (by decide +kernel) (sh_new _ _) (x135 h55 Ch55 v8 v2 v58 (c / 2) 0 (by omega) (by omega) Gh55_1 Gh55_0 (by omega)) rfl ?_
                      rintro h59 ⟨Ch59, Qh59, Nh59, Fh59_0⟩
                      obtain ⟨nr57, err57⟩ : ∃ z, z = ((h55.length + 1 : Nat) : Int) := ⟨_, rfl⟩
                      rw [← err57] at Nh59 ⊢
                      try rw [← err57] at Fh59_0
                      have Xh59 : zXR msx41_z (1) (6) h h59 := Xh55.tr (c2 := 1) (s2 := 6) Qh59 (by decide +kernel) (by decide) (by decide)
                      have Gh59_0 : gH h59 v2 := Gh55_0.x Qh59
                      have Gh59_1 : gL h59 v8 := Gh55_1.x Qh59
                      have Zh59 : yC h59 = (zs (zs (zs (zs (zs (yC h) 84 (((yC h) 170 b.toNat).toNat) (w32 (((yC h) 84 (((yC h) 170 b.toNat).toNat)) - (max (yWask q (yC h) 1 a.toNat b.toNat c) 0)))) 84 a.toNat (w32 (((zs (yC h) 84 (((yC h) 170 b.toNat).toNat) (w32 (((yC h) 84 (((yC h) 170 b.toNat).toNat)) - (max (yWask q (yC h) 1 a.toNat b.toNat c) 0)))) 84 a.toNat) + (max (yWask q (yC h) 1 a.toNat b.toNat c) 0)))) 92 a.toNat (w32 (((yC h) 92 a.toNat) + c))) 175 b.toNat (w32 (((yC h) 175 b.toNat) - c))) 37 70 (w32 (((yC h) 37 70) + c))) := (yC_fr Ch55 Qh59 (by decide +kernel) (Ch55.1.b (a1 := 37) (a2 := 37) (j1 := 86) (j2 := 87) (lo := 0) (hi := 6) (by decide +kernel) (r := 37) (j := 86) (by decide) (by decide) (by decide) (by decide)).2).trans Zh55
                      have Jh59 : yR h59 := Jh55.fr Ch55 Qh59 (by decide +kernel)
                      have pv2_h59 : v2 = zv h59 3 a.toNat ∧ ((a.toNat : Nat) : Int) < fld h59 3 2 := zpv Ch55 Qh59 (A := 3) (by decide) (by decide +kernel) pv2_h55
                      have pv8_h59 : v8 = zv h59 4 b.toNat ∧ ((b.toNat : Nat) : Int) < fld h59 4 2 := zpv Ch55 Qh59 (A := 4) (by decide) (by decide +kernel) pv8_h55
                      have th59_5_2 : fld h59 5 2 = fld h55 5 2 := Qh59.f (a1 := 5) (a2 := 5) (j1 := 2) (j2 := 3) (by decide +kernel) ⟨by decide, by decide⟩ ⟨by decide, by decide⟩ ⟨by decide, by decide⟩
                      have Vh59 : zRq q h59 := Vh55.fr Ch55 Qh59 (by decide +kernel)
                      have lnr57 := Nh59.1
                      refine zwW_cm Ch59.1 (op := 60) (k' := 100) (n := 1) (kd := 0) (m := 3) (nx := 193) (r := 5) (tl := [(2, nr57)]) (st' := []) (by decide +kernel) rfl (by decide +kernel) rfl (x100_5 Ch59 Nh59 (by omega) (by have := Xh59.hl C Ch59 (by decide) hl; omega)) ?_
                      rintro x h61 ⟨rfl, Ah61⟩
                      have Ch61 := Ah61.1
                      have Qh61 : zXR [(5, 5, 0, 3)] (1) (1000) h59 h61 := Ah61.2.1
                      have zh61 : fld h61 5 2 = fld h59 5 2 + 1 := Ah61.2.2.1
                      have YLh61 := yC_clo (n := (yC h 37 78).toNat) Ch59 Jh59 Ah61 Nh59 Fh59_0 (by omega) pv8_h59.1 pv8_h59.2 pv2_h59.1 pv2_h59.2
                      have JLh61 := yR_clo (n := (yC h 37 78).toNat) Ch59 Jh59 Ah61 Nh59 Fh59_0 (by omega) pv8_h59.1 pv8_h59.2 pv2_h59.1 pv2_h59.2 (zfresh Ch55 Qh59 (by decide) (by decide +kernel) err57)
                      have VLh61 : yC h61 = (zs (zs (zs (zs (zs (zs (zs (zs (zs (zs (zs (zs (yC h) 84 (((yC h) 170 b.toNat).toNat) (w32 (((yC h) 84 (((yC h) 170 b.toNat).toNat)) - (max (yWask q (yC h) 1 a.toNat b.toNat c) 0)))) 84 a.toNat (w32 (((zs (yC h) 84 (((yC h) 170 b.toNat).toNat) (w32 (((yC h) 84 (((yC h) 170 b.toNat).toNat)) - (max (yWask q (yC h) 1 a.toNat b.toNat c) 0)))) 84 a.toNat) + (max (yWask q (yC h) 1 a.toNat b.toNat c) 0)))) 92 a.toNat (w32 (((yC h) 92 a.toNat) + c))) 175 b.toNat (w32 (((yC h) 175 b.toNat) - c))) 37 70 (w32 (((yC h) 37 70) + c))) 180 ((yC h 37 78).toNat) ((b.toNat : Nat) : Int)) 181 ((yC h 37 78).toNat) ((a.toNat : Nat) : Int)) 182 ((yC h 37 78).toNat) v58) 183 ((yC h 37 78).toNat) (c / 2)) 184 ((yC h 37 78).toNat) (-1)) 185 ((yC h 37 78).toNat) 0) 37 78 ((((yC h 37 78).toNat : Nat) : Int) + 1)) := by rw [YLh61, Zh59]
                      have Zh61 : yC h61 = (zs (zs (zs (zs (zs (zs (zs (zs (zs (zs (zs (zs (yC h) 84 (((yC h) 170 b.toNat).toNat) (w32 (((yC h) 84 (((yC h) 170 b.toNat).toNat)) - (max (yWask q (yC h) 1 a.toNat b.toNat c) 0)))) 84 a.toNat (w32 (((zs (yC h) 84 (((yC h) 170 b.toNat).toNat) (w32 (((yC h) 84 (((yC h) 170 b.toNat).toNat)) - (max (yWask q (yC h) 1 a.toNat b.toNat c) 0)))) 84 a.toNat) + (max (yWask q (yC h) 1 a.toNat b.toNat c) 0)))) 92 a.toNat (w32 (((yC h) 92 a.toNat) + c))) 175 b.toNat (w32 (((yC h) 175 b.toNat) - c))) 180 ((yC h 37 78).toNat) ((b.toNat : Nat) : Int)) 181 ((yC h 37 78).toNat) ((a.toNat : Nat) : Int)) 182 ((yC h 37 78).toNat) v58) 183 ((yC h 37 78).toNat) (c / 2)) 184 ((yC h 37 78).toNat) (-1)) 185 ((yC h 37 78).toNat) 0) 37 70 (w32 (((yC h) 37 70) + c))) 37 78 ((((yC h 37 78).toNat : Nat) : Int) + 1)) := by rw [VLh61, zs_sw (a := 37) (b := 180) (by decide), zs_sw (a := 37) (b := 181) (by decide), zs_sw (a := 37) (b := 182) (by decide), zs_sw (a := 37) (b := 183) (by decide), zs_sw (a := 37) (b := 184) (by decide), zs_sw (a := 37) (b := 185) (by decide)]
                      have Xh61 : zXR msx41_z (2) (1006) h h61 := Xh59.tr (c2 := 2) (s2 := 1006) Qh61 (by decide +kernel) (by decide) (by decide)
                      have Gh61_0 : gH h61 v2 := Gh59_0.x Qh61
                      have Gh61_1 : gL h61 v8 := Gh59_1.x Qh61
                      have pv2_h61 : v2 = zv h61 3 a.toNat ∧ ((a.toNat : Nat) : Int) < fld h61 3 2 := zpv Ch59 Qh61 (A := 3) (by decide) (by decide +kernel) pv2_h59
                      have pv8_h61 : v8 = zv h61 4 b.toNat ∧ ((b.toNat : Nat) : Int) < fld h61 4 2 := zpv Ch59 Qh61 (A := 4) (by decide) (by decide +kernel) pv8_h59
                      have Vh61 : zRq q h61 := Vh59.fr Ch59 Qh61 (by decide +kernel)
                      refine zwW_p [(15, 0, 0), (1, 0, 2)] (q := 195) (ls' := [(2, 1), (0, a), (0, b), (0, c), (2, v2), (2, v8), (0, v32), (0, 0)]) (st' := [(2, 1)]) (by decide +kernel) rfl ?_
                      refine zwW_gc Ch61.1 (kd := 12) (bn := 5) (n := 13) (c := 5) (nx := 198) (by decide +kernel) ?_
                      refine zwW_cm Ch61.1 (op := 60) (k' := 96) (n := 0) (kd := 0) (m := 3) (nx := 201) (r := 5) (tl := []) (st' := []) (by decide +kernel) rfl (by decide +kernel) rfl (x96_5 Ch61) ?_
                      rintro v62 _ ⟨rfl, ev62⟩
                      have bv62 := zLb_5 Ch61
                      have sv62 : v62 = ((((yC h 37 78).toNat : Nat) : Int) + 1) := Eq.trans ev62 (Eq.trans (Eq.symm (yC_s (h := h61) (i := 78) rfl)) (Eq.trans (congrFun (congrFun Zh61 37) 78) (zs_eq : (zs (zs (zs (zs (zs (zs (zs (zs (zs (zs (zs (zs (yC h) 84 (((yC h) 170 b.toNat).toNat) (w32 (((yC h) 84 (((yC h) 170 b.toNat).toNat)) - (max (yWask q (yC h) 1 a.toNat b.toNat c) 0)))) 84 a.toNat (w32 (((zs (yC h) 84 (((yC h) 170 b.toNat).toNat) (w32 (((yC h) 84 (((yC h) 170 b.toNat).toNat)) - (max (yWask q (yC h) 1 a.toNat b.toNat c) 0)))) 84 a.toNat) + (max (yWask q (yC h) 1 a.toNat b.toNat c) 0)))) 92 a.toNat (w32 (((yC h) 92 a.toNat) + c))) 175 b.toNat (w32 (((yC h) 175 b.toNat) - c))) 180 ((yC h 37 78).toNat) ((b.toNat : Nat) : Int)) 181 ((yC h 37 78).toNat) ((a.toNat : Nat) : Int)) 182 ((yC h 37 78).toNat) v58) 183 ((yC h 37 78).toNat) (c / 2)) 184 ((yC h 37 78).toNat) (-1)) 185 ((yC h 37 78).toNat) 0) 37 70 (w32 (((yC h) 37 70) + c))) 37 78 ((((yC h 37 78).toNat : Nat) : Int) + 1)) 37 78 = ((((yC h 37 78).toNat : Nat) : Int) + 1))))
                      refine zwW_p [(0, 1, 0)] (q := 202) (ls' := [(2, 1), (0, a), (0, b), (0, c), (2, v2), (2, v8), (0, v32), (0, 0)]) (st' := [(0, 1), (0, v62)]) (by decide +kernel) rfl ?_
                      refine zwW_sub (nx := 203) (by decide +kernel) ⟨by omega, by omega⟩ ?_
                      refine zwW_ret (nx := 204) (a := 0) (b := 0) (by decide +kernel) rfl (Or.inl rfl) ?_
                      exact ⟨Ch61, Xh61.le (by decide) (by decide), by omega, by unfold yWvA; (repeat' (first | rw [if_pos (by omega)] | rw [if_neg (by omega)])); all_goals (first | rfl | omega), by refine Eq.trans Zh61 ?_; unfold yWvF yWvS; (repeat' (first | rw [if_pos (by omega)] | rw [if_neg (by omega)])); all_goals (repeat' (first | rfl | omega | apply zs_cg)), by exact JLh61⟩
                    · refine zwW_p [(0, 1, 0), (24, 102, 0), (2, 7, 0), (1, 5, 2), (12, 0, 0)] (q := 107) (ls' := [(2, 1), (0, a), (0, b), (0, c), (2, v2), (2, v8), (0, v32), (0, 1)]) (st' := [(2, v8), (2, v8)]) (by decide +kernel) rfl ?_
                      refine zwX_gi Ch38 (kd := 6) (bn := 6) (n := 7) (nx := 110) (by decide +kernel) Gh38_1.2.1 Gh38_1.1 rfl ?_
                      intro v63 ev63 lv63 uv63
                      have sv63 : v63 = (yC h) 175 b.toNat := Eq.trans ev63 (Eq.trans (congrArg (fun q => fld h38 q 6) pv8_h38.1) (Eq.trans (Eq.symm (yC_f (h := h38) (a := 175) (A := 4) (j := 6) (i := b.toNat) rfl pv8_h38.2)) (Eq.trans (congrFun (congrFun Zh38 175) b.toNat) rfl)))
                      refine zwW_p [(1, 3, 0)] (q := 111) (ls' := [(2, 1), (0, a), (0, b), (0, c), (2, v2), (2, v8), (0, v32), (0, 1)]) (st' := [(0, c), (0, v63), (2, v8)]) (by decide +kernel) rfl ?_
                      refine zwW_sbw (nx := 112) (by decide +kernel) ?_
                      intro v64 ev64 lv64 uv64
                      have Ev64 : v64 = w32 (((yC h) 175 b.toNat) - c) := by rw [ev64, sv63]
                      refine zwX_pi Ch38 (kd := 6) (bn := 6) (n := 7) (nx := 115) (by decide +kernel) Gh38_1.2.1 Gh38_1.1 ⟨by omega, by omega⟩ ?_
                      rintro h65 eh65 Ch65 Qh65
                      have Zh65 : yC h65 = (zs (yC h) 175 b.toNat (w32 (((yC h) 175 b.toNat) - c))) := by rw [yC_w (a := 175) (A := 4) (j := 6) (k := b.toNat) Ch38 f36 rfl pv8_h38 eh65, Zh38, Ev64]
                      have Xh65 : zXR msx41_z (0) (0) h h65 := Xh38.tr (c2 := 0) (s2 := 0) Qh65 (by decide +kernel) (by decide) (by decide)
                      have Gh65_0 : gH h65 v2 := Gh38_0.x Qh65
                      have Gh65_1 : gL h65 v8 := Gh38_1.x Qh65
                      have Jh65 : yR h65 := f36.fr Ch38 Qh65 (by decide +kernel)
                      have pv2_h65 : v2 = zv h65 3 a.toNat ∧ ((a.toNat : Nat) : Int) < fld h65 3 2 := zpv Ch38 Qh65 (A := 3) (by decide) (by decide +kernel) pv2_h38
                      have pv8_h65 : v8 = zv h65 4 b.toNat ∧ ((b.toNat : Nat) : Int) < fld h65 4 2 := zpv Ch38 Qh65 (A := 4) (by decide) (by decide +kernel) pv8_h38
                      have th65_5_2 : fld h65 5 2 = fld h38 5 2 := Qh65.f (a1 := 5) (a2 := 5) (j1 := 2) (j2 := 3) (by decide +kernel) ⟨by decide, by decide⟩ ⟨by decide, by decide⟩ ⟨by decide, by decide⟩
                      have Vh65 : zRq q h65 := Vh38.fr Ch38 Qh65 (by decide +kernel)
                      refine zwW_p [(1, 5, 2)] (q := 117) (ls' := [(2, 1), (0, a), (0, b), (0, c), (2, v2), (2, v8), (0, v32), (0, 1)]) (st' := [(2, v8)]) (by decide +kernel) rfl ?_
                      refine zwW_get (kd := 6) (bn := 1) (t := 2) (n := 7) (nx := 120) (by decide +kernel) Gh65_1.2.1 rfl ?_
                      obtain ⟨v66, ev66⟩ : ∃ z, z = fld h65 v8 1 := ⟨_, rfl⟩
                      rw [← ev66]
                      have Gv66 : gH h65 v66 := by rw [ev66]; exact Gh65_1.2.2
                      have lv66 := Gv66.1
                      have qv66 : yC h65 170 b.toNat = (yC h) 170 b.toNat := Eq.trans (congrFun (congrFun Zh65 170) b.toNat) (Eq.trans (zs_na (by decide) : (zs (yC h) 175 b.toNat (w32 (((yC h) 175 b.toNat) - c))) 170 b.toNat = (yC h) 170 b.toNat) rfl)
                      have wv66 := Jh65.r (a := 170) (A := 4) (j := 1) (B := 3) (i := b.toNat) rfl pv8_h65.2
                      rw [qv66] at wv66
                      have pv66 : v66 = zv h65 3 (((yC h) 170 b.toNat).toNat) ∧ ((((yC h) 170 b.toNat).toNat : Nat) : Int) < fld h65 3 2 := ⟨by rw [ev66, pv8_h65.1]; exact wv66.2.2, wv66.2.1⟩
                      refine zwW_p [(12, 0, 0)] (q := 121) (ls' := [(2, 1), (0, a), (0, b), (0, c), (2, v2), (2, v8), (0, v32), (0, 1)]) (st' := [(2, v66), (2, v66)]) (by decide +kernel) rfl ?_
                      refine zwX_gi Ch65 (kd := 4) (bn := 6) (n := 19) (nx := 124) (by decide +kernel) Gv66.2.1 Gv66.1 rfl ?_
                      intro v67 ev67 lv67 uv67
                      have sv67 : v67 = (yC h) 84 (((yC h) 170 b.toNat).toNat) := Eq.trans ev67 (Eq.trans (congrArg (fun q => fld h65 q 6) pv66.1) (Eq.trans (Eq.symm (yC_f (h := h65) (a := 84) (A := 3) (j := 6) (i := ((yC h) 170 b.toNat).toNat) rfl pv66.2)) (Eq.trans (congrFun (congrFun Zh65 84) (((yC h) 170 b.toNat).toNat)) (Eq.trans (zs_na (by decide) : (zs (yC h) 175 b.toNat (w32 (((yC h) 175 b.toNat) - c))) 84 (((yC h) 170 b.toNat).toNat) = (yC h) 84 (((yC h) 170 b.toNat).toNat)) rfl))))
                      refine zwW_p [(1, 6, 0)] (q := 126) (ls' := [(2, 1), (0, a), (0, b), (0, c), (2, v2), (2, v8), (0, v32), (0, 1)]) (st' := [(0, v32), (0, v67), (2, v66)]) (by decide +kernel) rfl ?_
                      refine zwW_sbw (nx := 127) (by decide +kernel) ?_
                      intro v68 ev68 lv68 uv68
                      have Ev68 : v68 = w32 (((yC h) 84 (((yC h) 170 b.toNat).toNat)) - (max (yWask q (yC h) 1 a.toNat b.toNat c) 0)) := by rw [ev68, sv67, Ev32]
                      refine zwX_pi Ch65 (kd := 4) (bn := 6) (n := 19) (nx := 130) (by decide +kernel) Gv66.2.1 Gv66.1 ⟨by omega, by omega⟩ ?_
                      rintro h69 eh69 Ch69 Qh69
                      have Uh69 : yC h69 = (zs (zs (yC h) 175 b.toNat (w32 (((yC h) 175 b.toNat) - c))) 84 (((yC h) 170 b.toNat).toNat) (w32 (((yC h) 84 (((yC h) 170 b.toNat).toNat)) - (max (yWask q (yC h) 1 a.toNat b.toNat c) 0)))) := by rw [yC_w (a := 84) (A := 3) (j := 6) (k := ((yC h) 170 b.toNat).toNat) Ch65 Jh65 rfl pv66 eh69, Zh65, Ev68]
                      have Zh69 : yC h69 = (zs (zs (yC h) 84 (((yC h) 170 b.toNat).toNat) (w32 (((yC h) 84 (((yC h) 170 b.toNat).toNat)) - (max (yWask q (yC h) 1 a.toNat b.toNat c) 0)))) 175 b.toNat (w32 (((yC h) 175 b.toNat) - c))) := by rw [Uh69, zs_sw (a := 175) (b := 84) (by decide)]
                      have Xh69 : zXR msx41_z (0) (0) h h69 := Xh65.tr (c2 := 0) (s2 := 0) Qh69 (by decide +kernel) (by decide) (by decide)
                      have Gh69_0 : gH h69 v2 := Gh65_0.x Qh69
                      have Gh69_1 : gL h69 v8 := Gh65_1.x Qh69
                      have Jh69 : yR h69 := Jh65.fr Ch65 Qh69 (by decide +kernel)
                      have pv2_h69 : v2 = zv h69 3 a.toNat ∧ ((a.toNat : Nat) : Int) < fld h69 3 2 := zpv Ch65 Qh69 (A := 3) (by decide) (by decide +kernel) pv2_h65
                      have pv8_h69 : v8 = zv h69 4 b.toNat ∧ ((b.toNat : Nat) : Int) < fld h69 4 2 := zpv Ch65 Qh69 (A := 4) (by decide) (by decide +kernel) pv8_h65
                      have th69_5_2 : fld h69 5 2 = fld h65 5 2 := Qh69.f (a1 := 5) (a2 := 5) (j1 := 2) (j2 := 3) (by decide +kernel) ⟨by decide, by decide⟩ ⟨by decide, by decide⟩ ⟨by decide, by decide⟩
                      have Vh69 : zRq q h69 := Vh65.fr Ch65 Qh69 (by decide +kernel)
                      refine zwW_p [(1, 4, 2), (12, 0, 0)] (q := 133) (ls' := [(2, 1), (0, a), (0, b), (0, c), (2, v2), (2, v8), (0, v32), (0, 1)]) (st' := [(2, v2), (2, v2)]) (by decide +kernel) rfl ?_
                      refine zwX_gi Ch69 (kd := 4) (bn := 6) (n := 19) (nx := 136) (by decide +kernel) Gh69_0.2.1 Gh69_0.1 rfl ?_
                      intro v70 ev70 lv70 uv70
                      have sv70 : v70 = (zs (yC h) 84 (((yC h) 170 b.toNat).toNat) (w32 (((yC h) 84 (((yC h) 170 b.toNat).toNat)) - (max (yWask q (yC h) 1 a.toNat b.toNat c) 0)))) 84 a.toNat := Eq.trans ev70 (Eq.trans (congrArg (fun q => fld h69 q 6) pv2_h69.1) (Eq.trans (Eq.symm (yC_f (h := h69) (a := 84) (A := 3) (j := 6) (i := a.toNat) rfl pv2_h69.2)) (Eq.trans (congrFun (congrFun Zh69 84) a.toNat) (Eq.trans (zs_na (by decide) : (zs (zs (yC h) 84 (((yC h) 170 b.toNat).toNat) (w32 (((yC h) 84 (((yC h) 170 b.toNat).toNat)) - (max (yWask q (yC h) 1 a.toNat b.toNat c) 0)))) 175 b.toNat (w32 (((yC h) 175 b.toNat) - c))) 84 a.toNat = (zs (yC h) 84 (((yC h) 170 b.toNat).toNat) (w32 (((yC h) 84 (((yC h) 170 b.toNat).toNat)) - (max (yWask q (yC h) 1 a.toNat b.toNat c) 0)))) 84 a.toNat) rfl))))
                      refine zwW_p [(1, 6, 0)] (q := 138) (ls' := [(2, 1), (0, a), (0, b), (0, c), (2, v2), (2, v8), (0, v32), (0, 1)]) (st' := [(0, v32), (0, v70), (2, v2)]) (by decide +kernel) rfl ?_
                      refine zwW_adw (nx := 139) (by decide +kernel) ?_
                      intro v71 ev71 lv71 uv71
                      have Ev71 : v71 = w32 (((zs (yC h) 84 (((yC h) 170 b.toNat).toNat) (w32 (((yC h) 84 (((yC h) 170 b.toNat).toNat)) - (max (yWask q (yC h) 1 a.toNat b.toNat c) 0)))) 84 a.toNat) + (max (yWask q (yC h) 1 a.toNat b.toNat c) 0)) := by rw [ev71, sv70, Ev32]
                      refine zwX_pi Ch69 (kd := 4) (bn := 6) (n := 19) (nx := 142) (by decide +kernel) Gh69_0.2.1 Gh69_0.1 ⟨by omega, by omega⟩ ?_
                      rintro h72 eh72 Ch72 Qh72
                      have Uh72 : yC h72 = (zs (zs (zs (yC h) 84 (((yC h) 170 b.toNat).toNat) (w32 (((yC h) 84 (((yC h) 170 b.toNat).toNat)) - (max (yWask q (yC h) 1 a.toNat b.toNat c) 0)))) 175 b.toNat (w32 (((yC h) 175 b.toNat) - c))) 84 a.toNat (w32 (((zs (yC h) 84 (((yC h) 170 b.toNat).toNat) (w32 (((yC h) 84 (((yC h) 170 b.toNat).toNat)) - (max (yWask q (yC h) 1 a.toNat b.toNat c) 0)))) 84 a.toNat) + (max (yWask q (yC h) 1 a.toNat b.toNat c) 0)))) := by rw [yC_w (a := 84) (A := 3) (j := 6) (k := a.toNat) Ch69 Jh69 rfl pv2_h69 eh72, Zh69, Ev71]
                      have Zh72 : yC h72 = (zs (zs (zs (yC h) 84 (((yC h) 170 b.toNat).toNat) (w32 (((yC h) 84 (((yC h) 170 b.toNat).toNat)) - (max (yWask q (yC h) 1 a.toNat b.toNat c) 0)))) 84 a.toNat (w32 (((zs (yC h) 84 (((yC h) 170 b.toNat).toNat) (w32 (((yC h) 84 (((yC h) 170 b.toNat).toNat)) - (max (yWask q (yC h) 1 a.toNat b.toNat c) 0)))) 84 a.toNat) + (max (yWask q (yC h) 1 a.toNat b.toNat c) 0)))) 175 b.toNat (w32 (((yC h) 175 b.toNat) - c))) := by rw [Uh72, zs_sw (a := 175) (b := 84) (by decide)]
                      have Xh72 : zXR msx41_z (0) (0) h h72 := Xh69.tr (c2 := 0) (s2 := 0) Qh72 (by decide +kernel) (by decide) (by decide)
                      have Gh72_0 : gH h72 v2 := Gh69_0.x Qh72
                      have Gh72_1 : gL h72 v8 := Gh69_1.x Qh72
                      have Jh72 : yR h72 := Jh69.fr Ch69 Qh72 (by decide +kernel)
                      have pv2_h72 : v2 = zv h72 3 a.toNat ∧ ((a.toNat : Nat) : Int) < fld h72 3 2 := zpv Ch69 Qh72 (A := 3) (by decide) (by decide +kernel) pv2_h69
                      have pv8_h72 : v8 = zv h72 4 b.toNat ∧ ((b.toNat : Nat) : Int) < fld h72 4 2 := zpv Ch69 Qh72 (A := 4) (by decide) (by decide +kernel) pv8_h69
                      have th72_5_2 : fld h72 5 2 = fld h69 5 2 := Qh72.f (a1 := 5) (a2 := 5) (j1 := 2) (j2 := 3) (by decide +kernel) ⟨by decide, by decide⟩ ⟨by decide, by decide⟩ ⟨by decide, by decide⟩
                      have Vh72 : zRq q h72 := Vh69.fr Ch69 Qh72 (by decide +kernel)
                      refine zwW_p [(1, 4, 2), (12, 0, 0)] (q := 145) (ls' := [(2, 1), (0, a), (0, b), (0, c), (2, v2), (2, v8), (0, v32), (0, 1)]) (st' := [(2, v2), (2, v2)]) (by decide +kernel) rfl ?_
                      refine zwX_gi Ch72 (kd := 4) (bn := 14) (n := 19) (nx := 148) (by decide +kernel) Gh72_0.2.1 Gh72_0.1 rfl ?_
                      intro v73 ev73 lv73 uv73
                      have sv73 : v73 = (yC h) 92 a.toNat := Eq.trans ev73 (Eq.trans (congrArg (fun q => fld h72 q 14) pv2_h72.1) (Eq.trans (Eq.symm (yC_f (h := h72) (a := 92) (A := 3) (j := 14) (i := a.toNat) rfl pv2_h72.2)) (Eq.trans (congrFun (congrFun Zh72 92) a.toNat) (Eq.trans (zs_na (by decide) : (zs (zs (zs (yC h) 84 (((yC h) 170 b.toNat).toNat) (w32 (((yC h) 84 (((yC h) 170 b.toNat).toNat)) - (max (yWask q (yC h) 1 a.toNat b.toNat c) 0)))) 84 a.toNat (w32 (((zs (yC h) 84 (((yC h) 170 b.toNat).toNat) (w32 (((yC h) 84 (((yC h) 170 b.toNat).toNat)) - (max (yWask q (yC h) 1 a.toNat b.toNat c) 0)))) 84 a.toNat) + (max (yWask q (yC h) 1 a.toNat b.toNat c) 0)))) 175 b.toNat (w32 (((yC h) 175 b.toNat) - c))) 92 a.toNat = (zs (zs (yC h) 84 (((yC h) 170 b.toNat).toNat) (w32 (((yC h) 84 (((yC h) 170 b.toNat).toNat)) - (max (yWask q (yC h) 1 a.toNat b.toNat c) 0)))) 84 a.toNat (w32 (((zs (yC h) 84 (((yC h) 170 b.toNat).toNat) (w32 (((yC h) 84 (((yC h) 170 b.toNat).toNat)) - (max (yWask q (yC h) 1 a.toNat b.toNat c) 0)))) 84 a.toNat) + (max (yWask q (yC h) 1 a.toNat b.toNat c) 0)))) 92 a.toNat) (Eq.trans (zs_na (by decide) : (zs (zs (yC h) 84 (((yC h) 170 b.toNat).toNat) (w32 (((yC h) 84 (((yC h) 170 b.toNat).toNat)) - (max (yWask q (yC h) 1 a.toNat b.toNat c) 0)))) 84 a.toNat (w32 (((zs (yC h) 84 (((yC h) 170 b.toNat).toNat) (w32 (((yC h) 84 (((yC h) 170 b.toNat).toNat)) - (max (yWask q (yC h) 1 a.toNat b.toNat c) 0)))) 84 a.toNat) + (max (yWask q (yC h) 1 a.toNat b.toNat c) 0)))) 92 a.toNat = (zs (yC h) 84 (((yC h) 170 b.toNat).toNat) (w32 (((yC h) 84 (((yC h) 170 b.toNat).toNat)) - (max (yWask q (yC h) 1 a.toNat b.toNat c) 0)))) 92 a.toNat) (Eq.trans (zs_na (by decide) : (zs (yC h) 84 (((yC h) 170 b.toNat).toNat) (w32 (((yC h) 84 (((yC h) 170 b.toNat).toNat)) - (max (yWask q (yC h) 1 a.toNat b.toNat c) 0)))) 92 a.toNat = (yC h) 92 a.toNat) rfl))))))
                      refine zwW_p [(1, 3, 0)] (q := 149) (ls' := [(2, 1), (0, a), (0, b), (0, c), (2, v2), (2, v8), (0, v32), (0, 1)]) (st' := [(0, c), (0, v73), (2, v2)]) (by decide +kernel) rfl ?_
                      refine zwW_adw (nx := 150) (by decide +kernel) ?_
                      intro v74 ev74 lv74 uv74
                      have Ev74 : v74 = w32 (((yC h) 92 a.toNat) + c) := by rw [ev74, sv73]
                      refine zwX_pi Ch72 (kd := 4) (bn := 14) (n := 19) (nx := 153) (by decide +kernel) Gh72_0.2.1 Gh72_0.1 ⟨by omega, by omega⟩ ?_
                      rintro h75 eh75 Ch75 Qh75
                      have Uh75 : yC h75 = (zs (zs (zs (zs (yC h) 84 (((yC h) 170 b.toNat).toNat) (w32 (((yC h) 84 (((yC h) 170 b.toNat).toNat)) - (max (yWask q (yC h) 1 a.toNat b.toNat c) 0)))) 84 a.toNat (w32 (((zs (yC h) 84 (((yC h) 170 b.toNat).toNat) (w32 (((yC h) 84 (((yC h) 170 b.toNat).toNat)) - (max (yWask q (yC h) 1 a.toNat b.toNat c) 0)))) 84 a.toNat) + (max (yWask q (yC h) 1 a.toNat b.toNat c) 0)))) 175 b.toNat (w32 (((yC h) 175 b.toNat) - c))) 92 a.toNat (w32 (((yC h) 92 a.toNat) + c))) := by rw [yC_w (a := 92) (A := 3) (j := 14) (k := a.toNat) Ch72 Jh72 rfl pv2_h72 eh75, Zh72, Ev74]
                      have Zh75 : yC h75 = (zs (zs (zs (zs (yC h) 84 (((yC h) 170 b.toNat).toNat) (w32 (((yC h) 84 (((yC h) 170 b.toNat).toNat)) - (max (yWask q (yC h) 1 a.toNat b.toNat c) 0)))) 84 a.toNat (w32 (((zs (yC h) 84 (((yC h) 170 b.toNat).toNat) (w32 (((yC h) 84 (((yC h) 170 b.toNat).toNat)) - (max (yWask q (yC h) 1 a.toNat b.toNat c) 0)))) 84 a.toNat) + (max (yWask q (yC h) 1 a.toNat b.toNat c) 0)))) 92 a.toNat (w32 (((yC h) 92 a.toNat) + c))) 175 b.toNat (w32 (((yC h) 175 b.toNat) - c))) := by rw [Uh75, zs_sw (a := 175) (b := 92) (by decide)]
                      have Xh75 : zXR msx41_z (0) (0) h h75 := Xh72.tr (c2 := 0) (s2 := 0) Qh75 (by decide +kernel) (by decide) (by decide)
                      have Gh75_0 : gH h75 v2 := Gh72_0.x Qh75
                      have Gh75_1 : gL h75 v8 := Gh72_1.x Qh75
                      have Jh75 : yR h75 := Jh72.fr Ch72 Qh75 (by decide +kernel)
                      have pv2_h75 : v2 = zv h75 3 a.toNat ∧ ((a.toNat : Nat) : Int) < fld h75 3 2 := zpv Ch72 Qh75 (A := 3) (by decide) (by decide +kernel) pv2_h72
                      have pv8_h75 : v8 = zv h75 4 b.toNat ∧ ((b.toNat : Nat) : Int) < fld h75 4 2 := zpv Ch72 Qh75 (A := 4) (by decide) (by decide +kernel) pv8_h72
                      have th75_5_2 : fld h75 5 2 = fld h72 5 2 := Qh75.f (a1 := 5) (a2 := 5) (j1 := 2) (j2 := 3) (by decide +kernel) ⟨by decide, by decide⟩ ⟨by decide, by decide⟩ ⟨by decide, by decide⟩
                      have Vh75 : zRq q h75 := Vh72.fr Ch72 Qh75 (by decide +kernel)
                      refine zwW_p [(1, 0, 2)] (q := 154) (ls' := [(2, 1), (0, a), (0, b), (0, c), (2, v2), (2, v8), (0, v32), (0, 1)]) (st' := [(2, 1)]) (by decide +kernel) rfl ?_
                      refine zwW_gc Ch75.1 (kd := 12) (bn := 11) (n := 13) (c := 34) (nx := 157) (by decide +kernel) ?_
                      refine zwW_p [(12, 0, 0)] (q := 158) (ls' := [(2, 1), (0, a), (0, b), (0, c), (2, v2), (2, v8), (0, v32), (0, 1)]) (st' := [(2, 34), (2, 34)]) (by decide +kernel) rfl ?_
                      refine zwW_gs Ch75.1 (kd := 5) (bn := 1) (n := 4) (t := 0) (lo := -2147483648) (hi := 2147483647) (nx := 161) (by decide +kernel) ?_
                      intro v76 ev76 lv76 uv76
                      have sv76 : v76 = (yC h) 37 70 := Eq.trans ev76 (Eq.trans (Eq.symm (yC_s (h := h75) (i := 70) rfl)) (Eq.trans (congrFun (congrFun Zh75 37) 70) (Eq.trans (zs_na (by decide) : (zs (zs (zs (zs (yC h) 84 (((yC h) 170 b.toNat).toNat) (w32 (((yC h) 84 (((yC h) 170 b.toNat).toNat)) - (max (yWask q (yC h) 1 a.toNat b.toNat c) 0)))) 84 a.toNat (w32 (((zs (yC h) 84 (((yC h) 170 b.toNat).toNat) (w32 (((yC h) 84 (((yC h) 170 b.toNat).toNat)) - (max (yWask q (yC h) 1 a.toNat b.toNat c) 0)))) 84 a.toNat) + (max (yWask q (yC h) 1 a.toNat b.toNat c) 0)))) 92 a.toNat (w32 (((yC h) 92 a.toNat) + c))) 175 b.toNat (w32 (((yC h) 175 b.toNat) - c))) 37 70 = (zs (zs (zs (yC h) 84 (((yC h) 170 b.toNat).toNat) (w32 (((yC h) 84 (((yC h) 170 b.toNat).toNat)) - (max (yWask q (yC h) 1 a.toNat b.toNat c) 0)))) 84 a.toNat (w32 (((zs (yC h) 84 (((yC h) 170 b.toNat).toNat) (w32 (((yC h) 84 (((yC h) 170 b.toNat).toNat)) - (max (yWask q (yC h) 1 a.toNat b.toNat c) 0)))) 84 a.toNat) + (max (yWask q (yC h) 1 a.toNat b.toNat c) 0)))) 92 a.toNat (w32 (((yC h) 92 a.toNat) + c))) 37 70) (Eq.trans (zs_na (by decide) : (zs (zs (zs (yC h) 84 (((yC h) 170 b.toNat).toNat) (w32 (((yC h) 84 (((yC h) 170 b.toNat).toNat)) - (max (yWask q (yC h) 1 a.toNat b.toNat c) 0)))) 84 a.toNat (w32 (((zs (yC h) 84 (((yC h) 170 b.toNat).toNat) (w32 (((yC h) 84 (((yC h) 170 b.toNat).toNat)) - (max (yWask q (yC h) 1 a.toNat b.toNat c) 0)))) 84 a.toNat) + (max (yWask q (yC h) 1 a.toNat b.toNat c) 0)))) 92 a.toNat (w32 (((yC h) 92 a.toNat) + c))) 37 70 = (zs (zs (yC h) 84 (((yC h) 170 b.toNat).toNat) (w32 (((yC h) 84 (((yC h) 170 b.toNat).toNat)) - (max (yWask q (yC h) 1 a.toNat b.toNat c) 0)))) 84 a.toNat (w32 (((zs (yC h) 84 (((yC h) 170 b.toNat).toNat) (w32 (((yC h) 84 (((yC h) 170 b.toNat).toNat)) - (max (yWask q (yC h) 1 a.toNat b.toNat c) 0)))) 84 a.toNat) + (max (yWask q (yC h) 1 a.toNat b.toNat c) 0)))) 37 70) (Eq.trans (zs_na (by decide) : (zs (zs (yC h) 84 (((yC h) 170 b.toNat).toNat) (w32 (((yC h) 84 (((yC h) 170 b.toNat).toNat)) - (max (yWask q (yC h) 1 a.toNat b.toNat c) 0)))) 84 a.toNat (w32 (((zs (yC h) 84 (((yC h) 170 b.toNat).toNat) (w32 (((yC h) 84 (((yC h) 170 b.toNat).toNat)) - (max (yWask q (yC h) 1 a.toNat b.toNat c) 0)))) 84 a.toNat) + (max (yWask q (yC h) 1 a.toNat b.toNat c) 0)))) 37 70 = (zs (yC h) 84 (((yC h) 170 b.toNat).toNat) (w32 (((yC h) 84 (((yC h) 170 b.toNat).toNat)) - (max (yWask q (yC h) 1 a.toNat b.toNat c) 0)))) 37 70) (Eq.trans (zs_na (by decide) : (zs (yC h) 84 (((yC h) 170 b.toNat).toNat) (w32 (((yC h) 84 (((yC h) 170 b.toNat).toNat)) - (max (yWask q (yC h) 1 a.toNat b.toNat c) 0)))) 37 70 = (yC h) 37 70) rfl))))))
                      refine zwW_p [(1, 3, 0)] (q := 162) (ls' := [(2, 1), (0, a), (0, b), (0, c), (2, v2), (2, v8), (0, v32), (0, 1)]) (st' := [(0, c), (0, v76), (2, 34)]) (by decide +kernel) rfl ?_
                      refine zwW_adw (nx := 163) (by decide +kernel) ?_
                      intro v77 ev77 lv77 uv77
                      have Ev77 : v77 = w32 (((yC h) 37 70) + c) := by rw [ev77, sv76]
                      refine zwW_ps Ch75.1 (kd := 5) (bn := 1) (n := 4) (lo := -2147483648) (hi := 2147483647) (nx := 166) (by decide +kernel) ⟨by omega, by omega⟩ ?_
                      intro h78 eh78 Ih78
                      have Ch78 : CI h78 := Ch75.wc eh78 Ih78 (by decide) (by decide)
                      have Qh78 : zXR [(34, 34, 1, 2)] 0 0 h75 h78 := zXR.wc eh78 rfl ⟨by decide, by decide, Or.inl (by decide)⟩ ⟨by decide, by decide⟩
                      have Zh78 : yC h78 = (zs (zs (zs (zs (zs (yC h) 84 (((yC h) 170 b.toNat).toNat) (w32 (((yC h) 84 (((yC h) 170 b.toNat).toNat)) - (max (yWask q (yC h) 1 a.toNat b.toNat c) 0)))) 84 a.toNat (w32 (((zs (yC h) 84 (((yC h) 170 b.toNat).toNat) (w32 (((yC h) 84 (((yC h) 170 b.toNat).toNat)) - (max (yWask q (yC h) 1 a.toNat b.toNat c) 0)))) 84 a.toNat) + (max (yWask q (yC h) 1 a.toNat b.toNat c) 0)))) 92 a.toNat (w32 (((yC h) 92 a.toNat) + c))) 175 b.toNat (w32 (((yC h) 175 b.toNat) - c))) 37 70 (w32 (((yC h) 37 70) + c))) := by rw [yC_ws (q := 70) (r := 34) (j := 1) (kd := 5) (n := 4) rfl (Ch75.1.s (a1 := 34) (a2 := 34) (by decide +kernel) (by decide) (by decide)) (by decide) Ch75 eh78, Zh75, Ev77]
                      have Xh78 : zXR msx41_z (0) (0) h h78 := Xh75.tr (c2 := 0) (s2 := 0) Qh78 (by decide +kernel) (by decide) (by decide)
                      have Gh78_0 : gH h78 v2 := Gh75_0.x Qh78
                      have Gh78_1 : gL h78 v8 := Gh75_1.x Qh78
                      have Jh78 : yR h78 := Jh75.fr Ch75 Qh78 (by decide +kernel)
                      have pv2_h78 : v2 = zv h78 3 a.toNat ∧ ((a.toNat : Nat) : Int) < fld h78 3 2 := zpv Ch75 Qh78 (A := 3) (by decide) (by decide +kernel) pv2_h75
                      have pv8_h78 : v8 = zv h78 4 b.toNat ∧ ((b.toNat : Nat) : Int) < fld h78 4 2 := zpv Ch75 Qh78 (A := 4) (by decide) (by decide +kernel) pv8_h75
                      have th78_5_2 : fld h78 5 2 = fld h75 5 2 := Qh78.f (a1 := 5) (a2 := 5) (j1 := 2) (j2 := 3) (by decide +kernel) ⟨by decide, by decide⟩ ⟨by decide, by decide⟩ ⟨by decide, by decide⟩
                      have Vh78 : zRq q h78 := Vh75.fr Ch75 Qh78 (by decide +kernel)
                      refine zwW_p [(1, 0, 2)] (q := 167) (ls' := [(2, 1), (0, a), (0, b), (0, c), (2, v2), (2, v8), (0, v32), (0, 1)]) (st' := [(2, 1)]) (by decide +kernel) rfl ?_
                      refine zwW_gc Ch78.1 (kd := 12) (bn := 5) (n := 13) (c := 5) (nx := 170) (by decide +kernel) ?_
                      refine zwW_new (kd := 1) (n := 6) (nx := 173) (by decide +kernel) rfl rfl ?_
                      rintro h79 r80 eh79 er80
                      have Oh79 : zOld h78 h79 := by rw [eh79]; exact zOld.app _
                      have Yh79 : zDy h79 := by rw [eh79]; exact Ch78.2.1.app (fun x hx => by rw [List.eq_of_mem_replicate hx]; decide)
                      have Ch79 : CI h79 := Ch78.old Oh79 Yh79
                      have Xh79 := Oh79.X Ch78
                      have th79_5_2 : fld h79 5 2 = fld h78 5 2 := Xh79.f (a1 := 5) (a2 := 5) (j1 := 2) (j2 := 3) (by decide +kernel) ⟨by decide, by decide⟩ ⟨by decide, by decide⟩ ⟨by decide, by decide⟩
                      have Gh79_0 : gH h79 v2 := Gh78_0.x Xh79
                      have Gh79_1 : gL h79 v8 := Gh78_1.x Xh79
                      have Zh79 : yC h79 = (zs (zs (zs (zs (zs (yC h) 84 (((yC h) 170 b.toNat).toNat) (w32 (((yC h) 84 (((yC h) 170 b.toNat).toNat)) - (max (yWask q (yC h) 1 a.toNat b.toNat c) 0)))) 84 a.toNat (w32 (((zs (yC h) 84 (((yC h) 170 b.toNat).toNat) (w32 (((yC h) 84 (((yC h) 170 b.toNat).toNat)) - (max (yWask q (yC h) 1 a.toNat b.toNat c) 0)))) 84 a.toNat) + (max (yWask q (yC h) 1 a.toNat b.toNat c) 0)))) 92 a.toNat (w32 (((yC h) 92 a.toNat) + c))) 175 b.toNat (w32 (((yC h) 175 b.toNat) - c))) 37 70 (w32 (((yC h) 37 70) + c))) := (yC_fr Ch78 Xh79 (by decide +kernel) (Ch78.1.b (a1 := 37) (a2 := 37) (j1 := 86) (j2 := 87) (lo := 0) (hi := 6) (by decide +kernel) (r := 37) (j := 86) (by decide) (by decide) (by decide) (by decide)).2).trans Zh78
                      refine zwW_p [(12, 0, 0), (1, 5, 2), (1, 4, 2), (1, 0, 2)] (q := 179) (ls' := [(2, 1), (0, a), (0, b), (0, c), (2, v2), (2, v8), (0, v32), (0, 1)]) (st' := [(2, 1), (2, v2), (2, v8), (2, r80), (2, r80), (2, 5)]) (by decide +kernel) rfl ?_
                      refine zwW_gs Ch79.1 (kd := 12) (bn := 0) (n := 13) (t := 0) (lo := 0) (hi := 156) (nx := 182) (by decide +kernel) ?_
                      intro v81 ev81 lv81 uv81
                      have sv81 : v81 = (yC h) 37 0 := Eq.trans ev81 (Eq.trans (Eq.symm (yC_s (h := h79) (i := 0) rfl)) (Eq.trans (congrFun (congrFun Zh79 37) 0) (Eq.trans (zs_ni (by decide) : (zs (zs (zs (zs (zs (yC h) 84 (((yC h) 170 b.toNat).toNat) (w32 (((yC h) 84 (((yC h) 170 b.toNat).toNat)) - (max (yWask q (yC h) 1 a.toNat b.toNat c) 0)))) 84 a.toNat (w32 (((zs (yC h) 84 (((yC h) 170 b.toNat).toNat) (w32 (((yC h) 84 (((yC h) 170 b.toNat).toNat)) - (max (yWask q (yC h) 1 a.toNat b.toNat c) 0)))) 84 a.toNat) + (max (yWask q (yC h) 1 a.toNat b.toNat c) 0)))) 92 a.toNat (w32 (((yC h) 92 a.toNat) + c))) 175 b.toNat (w32 (((yC h) 175 b.toNat) - c))) 37 70 (w32 (((yC h) 37 70) + c))) 37 0 = (zs (zs (zs (zs (yC h) 84 (((yC h) 170 b.toNat).toNat) (w32 (((yC h) 84 (((yC h) 170 b.toNat).toNat)) - (max (yWask q (yC h) 1 a.toNat b.toNat c) 0)))) 84 a.toNat (w32 (((zs (yC h) 84 (((yC h) 170 b.toNat).toNat) (w32 (((yC h) 84 (((yC h) 170 b.toNat).toNat)) - (max (yWask q (yC h) 1 a.toNat b.toNat c) 0)))) 84 a.toNat) + (max (yWask q (yC h) 1 a.toNat b.toNat c) 0)))) 92 a.toNat (w32 (((yC h) 92 a.toNat) + c))) 175 b.toNat (w32 (((yC h) 175 b.toNat) - c))) 37 0) (Eq.trans (zs_na (by decide) : (zs (zs (zs (zs (yC h) 84 (((yC h) 170 b.toNat).toNat) (w32 (((yC h) 84 (((yC h) 170 b.toNat).toNat)) - (max (yWask q (yC h) 1 a.toNat b.toNat c) 0)))) 84 a.toNat (w32 (((zs (yC h) 84 (((yC h) 170 b.toNat).toNat) (w32 (((yC h) 84 (((yC h) 170 b.toNat).toNat)) - (max (yWask q (yC h) 1 a.toNat b.toNat c) 0)))) 84 a.toNat) + (max (yWask q (yC h) 1 a.toNat b.toNat c) 0)))) 92 a.toNat (w32 (((yC h) 92 a.toNat) + c))) 175 b.toNat (w32 (((yC h) 175 b.toNat) - c))) 37 0 = (zs (zs (zs (yC h) 84 (((yC h) 170 b.toNat).toNat) (w32 (((yC h) 84 (((yC h) 170 b.toNat).toNat)) - (max (yWask q (yC h) 1 a.toNat b.toNat c) 0)))) 84 a.toNat (w32 (((zs (yC h) 84 (((yC h) 170 b.toNat).toNat) (w32 (((yC h) 84 (((yC h) 170 b.toNat).toNat)) - (max (yWask q (yC h) 1 a.toNat b.toNat c) 0)))) 84 a.toNat) + (max (yWask q (yC h) 1 a.toNat b.toNat c) 0)))) 92 a.toNat (w32 (((yC h) 92 a.toNat) + c))) 37 0) (Eq.trans (zs_na (by decide) : (zs (zs (zs (yC h) 84 (((yC h) 170 b.toNat).toNat) (w32 (((yC h) 84 (((yC h) 170 b.toNat).toNat)) - (max (yWask q (yC h) 1 a.toNat b.toNat c) 0)))) 84 a.toNat (w32 (((zs (yC h) 84 (((yC h) 170 b.toNat).toNat) (w32 (((yC h) 84 (((yC h) 170 b.toNat).toNat)) - (max (yWask q (yC h) 1 a.toNat b.toNat c) 0)))) 84 a.toNat) + (max (yWask q (yC h) 1 a.toNat b.toNat c) 0)))) 92 a.toNat (w32 (((yC h) 92 a.toNat) + c))) 37 0 = (zs (zs (yC h) 84 (((yC h) 170 b.toNat).toNat) (w32 (((yC h) 84 (((yC h) 170 b.toNat).toNat)) - (max (yWask q (yC h) 1 a.toNat b.toNat c) 0)))) 84 a.toNat (w32 (((zs (yC h) 84 (((yC h) 170 b.toNat).toNat) (w32 (((yC h) 84 (((yC h) 170 b.toNat).toNat)) - (max (yWask q (yC h) 1 a.toNat b.toNat c) 0)))) 84 a.toNat) + (max (yWask q (yC h) 1 a.toNat b.toNat c) 0)))) 37 0) (Eq.trans (zs_na (by decide) : (zs (zs (yC h) 84 (((yC h) 170 b.toNat).toNat) (w32 (((yC h) 84 (((yC h) 170 b.toNat).toNat)) - (max (yWask q (yC h) 1 a.toNat b.toNat c) 0)))) 84 a.toNat (w32 (((zs (yC h) 84 (((yC h) 170 b.toNat).toNat) (w32 (((yC h) 84 (((yC h) 170 b.toNat).toNat)) - (max (yWask q (yC h) 1 a.toNat b.toNat c) 0)))) 84 a.toNat) + (max (yWask q (yC h) 1 a.toNat b.toNat c) 0)))) 37 0 = (zs (yC h) 84 (((yC h) 170 b.toNat).toNat) (w32 (((yC h) 84 (((yC h) 170 b.toNat).toNat)) - (max (yWask q (yC h) 1 a.toNat b.toNat c) 0)))) 37 0) (Eq.trans (zs_na (by decide) : (zs (yC h) 84 (((yC h) 170 b.toNat).toNat) (w32 (((yC h) 84 (((yC h) 170 b.toNat).toNat)) - (max (yWask q (yC h) 1 a.toNat b.toNat c) 0)))) 37 0 = (yC h) 37 0) rfl)))))))
                      refine zwW_p [(1, 3, 0), (0, 2, 0)] (q := 184) (ls' := [(2, 1), (0, a), (0, b), (0, c), (2, v2), (2, v8), (0, v32), (0, 1)]) (st' := [(0, 2), (0, c), (0, v81), (2, v2), (2, v8), (2, r80), (2, r80), (2, 5)]) (by decide +kernel) rfl ?_
                      refine zwW_div (nx := 185) (by decide +kernel) (by omega) (by omega) (by omega) ?_
                      refine zwW_p [(1, 7, 0)] (q := 187) (ls' := [(2, 1), (0, a), (0, b), (0, c), (2, v2), (2, v8), (0, v32), (0, 1)]) (st' := [(0, 1), (0, (c / 2)), (0, v81), (2, v2), (2, v8), (2, r80), (2, r80), (2, 5)]) (by decide +kernel) rfl ?_
                      subst er80 eh79
                      refine zwW_cvv (op := 62) (k' := 135) (n := 5) (kd := 1) (m := 6) (nx := 190) (r := ((h78.length + 1 : Nat) : Int)) (tl := [(2, v8), (2, v2), (0, v81), (0, (c / 2)), (0, 1)]) (st' := [(2, ((h78.length + 1 : Nat) : Int)), (2, 5)]) (by decide +kernel) rfl (by decide +kernel) (sh_new _ _) (x135 h78 Ch78 v8 v2 v81 (c / 2) 1 (by omega) (by omega) Gh78_1 Gh78_0 (by omega)) rfl ?_
                      rintro h82 ⟨Ch82, Qh82, Nh82, Fh82_0⟩
                      obtain ⟨nr80, err80⟩ : ∃ z, z = ((h78.length + 1 : Nat) : Int) := ⟨_, rfl⟩
                      rw [← err80] at Nh82 ⊢
                      try rw [← err80] at Fh82_0
                      have Xh82 : zXR msx41_z (1) (6) h h82 := Xh78.tr (c2 := 1) (s2 := 6) Qh82 (by decide +kernel) (by decide) (by decide)
                      have Gh82_0 : gH h82 v2 := Gh78_0.x Qh82
                      have Gh82_1 : gL h82 v8 := Gh78_1.x Qh82
                      have Zh82 : yC h82 = (zs (zs (zs (zs (zs (yC h) 84 (((yC h) 170 b.toNat).toNat) (w32 (((yC h) 84 (((yC h) 170 b.toNat).toNat)) - (max (yWask q (yC h) 1 a.toNat b.toNat c) 0)))) 84 a.toNat (w32 (((zs (yC h) 84 (((yC h) 170 b.toNat).toNat) (w32 (((yC h) 84 (((yC h) 170 b.toNat).toNat)) - (max (yWask q (yC h) 1 a.toNat b.toNat c) 0)))) 84 a.toNat) + (max (yWask q (yC h) 1 a.toNat b.toNat c) 0)))) 92 a.toNat (w32 (((yC h) 92 a.toNat) + c))) 175 b.toNat (w32 (((yC h) 175 b.toNat) - c))) 37 70 (w32 (((yC h) 37 70) + c))) := (yC_fr Ch78 Qh82 (by decide +kernel) (Ch78.1.b (a1 := 37) (a2 := 37) (j1 := 86) (j2 := 87) (lo := 0) (hi := 6) (by decide +kernel) (r := 37) (j := 86) (by decide) (by decide) (by decide) (by decide)).2).trans Zh78
                      have Jh82 : yR h82 := Jh78.fr Ch78 Qh82 (by decide +kernel)
                      have pv2_h82 : v2 = zv h82 3 a.toNat ∧ ((a.toNat : Nat) : Int) < fld h82 3 2 := zpv Ch78 Qh82 (A := 3) (by decide) (by decide +kernel) pv2_h78
                      have pv8_h82 : v8 = zv h82 4 b.toNat ∧ ((b.toNat : Nat) : Int) < fld h82 4 2 := zpv Ch78 Qh82 (A := 4) (by decide) (by decide +kernel) pv8_h78
                      have th82_5_2 : fld h82 5 2 = fld h78 5 2 := Qh82.f (a1 := 5) (a2 := 5) (j1 := 2) (j2 := 3) (by decide +kernel) ⟨by decide, by decide⟩ ⟨by decide, by decide⟩ ⟨by decide, by decide⟩
                      have Vh82 : zRq q h82 := Vh78.fr Ch78 Qh82 (by decide +kernel)
                      have lnr80 := Nh82.1
                      refine zwW_cm Ch82.1 (op := 60) (k' := 100) (n := 1) (kd := 0) (m := 3) (nx := 193) (r := 5) (tl := [(2, nr80)]) (st' := []) (by decide +kernel) rfl (by decide +kernel) rfl (x100_5 Ch82 Nh82 (by omega) (by have := Xh82.hl C Ch82 (by decide) hl; omega)) ?_
                      rintro x h84 ⟨rfl, Ah84⟩
                      have Ch84 := Ah84.1
                      have Qh84 : zXR [(5, 5, 0, 3)] (1) (1000) h82 h84 := Ah84.2.1
                      have zh84 : fld h84 5 2 = fld h82 5 2 + 1 := Ah84.2.2.1
                      have YLh84 := yC_clo (n := (yC h 37 78).toNat) Ch82 Jh82 Ah84 Nh82 Fh82_0 (by omega) pv8_h82.1 pv8_h82.2 pv2_h82.1 pv2_h82.2
                      have JLh84 := yR_clo (n := (yC h 37 78).toNat) Ch82 Jh82 Ah84 Nh82 Fh82_0 (by omega) pv8_h82.1 pv8_h82.2 pv2_h82.1 pv2_h82.2 (zfresh Ch78 Qh82 (by decide) (by decide +kernel) err80)
                      have VLh84 : yC h84 = (zs (zs (zs (zs (zs (zs (zs (zs (zs (zs (zs (zs (yC h) 84 (((yC h) 170 b.toNat).toNat) (w32 (((yC h) 84 (((yC h) 170 b.toNat).toNat)) - (max (yWask q (yC h) 1 a.toNat b.toNat c) 0)))) 84 a.toNat (w32 (((zs (yC h) 84 (((yC h) 170 b.toNat).toNat) (w32 (((yC h) 84 (((yC h) 170 b.toNat).toNat)) - (max (yWask q (yC h) 1 a.toNat b.toNat c) 0)))) 84 a.toNat) + (max (yWask q (yC h) 1 a.toNat b.toNat c) 0)))) 92 a.toNat (w32 (((yC h) 92 a.toNat) + c))) 175 b.toNat (w32 (((yC h) 175 b.toNat) - c))) 37 70 (w32 (((yC h) 37 70) + c))) 180 ((yC h 37 78).toNat) ((b.toNat : Nat) : Int)) 181 ((yC h 37 78).toNat) ((a.toNat : Nat) : Int)) 182 ((yC h 37 78).toNat) v81) 183 ((yC h 37 78).toNat) (c / 2)) 184 ((yC h 37 78).toNat) (-1)) 185 ((yC h 37 78).toNat) 1) 37 78 ((((yC h 37 78).toNat : Nat) : Int) + 1)) := by rw [YLh84, Zh82]
                      have Zh84 : yC h84 = (zs (zs (zs (zs (zs (zs (zs (zs (zs (zs (zs (zs (yC h) 84 (((yC h) 170 b.toNat).toNat) (w32 (((yC h) 84 (((yC h) 170 b.toNat).toNat)) - (max (yWask q (yC h) 1 a.toNat b.toNat c) 0)))) 84 a.toNat (w32 (((zs (yC h) 84 (((yC h) 170 b.toNat).toNat) (w32 (((yC h) 84 (((yC h) 170 b.toNat).toNat)) - (max (yWask q (yC h) 1 a.toNat b.toNat c) 0)))) 84 a.toNat) + (max (yWask q (yC h) 1 a.toNat b.toNat c) 0)))) 92 a.toNat (w32 (((yC h) 92 a.toNat) + c))) 175 b.toNat (w32 (((yC h) 175 b.toNat) - c))) 180 ((yC h 37 78).toNat) ((b.toNat : Nat) : Int)) 181 ((yC h 37 78).toNat) ((a.toNat : Nat) : Int)) 182 ((yC h 37 78).toNat) v81) 183 ((yC h 37 78).toNat) (c / 2)) 184 ((yC h 37 78).toNat) (-1)) 185 ((yC h 37 78).toNat) 1) 37 70 (w32 (((yC h) 37 70) + c))) 37 78 ((((yC h 37 78).toNat : Nat) : Int) + 1)) := by rw [VLh84, zs_sw (a := 37) (b := 180) (by decide), zs_sw (a := 37) (b := 181) (by decide), zs_sw (a := 37) (b := 182) (by decide), zs_sw (a := 37) (b := 183) (by decide), zs_sw (a := 37) (b := 184) (by decide), zs_sw (a := 37) (b := 185) (by decide)]
                      have Xh84 : zXR msx41_z (2) (1006) h h84 := Xh82.tr (c2 := 2) (s2 := 1006) Qh84 (by decide +kernel) (by decide) (by decide)
                      have Gh84_0 : gH h84 v2 := Gh82_0.x Qh84
                      have Gh84_1 : gL h84 v8 := Gh82_1.x Qh84
                      have pv2_h84 : v2 = zv h84 3 a.toNat ∧ ((a.toNat : Nat) : Int) < fld h84 3 2 := zpv Ch82 Qh84 (A := 3) (by decide) (by decide +kernel) pv2_h82
                      have pv8_h84 : v8 = zv h84 4 b.toNat ∧ ((b.toNat : Nat) : Int) < fld h84 4 2 := zpv Ch82 Qh84 (A := 4) (by decide) (by decide +kernel) pv8_h82
                      have Vh84 : zRq q h84 := Vh82.fr Ch82 Qh84 (by decide +kernel)
                      refine zwW_p [(15, 0, 0), (1, 0, 2)] (q := 195) (ls' := [(2, 1), (0, a), (0, b), (0, c), (2, v2), (2, v8), (0, v32), (0, 1)]) (st' := [(2, 1)]) (by decide +kernel) rfl ?_
                      refine zwW_gc Ch84.1 (kd := 12) (bn := 5) (n := 13) (c := 5) (nx := 198) (by decide +kernel) ?_
                      refine zwW_cm Ch84.1 (op := 60) (k' := 96) (n := 0) (kd := 0) (m := 3) (nx := 201) (r := 5) (tl := []) (st' := []) (by decide +kernel) rfl (by decide +kernel) rfl (x96_5 Ch84) ?_
                      rintro v85 _ ⟨rfl, ev85⟩
                      have bv85 := zLb_5 Ch84
                      have sv85 : v85 = ((((yC h 37 78).toNat : Nat) : Int) + 1) := Eq.trans ev85 (Eq.trans (Eq.symm (yC_s (h := h84) (i := 78) rfl)) (Eq.trans (congrFun (congrFun Zh84 37) 78) (zs_eq : (zs (zs (zs (zs (zs (zs (zs (zs (zs (zs (zs (zs (yC h) 84 (((yC h) 170 b.toNat).toNat) (w32 (((yC h) 84 (((yC h) 170 b.toNat).toNat)) - (max (yWask q (yC h) 1 a.toNat b.toNat c) 0)))) 84 a.toNat (w32 (((zs (yC h) 84 (((yC h) 170 b.toNat).toNat) (w32 (((yC h) 84 (((yC h) 170 b.toNat).toNat)) - (max (yWask q (yC h) 1 a.toNat b.toNat c) 0)))) 84 a.toNat) + (max (yWask q (yC h) 1 a.toNat b.toNat c) 0)))) 92 a.toNat (w32 (((yC h) 92 a.toNat) + c))) 175 b.toNat (w32 (((yC h) 175 b.toNat) - c))) 180 ((yC h 37 78).toNat) ((b.toNat : Nat) : Int)) 181 ((yC h 37 78).toNat) ((a.toNat : Nat) : Int)) 182 ((yC h 37 78).toNat) v81) 183 ((yC h 37 78).toNat) (c / 2)) 184 ((yC h 37 78).toNat) (-1)) 185 ((yC h 37 78).toNat) 1) 37 70 (w32 (((yC h) 37 70) + c))) 37 78 ((((yC h 37 78).toNat : Nat) : Int) + 1)) 37 78 = ((((yC h 37 78).toNat : Nat) : Int) + 1))))
                      refine zwW_p [(0, 1, 0)] (q := 202) (ls' := [(2, 1), (0, a), (0, b), (0, c), (2, v2), (2, v8), (0, v32), (0, 1)]) (st' := [(0, 1), (0, v85)]) (by decide +kernel) rfl ?_
                      refine zwW_sub (nx := 203) (by decide +kernel) ⟨by omega, by omega⟩ ?_
                      refine zwW_ret (nx := 204) (a := 0) (b := 0) (by decide +kernel) rfl (Or.inl rfl) ?_
                      exact ⟨Ch84, Xh84.le (by decide) (by decide), by omega, by unfold yWvA; (repeat' (first | rw [if_pos (by omega)] | rw [if_neg (by omega)])); all_goals (first | rfl | omega), by refine Eq.trans Zh84 ?_; unfold yWvF yWvS; (repeat' (first | rw [if_pos (by omega)] | rw [if_neg (by omega)])); all_goals (repeat' (first | rfl | omega | apply zs_cg)), by exact JLh84⟩
                  · refine zwW_p [(0, -1, 0)] (q := 67) (ls' := [(2, 1), (0, a), (0, b), (0, c), (2, v2), (2, v8), (9, 0), (9, 0)]) (st' := [(0, -1)]) (by decide +kernel) rfl ?_
                    refine zwW_ret (nx := 68) (a := 0) (b := 0) (by decide +kernel) rfl (Or.inl rfl) ?_
                    exact ⟨Ch24, Xh24.le (by decide) (by decide), by omega, by unfold yWvA; (repeat' (first | rw [if_pos (by omega)] | rw [if_neg (by omega)])); all_goals (first | rfl | omega), by refine Eq.trans Zh24 ?_; unfold yWvF yWvS; (repeat' (first | rw [if_pos (by omega)] | rw [if_neg (by omega)])); all_goals (repeat' (first | rfl | omega | apply zs_cg)), by exact f22⟩
          · refine zwif_eq (q := 66) (nx := 31) (by decide +kernel) (fun c86 => ?_) (fun c86 => ?_)
            · refine zwW_p [(0, -1, 0)] (q := 67) (ls' := [(2, 1), (0, a), (0, b), (0, c), (2, v2), (2, v8), (9, 0), (9, 0)]) (st' := [(0, -1)]) (by decide +kernel) rfl ?_
              refine zwW_ret (nx := 68) (a := 0) (b := 0) (by decide +kernel) rfl (Or.inl rfl) ?_
              exact ⟨C, X.le (by decide) (by decide), by omega, by unfold yWvA; (repeat' (first | rw [if_pos (by omega)] | rw [if_neg (by omega)])); all_goals (first | rfl | omega), by refine Eq.trans (rfl : yC h = yC h) ?_; unfold yWvF yWvS; (repeat' (first | rw [if_pos (by omega)] | rw [if_neg (by omega)])); all_goals (repeat' (first | rfl | omega | apply zs_cg)), by exact J⟩
            · exfalso; omega
-- WheelLand$Village.hasRoomFor(IZ)Z
theorem x149_z {sc : List Int} (h : Hp) (C : CI h) (r a b : Int) (G_r : gV h r) (q_a : -2147483648 ≤ a ∧ a ≤ 2147483647) (J : yR h) (k : Nat) (P_r : r = zv h 2 k ∧ (k : Int) < fld h 2 2) : zwC sc 1 149 [(2, r), (0, a), (0, b)] h (zwRt 0 (fun x g => h = g ∧ ((x = 1 ∧ ((b = 0 → w32 (yC h 68 k + a) ≤ 9999) ∧ (b ≠ 0 → w32 (yC h 67 k + a) ≤ 9999))) ∨ (x = 0 ∧ ((b = 0 ∧ 9999 < w32 (yC h 68 k + a)) ∨ (b ≠ 0 ∧ 9999 < w32 (yC h 67 k + a))))))) := by
  refine zwC_of (D := 0) 3 (by decide +kernel) rfl (ls := [(2, r), (0, a), (0, b)]) rfl ?_
  have lw_r := G_r.1
  have u0 : yC h 37 0 = fld h 1 0 := rfl
  have u1 : yC h 37 1 = fld h 2 2 := rfl
  have u2 : yC h 37 2 = fld h 3 2 := rfl
  have u64 : yC h 37 64 = fld h 4 2 := rfl
  have u78 : yC h 37 78 = fld h 5 2 := rfl
  refine zwW_p [(1, 2, 0)] (q := 1) (ls' := [(2, r), (0, a), (0, b)]) (st' := [(0, b)]) (by decide +kernel) rfl ?_
  refine zwif_eq (q := 11) (nx := 4) (by decide +kernel) (fun c1 => ?_) (fun c1 => ?_)
  · refine zwW_p [(1, 0, 2)] (q := 12) (ls' := [(2, r), (0, a), (0, b)]) (st' := [(2, r)]) (by decide +kernel) rfl ?_
    refine zwX_gi C (kd := 11) (bn := 6) (n := 17) (nx := 15) (by decide +kernel) G_r.2.1 G_r.1 rfl ?_
    intro v2 ev2 lv2 uv2
    have sv2 : v2 = (yC h) 68 k := Eq.trans ev2 (Eq.trans (congrArg (fun q => fld h q 6) P_r.1) (Eq.trans (Eq.symm (yC_f (h := h) (a := 68) (A := 2) (j := 6) (i := k) rfl P_r.2)) (Eq.trans (congrFun (congrFun (rfl : yC h = yC h) 68) k) rfl)))
    refine zwW_p [(1, 1, 0)] (q := 16) (ls' := [(2, r), (0, a), (0, b)]) (st' := [(0, a), (0, v2)]) (by decide +kernel) rfl ?_
    refine zwW_adw (nx := 17) (by decide +kernel) ?_
    intro v3 ev3 lv3 uv3
    have Ev3 : v3 = w32 (((yC h) 68 k) + a) := by rw [ev3, sv2]
    refine zwW_p [(0, 9999, 0)] (q := 20) (ls' := [(2, r), (0, a), (0, b)]) (st' := [(0, 9999), (0, v3)]) (by decide +kernel) rfl ?_
    refine zwic_gt (q := 27) (nx := 23) (by decide +kernel) (fun c4 => ?_) (fun c4 => ?_)
    · refine zwW_p [(0, 0, 0)] (q := 28) (ls' := [(2, r), (0, a), (0, b)]) (st' := [(0, 0)]) (by decide +kernel) rfl ?_
      refine zwW_ret (nx := 29) (a := 1) (b := 0) (by decide +kernel) rfl (Or.inr (Or.inl ⟨rfl, by omega⟩)) ?_
      exact ⟨rfl, Or.inr ⟨rfl, by omega⟩⟩
    · refine zwW_p [(0, 1, 0), (24, 28, 0)] (q := 28) (ls' := [(2, r), (0, a), (0, b)]) (st' := [(0, 1)]) (by decide +kernel) rfl ?_
      refine zwW_ret (nx := 29) (a := 1) (b := 0) (by decide +kernel) rfl (Or.inr (Or.inl ⟨rfl, by omega⟩)) ?_
      exact ⟨rfl, Or.inl ⟨rfl, by omega⟩⟩
  · refine zwW_p [(1, 0, 2)] (q := 5) (ls' := [(2, r), (0, a), (0, b)]) (st' := [(2, r)]) (by decide +kernel) rfl ?_
    refine zwX_gi C (kd := 11) (bn := 5) (n := 17) (nx := 8) (by decide +kernel) G_r.2.1 G_r.1 rfl ?_
    intro v5 ev5 lv5 uv5
    have sv5 : v5 = (yC h) 67 k := Eq.trans ev5 (Eq.trans (congrArg (fun q => fld h q 5) P_r.1) (Eq.trans (Eq.symm (yC_f (h := h) (a := 67) (A := 2) (j := 5) (i := k) rfl P_r.2)) (Eq.trans (congrFun (congrFun (rfl : yC h = yC h) 67) k) rfl)))
    refine zwW_p [(24, 15, 0), (1, 1, 0)] (q := 16) (ls' := [(2, r), (0, a), (0, b)]) (st' := [(0, a), (0, v5)]) (by decide +kernel) rfl ?_
    refine zwW_adw (nx := 17) (by decide +kernel) ?_
    intro v6 ev6 lv6 uv6
    have Ev6 : v6 = w32 (((yC h) 67 k) + a) := by rw [ev6, sv5]
    refine zwW_p [(0, 9999, 0)] (q := 20) (ls' := [(2, r), (0, a), (0, b)]) (st' := [(0, 9999), (0, v6)]) (by decide +kernel) rfl ?_
    refine zwic_gt (q := 27) (nx := 23) (by decide +kernel) (fun c7 => ?_) (fun c7 => ?_)
    · refine zwW_p [(0, 0, 0)] (q := 28) (ls' := [(2, r), (0, a), (0, b)]) (st' := [(0, 0)]) (by decide +kernel) rfl ?_
      refine zwW_ret (nx := 29) (a := 1) (b := 0) (by decide +kernel) rfl (Or.inr (Or.inl ⟨rfl, by omega⟩)) ?_
      exact ⟨rfl, Or.inr ⟨rfl, by omega⟩⟩
    · refine zwW_p [(0, 1, 0), (24, 28, 0)] (q := 28) (ls' := [(2, r), (0, a), (0, b)]) (st' := [(0, 1)]) (by decide +kernel) rfl ?_
      refine zwW_ret (nx := 29) (a := 1) (b := 0) (by decide +kernel) rfl (Or.inr (Or.inl ⟨rfl, by omega⟩)) ?_
      exact ⟨rfl, Or.inl ⟨rfl, by omega⟩⟩
def msx150_z : Zms := [(1011, 1011, 5, 6), (1011, 1011, 6, 7), (1011, 1011, 12, 13)]
-- WheelLand$Village.putHand(IZ)V
theorem x150_z {sc : List Int} (h : Hp) (C : CI h) (r a b : Int) (G_r : gV h r) (q_a : -2147483648 ≤ a ∧ a ≤ 2147483647) (J : yR h) (k : Nat) (P_r : r = zv h 2 k ∧ (k : Int) < fld h 2 2) : zwC sc 1 150 [(2, r), (0, a), (0, b)] h (zwRv (fun g => CI g ∧ zXR msx150_z (0) (0) h g ∧ (yC g = yPut (yC h) k a b) ∧ (yR g))) := by
  refine zwC_of (D := 0) 3 (by decide +kernel) rfl (ls := [(2, r), (0, a), (0, b)]) rfl ?_
  have lw_r := G_r.1
  have X : zXR msx150_z 0 0 h h := zXR.rf _ _
  have u0 : yC h 37 0 = fld h 1 0 := rfl
  have u1 : yC h 37 1 = fld h 2 2 := rfl
  have u2 : yC h 37 2 = fld h 3 2 := rfl
  have u64 : yC h 37 64 = fld h 4 2 := rfl
  have u78 : yC h 37 78 = fld h 5 2 := rfl
  refine zwW_p [(1, 2, 0)] (q := 1) (ls' := [(2, r), (0, a), (0, b)]) (st' := [(0, b)]) (by decide +kernel) rfl ?_
  refine zwif_eq (q := 27) (nx := 4) (by decide +kernel) (fun c1 => ?_) (fun c1 => ?_)
  · refine zwW_p [(1, 0, 2), (12, 0, 0)] (q := 29) (ls' := [(2, r), (0, a), (0, b)]) (st' := [(2, r), (2, r)]) (by decide +kernel) rfl ?_
    refine zwX_gi C (kd := 11) (bn := 6) (n := 17) (nx := 32) (by decide +kernel) G_r.2.1 G_r.1 rfl ?_
    intro v2 ev2 lv2 uv2
    have sv2 : v2 = (yC h) 68 k := Eq.trans ev2 (Eq.trans (congrArg (fun q => fld h q 6) P_r.1) (Eq.trans (Eq.symm (yC_f (h := h) (a := 68) (A := 2) (j := 6) (i := k) rfl P_r.2)) (Eq.trans (congrFun (congrFun (rfl : yC h = yC h) 68) k) rfl)))
    refine zwW_p [(1, 1, 0)] (q := 33) (ls' := [(2, r), (0, a), (0, b)]) (st' := [(0, a), (0, v2), (2, r)]) (by decide +kernel) rfl ?_
    refine zwW_adw (nx := 34) (by decide +kernel) ?_
    intro v3 ev3 lv3 uv3
    have Ev3 : v3 = w32 (((yC h) 68 k) + a) := by rw [ev3, sv2]
    refine zwX_pi C (kd := 11) (bn := 6) (n := 17) (nx := 37) (by decide +kernel) G_r.2.1 G_r.1 ⟨by omega, by omega⟩ ?_
    rintro h4 eh4 Ch4 Qh4
    have Zh4 : yC h4 = (zs (yC h) 68 k (w32 (((yC h) 68 k) + a))) := by rw [yC_w (a := 68) (A := 2) (j := 6) (k := k) C J rfl P_r eh4, Ev3]
    have Xh4 : zXR msx150_z (0) (0) h h4 := X.tr (c2 := 0) (s2 := 0) Qh4 (by decide +kernel) (by decide) (by decide)
    have Gh4_0 : gV h4 r := G_r.x Qh4
    have Jh4 : yR h4 := J.fr C Qh4 (by decide +kernel)
    have pr_h4 : r = zv h4 2 k ∧ ((k : Nat) : Int) < fld h4 2 2 := zpv C Qh4 (A := 2) (by decide) (by decide +kernel) P_r
    refine zwW_retv (nx := 38) (a := 0) (b := 0) (by decide +kernel) ?_
    exact ⟨Ch4, Xh4.le (by decide) (by decide), by refine Eq.trans Zh4 ?_; unfold yPut; (repeat' (first | rw [if_pos (by omega)] | rw [if_neg (by omega)])); all_goals (repeat' (first | rfl | omega | apply zs_cg)), by exact Jh4⟩
  · refine zwW_p [(1, 0, 2), (12, 0, 0)] (q := 6) (ls' := [(2, r), (0, a), (0, b)]) (st' := [(2, r), (2, r)]) (by decide +kernel) rfl ?_
    refine zwX_gi C (kd := 11) (bn := 5) (n := 17) (nx := 9) (by decide +kernel) G_r.2.1 G_r.1 rfl ?_
    intro v5 ev5 lv5 uv5
    have sv5 : v5 = (yC h) 67 k := Eq.trans ev5 (Eq.trans (congrArg (fun q => fld h q 5) P_r.1) (Eq.trans (Eq.symm (yC_f (h := h) (a := 67) (A := 2) (j := 5) (i := k) rfl P_r.2)) (Eq.trans (congrFun (congrFun (rfl : yC h = yC h) 67) k) rfl)))
    refine zwW_p [(1, 1, 0)] (q := 10) (ls' := [(2, r), (0, a), (0, b)]) (st' := [(0, a), (0, v5), (2, r)]) (by decide +kernel) rfl ?_
    refine zwW_adw (nx := 11) (by decide +kernel) ?_
    intro v6 ev6 lv6 uv6
    have Ev6 : v6 = w32 (((yC h) 67 k) + a) := by rw [ev6, sv5]
    refine zwX_pi C (kd := 11) (bn := 5) (n := 17) (nx := 14) (by decide +kernel) G_r.2.1 G_r.1 ⟨by omega, by omega⟩ ?_
    rintro h7 eh7 Ch7 Qh7
    have Zh7 : yC h7 = (zs (yC h) 67 k (w32 (((yC h) 67 k) + a))) := by rw [yC_w (a := 67) (A := 2) (j := 5) (k := k) C J rfl P_r eh7, Ev6]
    have Xh7 : zXR msx150_z (0) (0) h h7 := X.tr (c2 := 0) (s2 := 0) Qh7 (by decide +kernel) (by decide) (by decide)
    have Gh7_0 : gV h7 r := G_r.x Qh7
    have Jh7 : yR h7 := J.fr C Qh7 (by decide +kernel)
    have pr_h7 : r = zv h7 2 k ∧ ((k : Nat) : Int) < fld h7 2 2 := zpv C Qh7 (A := 2) (by decide) (by decide +kernel) P_r
    refine zwW_p [(1, 0, 2), (12, 0, 0)] (q := 16) (ls' := [(2, r), (0, a), (0, b)]) (st' := [(2, r), (2, r)]) (by decide +kernel) rfl ?_
    refine zwX_gi Ch7 (kd := 11) (bn := 12) (n := 17) (nx := 19) (by decide +kernel) Gh7_0.2.1 Gh7_0.1 rfl ?_
    intro v8 ev8 lv8 uv8
    have sv8 : v8 = (yC h) 75 k := Eq.trans ev8 (Eq.trans (congrArg (fun q => fld h7 q 12) pr_h7.1) (Eq.trans (Eq.symm (yC_f (h := h7) (a := 75) (A := 2) (j := 12) (i := k) rfl pr_h7.2)) (Eq.trans (congrFun (congrFun Zh7 75) k) (Eq.trans (zs_na (by decide) : (zs (yC h) 67 k (w32 (((yC h) 67 k) + a))) 75 k = (yC h) 75 k) rfl))))
    refine zwW_p [(1, 1, 0)] (q := 20) (ls' := [(2, r), (0, a), (0, b)]) (st' := [(0, a), (0, v8), (2, r)]) (by decide +kernel) rfl ?_
    refine zwW_adw (nx := 21) (by decide +kernel) ?_
    intro v9 ev9 lv9 uv9
    have Ev9 : v9 = w32 (((yC h) 75 k) + a) := by rw [ev9, sv8]
    refine zwX_pi Ch7 (kd := 11) (bn := 12) (n := 17) (nx := 24) (by decide +kernel) Gh7_0.2.1 Gh7_0.1 ⟨by omega, by omega⟩ ?_
    rintro h10 eh10 Ch10 Qh10
    have Zh10 : yC h10 = (zs (zs (yC h) 67 k (w32 (((yC h) 67 k) + a))) 75 k (w32 (((yC h) 75 k) + a))) := by rw [yC_w (a := 75) (A := 2) (j := 12) (k := k) Ch7 Jh7 rfl pr_h7 eh10, Zh7, Ev9]
    have Xh10 : zXR msx150_z (0) (0) h h10 := Xh7.tr (c2 := 0) (s2 := 0) Qh10 (by decide +kernel) (by decide) (by decide)
    have Gh10_0 : gV h10 r := Gh7_0.x Qh10
    have Jh10 : yR h10 := Jh7.fr Ch7 Qh10 (by decide +kernel)
    have pr_h10 : r = zv h10 2 k ∧ ((k : Nat) : Int) < fld h10 2 2 := zpv Ch7 Qh10 (A := 2) (by decide) (by decide +kernel) pr_h7
    refine zwW_p [(24, 37, 0)] (q := 37) (ls' := [(2, r), (0, a), (0, b)]) (st' := []) (by decide +kernel) rfl ?_
    refine zwW_retv (nx := 38) (a := 0) (b := 0) (by decide +kernel) ?_
    exact ⟨Ch10, Xh10.le (by decide) (by decide), by refine Eq.trans Zh10 ?_; unfold yPut; (repeat' (first | rw [if_pos (by omega)] | rw [if_neg (by omega)])); all_goals (repeat' (first | rfl | omega | apply zs_cg)), by exact Jh10⟩
def msx51_z : Zms := [(1001, 1001, 5, 6), (1011, 1011, 5, 6), (1011, 1011, 6, 7), (1011, 1011, 12, 13)]
-- WheelLand.bring(II)I
theorem x51_z {sc : List Int} (h : Hp) (C : CI h) (a b : Int) (q_a : -2147483648 ≤ a ∧ a ≤ 2147483647) (q_b : -2147483648 ≤ b ∧ b ≤ 2147483647) (J : yR h) (PF8 : yF8 (yC h)) (ok : yOK (yC h)) (RM : yRm (yC h)) : zwC sc 6 51 [(2, 1), (0, a), (0, b)] h (zwRt 0 (fun x g => CI g ∧ zXR msx51_z (0) (0) h g ∧ (-2147483648 ≤ x ∧ x ≤ 2147483647) ∧ (x = yBrA (yC h) a b) ∧ (yC g = yBrF (yC h) a b) ∧ (yR g))) := by
  refine zwC_of (D := 5) 5 (by decide +kernel) rfl (ls := [(2, 1), (0, a), (0, b), (9, 0), (9, 0)]) rfl ?_
  have X : zXR msx51_z 0 0 h h := zXR.rf _ _
  have u0 : yC h 37 0 = fld h 1 0 := rfl
  have u1 : yC h 37 1 = fld h 2 2 := rfl
  have u2 : yC h 37 2 = fld h 3 2 := rfl
  have u64 : yC h 37 64 = fld h 4 2 := rfl
  have u78 : yC h 37 78 = fld h 5 2 := rfl
  refine zwW_p [(1, 0, 2), (1, 1, 0)] (q := 2) (ls' := [(2, 1), (0, a), (0, b), (9, 0), (9, 0)]) (st' := [(0, a), (2, 1)]) (by decide +kernel) rfl ?_
  refine zwW_cm C.1 (op := 60) (k' := 138) (n := 1) (kd := 12) (m := 13) (nx := 5) (r := 1) (tl := [(0, a)]) (st' := []) (by decide +kernel) rfl (by decide +kernel) rfl (x138 h C a (by omega)) ?_
  rintro v2 _ ⟨rfl, ⟨rfl, c1⟩ | ⟨Gv2, c1⟩⟩
  · refine zwW_p [(2, 3, 2), (1, 0, 2), (1, 2, 0)] (q := 8) (ls' := [(2, 1), (0, a), (0, b), (2, 0), (9, 0)]) (st' := [(0, b), (2, 1)]) (by decide +kernel) rfl ?_
    refine zwW_cm C.1 (op := 60) (k' := 102) (n := 1) (kd := 12) (m := 13) (nx := 11) (r := 1) (tl := [(0, b)]) (st' := []) (by decide +kernel) rfl (by decide +kernel) rfl (x102 h C b (by omega)) ?_
    rintro v4 _ ⟨rfl, ⟨rfl, c3⟩ | ⟨Gv4, c3⟩⟩
    · refine zwW_p [(2, 4, 2), (1, 3, 2)] (q := 14) (ls' := [(2, 1), (0, a), (0, b), (2, 0), (2, 0)]) (st' := [(2, 0)]) (by decide +kernel) rfl ?_
      refine zwnu_eq (q := 63) (nx := 17) (by decide +kernel) (by decide) (fun c5 => ?_) (fun c5 => ?_)
      · refine zwW_p [(0, -1, 0)] (q := 64) (ls' := [(2, 1), (0, a), (0, b), (2, 0), (2, 0)]) (st' := [(0, -1)]) (by decide +kernel) rfl ?_
        refine zwW_ret (nx := 65) (a := 0) (b := 0) (by decide +kernel) rfl (Or.inl rfl) ?_
        exact ⟨C, X.le (by decide) (by decide), by omega, by first | (exfalso; omega) | (unfold yBrA; (repeat' (first | rw [if_pos (by omega)] | rw [if_neg (by omega)])); all_goals (first | rfl | omega)), by first | (exfalso; omega) | (refine Eq.trans (rfl : yC h = yC h) ?_; unfold yBrF; (repeat' (first | rw [if_pos (by omega)] | rw [if_neg (by omega)])); all_goals (first | rfl | omega)), by exact J⟩
      · exfalso; omega
    · have lv4 := Gv4.1
      have ev4 := c3.2.2
      have pv4 : v4 = zv h 2 b.toNat ∧ ((b.toNat : Nat) : Int) < fld h 2 2 := ⟨ev4, by omega⟩
      refine zwW_p [(2, 4, 2), (1, 3, 2)] (q := 14) (ls' := [(2, 1), (0, a), (0, b), (2, 0), (2, v4)]) (st' := [(2, 0)]) (by decide +kernel) rfl ?_
      refine zwnu_eq (q := 63) (nx := 17) (by decide +kernel) (by decide) (fun c6 => ?_) (fun c6 => ?_)
      · refine zwW_p [(0, -1, 0)] (q := 64) (ls' := [(2, 1), (0, a), (0, b), (2, 0), (2, v4)]) (st' := [(0, -1)]) (by decide +kernel) rfl ?_
        refine zwW_ret (nx := 65) (a := 0) (b := 0) (by decide +kernel) rfl (Or.inl rfl) ?_
        exact ⟨C, X.le (by decide) (by decide), by omega, by first | (exfalso; omega) | (unfold yBrA; (repeat' (first | rw [if_pos (by omega)] | rw [if_neg (by omega)])); all_goals (first | rfl | omega)), by first | (exfalso; omega) | (refine Eq.trans (rfl : yC h = yC h) ?_; unfold yBrF; (repeat' (first | rw [if_pos (by omega)] | rw [if_neg (by omega)])); all_goals (first | rfl | omega)), by exact J⟩
      · exfalso; omega
  · have lv2 := Gv2.1
    have ev2 := c1.2.2
    have pv2 : v2 = zv h 5 a.toNat ∧ ((a.toNat : Nat) : Int) < fld h 5 2 := ⟨ev2, by omega⟩
    refine zwW_p [(2, 3, 2), (1, 0, 2), (1, 2, 0)] (q := 8) (ls' := [(2, 1), (0, a), (0, b), (2, v2), (9, 0)]) (st' := [(0, b), (2, 1)]) (by decide +kernel) rfl ?_
    refine zwW_cm C.1 (op := 60) (k' := 102) (n := 1) (kd := 12) (m := 13) (nx := 11) (r := 1) (tl := [(0, b)]) (st' := []) (by decide +kernel) rfl (by decide +kernel) rfl (x102 h C b (by omega)) ?_
    rintro v8 _ ⟨rfl, ⟨rfl, c7⟩ | ⟨Gv8, c7⟩⟩
    · refine zwW_p [(2, 4, 2), (1, 3, 2)] (q := 14) (ls' := [(2, 1), (0, a), (0, b), (2, v2), (2, 0)]) (st' := [(2, v2)]) (by decide +kernel) rfl ?_
      refine zwnu_eq (q := 63) (nx := 17) (by decide +kernel) (by omega) (fun c9 => ?_) (fun c9 => ?_)
      · exfalso; omega
      · refine zwW_p [(1, 4, 2)] (q := 19) (ls' := [(2, 1), (0, a), (0, b), (2, v2), (2, 0)]) (st' := [(2, 0)]) (by decide +kernel) rfl ?_
        refine zwnu_eq (q := 63) (nx := 22) (by decide +kernel) (by decide) (fun c10 => ?_) (fun c10 => ?_)
        · refine zwW_p [(0, -1, 0)] (q := 64) (ls' := [(2, 1), (0, a), (0, b), (2, v2), (2, 0)]) (st' := [(0, -1)]) (by decide +kernel) rfl ?_
          refine zwW_ret (nx := 65) (a := 0) (b := 0) (by decide +kernel) rfl (Or.inl rfl) ?_
          exact ⟨C, X.le (by decide) (by decide), by omega, by first | (exfalso; omega) | (unfold yBrA; (repeat' (first | rw [if_pos (by omega)] | rw [if_neg (by omega)])); all_goals (first | rfl | omega)), by first | (exfalso; omega) | (refine Eq.trans (rfl : yC h = yC h) ?_; unfold yBrF; (repeat' (first | rw [if_pos (by omega)] | rw [if_neg (by omega)])); all_goals (first | rfl | omega)), by exact J⟩
        · exfalso; omega
    · have lv8 := Gv8.1
      have ev8 := c7.2.2
      have pv8 : v8 = zv h 2 b.toNat ∧ ((b.toNat : Nat) : Int) < fld h 2 2 := ⟨ev8, by omega⟩
      refine zwW_p [(2, 4, 2), (1, 3, 2)] (q := 14) (ls' := [(2, 1), (0, a), (0, b), (2, v2), (2, v8)]) (st' := [(2, v2)]) (by decide +kernel) rfl ?_
      refine zwnu_eq (q := 63) (nx := 17) (by decide +kernel) (by omega) (fun c11 => ?_) (fun c11 => ?_)
      · exfalso; omega
      · refine zwW_p [(1, 4, 2)] (q := 19) (ls' := [(2, 1), (0, a), (0, b), (2, v2), (2, v8)]) (st' := [(2, v8)]) (by decide +kernel) rfl ?_
        refine zwnu_eq (q := 63) (nx := 22) (by decide +kernel) (by omega) (fun c12 => ?_) (fun c12 => ?_)
        · exfalso; omega
        · refine zwW_p [(1, 3, 2)] (q := 23) (ls' := [(2, 1), (0, a), (0, b), (2, v2), (2, v8)]) (st' := [(2, v2)]) (by decide +kernel) rfl ?_
          refine zwX_gi C (kd := 1) (bn := 5) (n := 6) (nx := 26) (by decide +kernel) Gv2.2.1 Gv2.1 rfl ?_
          intro v13 ev13 lv13 uv13
          have sv13 : v13 = (yC h) 184 a.toNat := Eq.trans ev13 (Eq.trans (congrArg (fun q => fld h q 5) pv2.1) (Eq.trans (Eq.symm (yC_f (h := h) (a := 184) (A := 5) (j := 5) (i := a.toNat) rfl pv2.2)) (Eq.trans (congrFun (congrFun (rfl : yC h = yC h) 184) a.toNat) rfl)))
          refine zwW_p [(0, -1, 0)] (q := 27) (ls' := [(2, 1), (0, a), (0, b), (2, v2), (2, v8)]) (st' := [(0, -1), (0, v13)]) (by decide +kernel) rfl ?_
          refine zwic_ne (q := 63) (nx := 30) (by decide +kernel) (fun c14 => ?_) (fun c14 => ?_)
          · refine zwW_p [(0, -1, 0)] (q := 64) (ls' := [(2, 1), (0, a), (0, b), (2, v2), (2, v8)]) (st' := [(0, -1)]) (by decide +kernel) rfl ?_
            refine zwW_ret (nx := 65) (a := 0) (b := 0) (by decide +kernel) rfl (Or.inl rfl) ?_
            exact ⟨C, X.le (by decide) (by decide), by omega, by first | (exfalso; omega) | (unfold yBrA; (repeat' (first | rw [if_pos (by omega)] | rw [if_neg (by omega)])); all_goals (first | rfl | omega)), by first | (exfalso; omega) | (refine Eq.trans (rfl : yC h = yC h) ?_; unfold yBrF; (repeat' (first | rw [if_pos (by omega)] | rw [if_neg (by omega)])); all_goals (first | rfl | omega)), by exact J⟩
          · refine zwW_p [(1, 0, 2), (1, 3, 2)] (q := 32) (ls' := [(2, 1), (0, a), (0, b), (2, v2), (2, v8)]) (st' := [(2, v2), (2, 1)]) (by decide +kernel) rfl ?_
            refine zwW_get (kd := 1) (bn := 1) (t := 2) (n := 6) (nx := 35) (by decide +kernel) Gv2.2.1 rfl ?_
            obtain ⟨v15, ev15⟩ : ∃ z, z = fld h v2 1 := ⟨_, rfl⟩
            rw [← ev15]
            have Gv15 : gH h v15 := by rw [ev15]; exact Gv2.2.2.2
            have lv15 := Gv15.1
            have qv15 : yC h 181 a.toNat = (yC h) 181 a.toNat := Eq.trans (congrFun (congrFun (rfl : yC h = yC h) 181) a.toNat) rfl
            have wv15 := J.r (a := 181) (A := 5) (j := 1) (B := 3) (i := a.toNat) rfl pv2.2
            rw [qv15] at wv15
            have pv15 : v15 = zv h 3 (((yC h) 181 a.toNat).toNat) ∧ ((((yC h) 181 a.toNat).toNat : Nat) : Int) < fld h 3 2 := ⟨by rw [ev15, pv2.1]; exact wv15.2.2, wv15.2.1⟩
            refine zwW_get (kd := 4) (bn := 1) (t := 2) (n := 19) (nx := 38) (by decide +kernel) Gv15.2.1 rfl ?_
            obtain ⟨v16, ev16⟩ : ∃ z, z = fld h v15 1 := ⟨_, rfl⟩
            rw [← ev16]
            have Gv16 : gV h v16 := by rw [ev16]; exact Gv15.2.2
            have lv16 := Gv16.1
            have qv16 : yC h 79 (((yC h) 181 a.toNat).toNat) = (yC h) 79 (((yC h) 181 a.toNat).toNat) := Eq.trans (congrFun (congrFun (rfl : yC h = yC h) 79) (((yC h) 181 a.toNat).toNat)) rfl
            have wv16 := J.r (a := 79) (A := 3) (j := 1) (B := 2) (i := ((yC h) 181 a.toNat).toNat) rfl pv15.2
            rw [qv16] at wv16
            have pv16 : v16 = zv h 2 (((yC h) 79 (((yC h) 181 a.toNat).toNat)).toNat) ∧ ((((yC h) 79 (((yC h) 181 a.toNat).toNat)).toNat : Nat) : Int) < fld h 2 2 := ⟨by rw [ev16, pv15.1]; exact wv16.2.2, wv16.2.1⟩
            refine zwW_p [(1, 4, 2)] (q := 40) (ls' := [(2, 1), (0, a), (0, b), (2, v2), (2, v8)]) (st' := [(2, v8), (2, v16), (2, 1)]) (by decide +kernel) rfl ?_
            refine zwW_cm C.1 (op := 60) (k' := 105) (n := 2) (kd := 12) (m := 13) (nx := 43) (r := 1) (tl := [(2, v16), (2, v8)]) (st' := []) (by decide +kernel) rfl (by decide +kernel) rfl (x105_z h C v16 v8 Gv16 Gv8 J (((yC h) 79 (((yC h) 181 a.toNat).toNat)).toNat) pv16 b.toNat pv8 PF8) ?_
            rintro v17 _ ⟨rfl, f18, f19, f20⟩
            have sv17 : v17 = yFarq (yC h) (((yC h) 79 (((yC h) 181 a.toNat).toNat)).toNat) b.toNat := by rw [f20]
            refine zwW_p [(0, -1, 0)] (q := 44) (ls' := [(2, 1), (0, a), (0, b), (2, v2), (2, v8)]) (st' := [(0, -1), (0, v17)]) (by decide +kernel) rfl ?_
            refine zwic_eq (q := 63) (nx := 47) (by decide +kernel) (fun c21 => ?_) (fun c21 => ?_)
            · refine zwW_p [(0, -1, 0)] (q := 64) (ls' := [(2, 1), (0, a), (0, b), (2, v2), (2, v8)]) (st' := [(0, -1)]) (by decide +kernel) rfl ?_
              refine zwW_ret (nx := 65) (a := 0) (b := 0) (by decide +kernel) rfl (Or.inl rfl) ?_
              exact ⟨C, X.le (by decide) (by decide), by omega, by first | (exfalso; omega) | (unfold yBrA; (repeat' (first | rw [if_pos (by omega)] | rw [if_neg (by omega)])); all_goals (first | rfl | omega)), by first | (exfalso; omega) | (refine Eq.trans (rfl : yC h = yC h) ?_; unfold yBrF; (repeat' (first | rw [if_pos (by omega)] | rw [if_neg (by omega)])); all_goals (first | rfl | omega)), by exact J⟩
            · refine zwW_p [(1, 4, 2), (1, 3, 2)] (q := 50) (ls' := [(2, 1), (0, a), (0, b), (2, v2), (2, v8)]) (st' := [(2, v2), (2, v8)]) (by decide +kernel) rfl ?_
              refine zwX_gi C (kd := 1) (bn := 3) (n := 6) (nx := 53) (by decide +kernel) Gv2.2.1 Gv2.1 rfl ?_
              intro v22 ev22 lv22 uv22
              have sv22 : v22 = (yC h) 183 a.toNat := Eq.trans ev22 (Eq.trans (congrArg (fun q => fld h q 3) pv2.1) (Eq.trans (Eq.symm (yC_f (h := h) (a := 183) (A := 5) (j := 3) (i := a.toNat) rfl pv2.2)) (Eq.trans (congrFun (congrFun (rfl : yC h = yC h) 183) a.toNat) rfl)))
              refine zwW_p [(1, 3, 2)] (q := 54) (ls' := [(2, 1), (0, a), (0, b), (2, v2), (2, v8)]) (st' := [(2, v2), (0, v22), (2, v8)]) (by decide +kernel) rfl ?_
              refine zwW_get (kd := 1) (bn := 4) (t := 0) (n := 6) (nx := 57) (by decide +kernel) Gv2.2.1 rfl ?_
              obtain ⟨v23, ev23⟩ : ∃ z, z = fld h v2 4 := ⟨_, rfl⟩
              rw [← ev23]
              have sv23 : v23 = (yC h) 185 a.toNat := Eq.trans ev23 (Eq.trans (congrArg (fun q => fld h q 4) pv2.1) (Eq.trans (Eq.symm (yC_f (h := h) (a := 185) (A := 5) (j := 4) (i := a.toNat) rfl pv2.2)) (Eq.trans (congrFun (congrFun (rfl : yC h = yC h) 185) a.toNat) rfl)))
              have RM57 := RM a.toNat b.toNat (by omega) (by omega) (by omega)
              have W57 : w32 (yC h 68 b.toNat + v22) = yC h 68 b.toNat + v22 := w32_id ⟨by omega, by omega⟩
              have W58 : w32 (yC h 67 b.toNat + v22) = yC h 67 b.toNat + v22 := w32_id ⟨by omega, by omega⟩
              refine zwW_cv (op := 60) (k' := 149) (n := 2) (kd := 11) (m := 17) (nx := 60) (r := v8) (tl := [(0, v22), (0, v23)]) (st' := []) (by decide +kernel) rfl (by decide +kernel) Gv8.2.1 (x149_z h C v8 v22 v23 Gv8 (by omega) J b.toNat pv8) rfl ?_
              rintro x _ ⟨rfl, ⟨rfl, c24⟩ | ⟨rfl, c24⟩⟩
              · refine zwif_ne (q := 65) (nx := 63) (by decide +kernel) (fun c25 => ?_) (fun c25 => ?_)
                · refine zwW_p [(1, 3, 2), (1, 2, 0)] (q := 67) (ls' := [(2, 1), (0, a), (0, b), (2, v2), (2, v8)]) (st' := [(0, b), (2, v2)]) (by decide +kernel) rfl ?_
                  refine zwX_pi C (kd := 1) (bn := 5) (n := 6) (nx := 70) (by decide +kernel) Gv2.2.1 Gv2.1 ⟨by omega, by omega⟩ ?_
                  rintro h26 eh26 Ch26 Qh26
                  have Zh26 : yC h26 = (zs (yC h) 184 a.toNat b) := by rw [yC_w (a := 184) (A := 5) (j := 5) (k := a.toNat) C J rfl pv2 eh26]
                  have Xh26 : zXR msx51_z (0) (0) h h26 := X.tr (c2 := 0) (s2 := 0) Qh26 (by decide +kernel) (by decide) (by decide)
                  have Gh26_0 : gC h26 v2 := Gv2.x Qh26
                  have Gh26_1 : gV h26 v8 := Gv8.x Qh26
                  have Jh26 : yR h26 := J.fr C Qh26 (by decide +kernel)
                  have pv2_h26 : v2 = zv h26 5 a.toNat ∧ ((a.toNat : Nat) : Int) < fld h26 5 2 := zpv C Qh26 (A := 5) (by decide) (by decide +kernel) pv2
                  have pv8_h26 : v8 = zv h26 2 b.toNat ∧ ((b.toNat : Nat) : Int) < fld h26 2 2 := zpv C Qh26 (A := 2) (by decide) (by decide +kernel) pv8
                  refine zwW_p [(1, 4, 2), (1, 3, 2)] (q := 73) (ls' := [(2, 1), (0, a), (0, b), (2, v2), (2, v8)]) (st' := [(2, v2), (2, v8)]) (by decide +kernel) rfl ?_
                  refine zwX_gi Ch26 (kd := 1) (bn := 3) (n := 6) (nx := 76) (by decide +kernel) Gh26_0.2.1 Gh26_0.1 rfl ?_
                  intro v27 ev27 lv27 uv27
                  have sv27 : v27 = (yC h) 183 a.toNat := Eq.trans ev27 (Eq.trans (congrArg (fun q => fld h26 q 3) pv2_h26.1) (Eq.trans (Eq.symm (yC_f (h := h26) (a := 183) (A := 5) (j := 3) (i := a.toNat) rfl pv2_h26.2)) (Eq.trans (congrFun (congrFun Zh26 183) a.toNat) (Eq.trans (zs_na (by decide) : (zs (yC h) 184 a.toNat b) 183 a.toNat = (yC h) 183 a.toNat) rfl))))
                  refine zwW_p [(1, 3, 2)] (q := 77) (ls' := [(2, 1), (0, a), (0, b), (2, v2), (2, v8)]) (st' := [(2, v2), (0, v27), (2, v8)]) (by decide +kernel) rfl ?_
                  refine zwW_get (kd := 1) (bn := 4) (t := 0) (n := 6) (nx := 80) (by decide +kernel) Gh26_0.2.1 rfl ?_
                  obtain ⟨v28, ev28⟩ : ∃ z, z = fld h26 v2 4 := ⟨_, rfl⟩
                  rw [← ev28]
                  have sv28 : v28 = (yC h) 185 a.toNat := Eq.trans ev28 (Eq.trans (congrArg (fun q => fld h26 q 4) pv2_h26.1) (Eq.trans (Eq.symm (yC_f (h := h26) (a := 185) (A := 5) (j := 4) (i := a.toNat) rfl pv2_h26.2)) (Eq.trans (congrFun (congrFun Zh26 185) a.toNat) (Eq.trans (zs_na (by decide) : (zs (yC h) 184 a.toNat b) 185 a.toNat = (yC h) 185 a.toNat) rfl))))
                  refine zwW_cvv (op := 60) (k' := 150) (n := 2) (kd := 11) (m := 17) (nx := 83) (r := v8) (tl := [(0, v27), (0, v28)]) (st' := []) (by decide +kernel) rfl (by decide +kernel) Gh26_1.2.1 (x150_z h26 Ch26 v8 v27 v28 Gh26_1 (by omega) Jh26 b.toNat pv8_h26) rfl ?_
                  rintro h31 ⟨Ch31, Qh31, f29, f30⟩
                  have Zh31 : yC h31 = (yPut (zs (yC h) 184 a.toNat b) b.toNat ((yC h) 183 a.toNat) ((yC h) 185 a.toNat)) := by rw [f29, Zh26, sv27, sv28]
                  have Xh31 : zXR msx51_z (0) (0) h h31 := Xh26.tr (c2 := 0) (s2 := 0) Qh31 (by decide +kernel) (by decide) (by decide)
                  have Gh31_0 : gC h31 v2 := Gh26_0.x Qh31
                  have Gh31_1 : gV h31 v8 := Gh26_1.x Qh31
                  have pv2_h31 : v2 = zv h31 5 a.toNat ∧ ((a.toNat : Nat) : Int) < fld h31 5 2 := zpv Ch26 Qh31 (A := 5) (by decide) (by decide +kernel) pv2_h26
                  have pv8_h31 : v8 = zv h31 2 b.toNat ∧ ((b.toNat : Nat) : Int) < fld h31 2 2 := zpv Ch26 Qh31 (A := 2) (by decide) (by decide +kernel) pv8_h26
                  have E83 : (yPut (zs (yC h) 184 a.toNat b) b.toNat ((yC h) 183 a.toNat) ((yC h) 185 a.toNat)) = yBrS (yC h) a.toNat b.toNat := yPut_br (by omega)
                  refine zwW_p [(1, 4, 2)] (q := 85) (ls' := [(2, 1), (0, a), (0, b), (2, v2), (2, v8)]) (st' := [(2, v8)]) (by decide +kernel) rfl ?_
                  refine zwX_gi Ch31 (kd := 11) (bn := 5) (n := 17) (nx := 88) (by decide +kernel) Gh31_1.2.1 Gh31_1.1 rfl ?_
                  intro v32 ev32 lv32 uv32
                  have sv32 : v32 = (yBrS (yC h) a.toNat b.toNat) 67 b.toNat := Eq.trans ev32 (Eq.trans (congrArg (fun q => fld h31 q 5) pv8_h31.1) (Eq.trans (Eq.symm (yC_f (h := h31) (a := 67) (A := 2) (j := 5) (i := b.toNat) rfl pv8_h31.2)) (Eq.trans (congrFun (congrFun (Zh31.trans E83) 67) b.toNat) rfl)))
                  refine zwW_p [(1, 4, 2)] (q := 90) (ls' := [(2, 1), (0, a), (0, b), (2, v2), (2, v8)]) (st' := [(2, v8), (0, v32)]) (by decide +kernel) rfl ?_
                  refine zwX_gi Ch31 (kd := 11) (bn := 6) (n := 17) (nx := 93) (by decide +kernel) Gh31_1.2.1 Gh31_1.1 rfl ?_
                  intro v33 ev33 lv33 uv33
                  have sv33 : v33 = (yBrS (yC h) a.toNat b.toNat) 68 b.toNat := Eq.trans ev33 (Eq.trans (congrArg (fun q => fld h31 q 6) pv8_h31.1) (Eq.trans (Eq.symm (yC_f (h := h31) (a := 68) (A := 2) (j := 6) (i := b.toNat) rfl pv8_h31.2)) (Eq.trans (congrFun (congrFun (Zh31.trans E83) 68) b.toNat) rfl)))
                  refine zwW_adw (nx := 94) (by decide +kernel) ?_
                  intro v34 ev34 lv34 uv34
                  have Ev34 : v34 = w32 (((yBrS (yC h) a.toNat b.toNat) 67 b.toNat) + ((yBrS (yC h) a.toNat b.toNat) 68 b.toNat)) := by rw [ev34, sv32, sv33]
                  refine zwW_ret (nx := 95) (a := 0) (b := 0) (by decide +kernel) rfl (Or.inl rfl) ?_
                  exact ⟨Ch31, Xh31.le (by decide) (by decide), by omega, by first | (exfalso; omega) | (unfold yBrA; (repeat' (first | rw [if_pos (by omega)] | rw [if_neg (by omega)])); all_goals (first | rfl | omega)), by first | (exfalso; omega) | (refine Eq.trans (Zh31.trans E83) ?_; unfold yBrF; (repeat' (first | rw [if_pos (by omega)] | rw [if_neg (by omega)])); all_goals (first | rfl | omega)), by exact f30⟩
                · exfalso; omega
              · refine zwif_ne (q := 65) (nx := 63) (by decide +kernel) (fun c35 => ?_) (fun c35 => ?_)
                · exfalso; omega
                · refine zwW_p [(0, -1, 0)] (q := 64) (ls' := [(2, 1), (0, a), (0, b), (2, v2), (2, v8)]) (st' := [(0, -1)]) (by decide +kernel) rfl ?_
                  refine zwW_ret (nx := 65) (a := 0) (b := 0) (by decide +kernel) rfl (Or.inl rfl) ?_
                  exact ⟨C, X.le (by decide) (by decide), by omega, by first | (exfalso; omega) | (unfold yBrA; (repeat' (first | rw [if_pos (by omega)] | rw [if_neg (by omega)])); all_goals (first | rfl | omega)), by first | (exfalso; omega) | (refine Eq.trans (rfl : yC h = yC h) ?_; unfold yBrF; (repeat' (first | rw [if_pos (by omega)] | rw [if_neg (by omega)])); all_goals (first | rfl | omega)), by exact J⟩
def msx3_z : Zms := [(2, 2, 0, 3)]
-- WheelLand.village(III)I
theorem x3_z {sc : List Int} (h : Hp) (C : CI h) (a b c : Int) (q_a : -2147483648 ≤ a ∧ a ≤ 2147483647) (q_b : -2147483648 ≤ b ∧ b ≤ 2147483647) (q_c : -2147483648 ≤ c ∧ c ≤ 2147483647) (J : yR h) (PD : zPd h) (hl : h.length ≤ 999930000) : zwC sc 7 3 [(2, 1), (0, a), (0, b), (0, c)] h (zwRt 0 (fun x g => CI g ∧ zXR msx3_z (3) (1174) h g ∧ (-2147483648 ≤ x ∧ x ≤ 2147483647) ∧ (zPd g) ∧ (x = yVilA (yC h) a b c) ∧ (yC g = yVilF (yC h) a b c) ∧ (yR g))) := by
  refine zwC_of (D := 6) 4 (by decide +kernel) rfl (ls := [(2, 1), (0, a), (0, b), (0, c)]) rfl ?_
  have X : zXR msx3_z 0 0 h h := zXR.rf _ _
  have u0 : yC h 37 0 = fld h 1 0 := rfl
  have u1 : yC h 37 1 = fld h 2 2 := rfl
  have b22 := zLb_2 C
  refine zwW_p [(1, 0, 2)] (q := 1) (ls' := [(2, 1), (0, a), (0, b), (0, c)]) (st' := [(2, 1)]) (by decide +kernel) rfl ?_
  refine zwW_gc C.1 (kd := 12) (bn := 2) (n := 13) (c := 2) (nx := 4) (by decide +kernel) ?_
  refine zwW_cm C.1 (op := 60) (k' := 96) (n := 0) (kd := 0) (m := 3) (nx := 7) (r := 2) (tl := []) (st' := []) (by decide +kernel) rfl (by decide +kernel) rfl (x96_2 C) ?_
  rintro v1 _ ⟨rfl, ev1⟩
  have bv1 := zLb_2 C
  have sv1 : v1 = (yC h) 37 1 := Eq.trans ev1 (Eq.trans (Eq.symm (yC_s (h := h) (i := 1) rfl)) (Eq.trans (congrFun (congrFun (rfl : yC h = yC h) 37) 1) rfl))
  refine zwW_p [(0, 8, 0)] (q := 9) (ls' := [(2, 1), (0, a), (0, b), (0, c)]) (st' := [(0, 8), (0, v1)]) (by decide +kernel) rfl ?_
  refine zwic_ge (q := 40) (nx := 12) (by decide +kernel) (fun c2 => ?_) (fun c2 => ?_)
  · refine zwW_p [(0, -1, 0)] (q := 41) (ls' := [(2, 1), (0, a), (0, b), (0, c)]) (st' := [(0, -1)]) (by decide +kernel) rfl ?_
    refine zwW_ret (nx := 42) (a := 0) (b := 0) (by decide +kernel) rfl (Or.inl rfl) ?_
    exact ⟨C, X.le (by decide) (by decide), by omega, by exact PD, by unfold yVilA; (repeat' (first | rw [if_pos (by omega)] | rw [if_neg (by omega)])); all_goals (first | rfl | omega), by refine Eq.trans (rfl : yC h = yC h) ?_; unfold yVilF; (repeat' (first | rw [if_pos (by omega)] | rw [if_neg (by omega)])); all_goals (repeat' (first | rfl | omega | apply zs_cg)), by exact J⟩
  · refine zwW_p [(1, 1, 0)] (q := 13) (ls' := [(2, 1), (0, a), (0, b), (0, c)]) (st' := [(0, a)]) (by decide +kernel) rfl ?_
    refine zwW_cs (k' := 97) (n := 1) (nx := 16) (as := [(0, a)]) (st' := []) (by decide +kernel) rfl (x97 h C a (by omega)) rfl ?_
    rintro x _ ⟨rfl, ⟨rfl, c3⟩ | ⟨rfl, c3⟩⟩
    · refine zwif_eq (q := 40) (nx := 19) (by decide +kernel) (fun c4 => ?_) (fun c4 => ?_)
      · exfalso; omega
      · refine zwW_p [(1, 2, 0), (0, 1, 0), (0, 9, 0)] (q := 23) (ls' := [(2, 1), (0, a), (0, b), (0, c)]) (st' := [(0, 9), (0, 1), (0, b)]) (by decide +kernel) rfl ?_
        refine zwW_cs (k' := 98) (n := 3) (nx := 26) (as := [(0, b), (0, 1), (0, 9)]) (st' := []) (by decide +kernel) rfl (x98 h C b 1 9 (by omega) (by omega) (by omega)) rfl ?_
        rintro x _ ⟨rfl, ⟨rfl, c5⟩ | ⟨rfl, c5⟩⟩
        · refine zwif_ne (q := 40) (nx := 29) (by decide +kernel) (fun c6 => ?_) (fun c6 => ?_)
          · refine zwW_p [(0, -1, 0)] (q := 41) (ls' := [(2, 1), (0, a), (0, b), (0, c)]) (st' := [(0, -1)]) (by decide +kernel) rfl ?_
            refine zwW_ret (nx := 42) (a := 0) (b := 0) (by decide +kernel) rfl (Or.inl rfl) ?_
            exact ⟨C, X.le (by decide) (by decide), by omega, by exact PD, by unfold yVilA; (repeat' (first | rw [if_pos (by omega)] | rw [if_neg (by omega)])); all_goals (first | rfl | omega), by refine Eq.trans (rfl : yC h = yC h) ?_; unfold yVilF; (repeat' (first | rw [if_pos (by omega)] | rw [if_neg (by omega)])); all_goals (repeat' (first | rfl | omega | apply zs_cg)), by exact J⟩
          · exfalso; omega
        · refine zwif_ne (q := 40) (nx := 29) (by decide +kernel) (fun c7 => ?_) (fun c7 => ?_)
          · exfalso; omega
          · refine zwW_p [(1, 3, 0), (0, 0, 0), (0, 9999, 0)] (q := 34) (ls' := [(2, 1), (0, a), (0, b), (0, c)]) (st' := [(0, 9999), (0, 0), (0, c)]) (by decide +kernel) rfl ?_
            refine zwW_cs (k' := 98) (n := 3) (nx := 37) (as := [(0, c), (0, 0), (0, 9999)]) (st' := []) (by decide +kernel) rfl (x98 h C c 0 9999 (by omega) (by omega) (by omega)) rfl ?_
            rintro x _ ⟨rfl, ⟨rfl, c8⟩ | ⟨rfl, c8⟩⟩
            · refine zwif_eq (q := 42) (nx := 40) (by decide +kernel) (fun c9 => ?_) (fun c9 => ?_)
              · exfalso; omega
              · refine zwW_p [(0, -1, 0)] (q := 41) (ls' := [(2, 1), (0, a), (0, b), (0, c)]) (st' := [(0, -1)]) (by decide +kernel) rfl ?_
                refine zwW_ret (nx := 42) (a := 0) (b := 0) (by decide +kernel) rfl (Or.inl rfl) ?_
                exact ⟨C, X.le (by decide) (by decide), by omega, by exact PD, by unfold yVilA; (repeat' (first | rw [if_pos (by omega)] | rw [if_neg (by omega)])); all_goals (first | rfl | omega), by refine Eq.trans (rfl : yC h = yC h) ?_; unfold yVilF; (repeat' (first | rw [if_pos (by omega)] | rw [if_neg (by omega)])); all_goals (repeat' (first | rfl | omega | apply zs_cg)), by exact J⟩
            · refine zwif_eq (q := 42) (nx := 40) (by decide +kernel) (fun c10 => ?_) (fun c10 => ?_)
              · refine zwW_p [(1, 0, 2)] (q := 43) (ls' := [(2, 1), (0, a), (0, b), (0, c)]) (st' := [(2, 1)]) (by decide +kernel) rfl ?_
                refine zwW_gc C.1 (kd := 12) (bn := 2) (n := 13) (c := 2) (nx := 46) (by decide +kernel) ?_
                refine zwW_new (kd := 11) (n := 17) (nx := 49) (by decide +kernel) rfl rfl ?_
                rintro h11 r12 eh11 er12
                have Oh11 : zOld h h11 := by rw [eh11]; exact zOld.app _
                have Yh11 : zDy h11 := by rw [eh11]; exact C.2.1.app (fun x hx => by rw [List.eq_of_mem_replicate hx]; decide)
                have Ch11 : CI h11 := C.old Oh11 Yh11
                have Xh11 := Oh11.X C
                have th11_2_2 : fld h11 2 2 = fld h 2 2 := Xh11.f (a1 := 2) (a2 := 2) (j1 := 2) (j2 := 3) (by decide +kernel) ⟨by decide, by decide⟩ ⟨by decide, by decide⟩ ⟨by decide, by decide⟩
                have Zh11 : yC h11 = (yC h) := (yC_fr C Xh11 (by decide +kernel) (C.1.b (a1 := 37) (a2 := 37) (j1 := 86) (j2 := 87) (lo := 0) (hi := 6) (by decide +kernel) (r := 37) (j := 86) (by decide) (by decide) (by decide) (by decide)).2).trans (rfl : yC h = yC h)
                refine zwW_p [(12, 0, 0), (1, 0, 2)] (q := 51) (ls' := [(2, 1), (0, a), (0, b), (0, c)]) (st' := [(2, 1), (2, r12), (2, r12), (2, 2)]) (by decide +kernel) rfl ?_
                refine zwW_gc Ch11.1 (kd := 12) (bn := 2) (n := 13) (c := 2) (nx := 54) (by decide +kernel) ?_
                refine zwW_cm Ch11.1 (op := 60) (k' := 96) (n := 0) (kd := 0) (m := 3) (nx := 57) (r := 2) (tl := []) (st' := [(2, r12), (2, r12), (2, 2)]) (by decide +kernel) rfl (by decide +kernel) rfl (x96_2 Ch11) ?_
                rintro v13 _ ⟨rfl, ev13⟩
                have bv13 := zLb_2 Ch11
                have sv13 : v13 = (yC h) 37 1 := Eq.trans ev13 (Eq.trans (Eq.symm (yC_s (h := h11) (i := 1) rfl)) (Eq.trans (congrFun (congrFun Zh11 37) 1) rfl))
                refine zwW_p [(1, 1, 0), (1, 2, 0), (1, 3, 0)] (q := 60) (ls' := [(2, 1), (0, a), (0, b), (0, c)]) (st' := [(0, c), (0, b), (0, a), (0, v13), (2, r12), (2, r12), (2, 2)]) (by decide +kernel) rfl ?_
                subst er12 eh11
                refine zwW_cvv (op := 62) (k' := 99) (n := 4) (kd := 11) (m := 17) (nx := 63) (r := ((h.length + 1 : Nat) : Int)) (tl := [(0, v13), (0, a), (0, b), (0, c)]) (st' := [(2, ((h.length + 1 : Nat) : Int)), (2, 2)]) (by decide +kernel) rfl (by decide +kernel) (sh_new _ _) (x99 h C v13 a b c (by omega) (by omega) (by omega) (by omega)) rfl ?_
                rintro h14 ⟨Ch14, Qh14, Nh14, Fh14_0, Fh14_1⟩
                obtain ⟨nr12, err12⟩ : ∃ z, z = ((h.length + 1 : Nat) : Int) := ⟨_, rfl⟩
                rw [← err12] at Nh14 ⊢
                try rw [← err12] at Fh14_0
                try rw [← err12] at Fh14_1
                have Xh14 : zXR msx3_z (2) (174) h h14 := X.tr (c2 := 2) (s2 := 174) Qh14 (by decide +kernel) (by decide) (by decide)
                have Zh14 : yC h14 = (yC h) := (yC_fr C Qh14 (by decide +kernel) (C.1.b (a1 := 37) (a2 := 37) (j1 := 86) (j2 := 87) (lo := 0) (hi := 6) (by decide +kernel) (r := 37) (j := 86) (by decide) (by decide) (by decide) (by decide)).2).trans (rfl : yC h = yC h)
                have Jh14 : yR h14 := J.fr C Qh14 (by decide +kernel)
                have th14_2_2 : fld h14 2 2 = fld h 2 2 := Qh14.f (a1 := 2) (a2 := 2) (j1 := 2) (j2 := 3) (by decide +kernel) ⟨by decide, by decide⟩ ⟨by decide, by decide⟩ ⟨by decide, by decide⟩
                have PDh14 : zPd h14 := PD.fr C Qh14 (by decide +kernel)
                have lnr12 := Nh14.1
                refine zwW_cm Ch14.1 (op := 60) (k' := 100) (n := 1) (kd := 0) (m := 3) (nx := 66) (r := 2) (tl := [(2, nr12)]) (st' := []) (by decide +kernel) rfl (by decide +kernel) rfl (x100_2 Ch14 Nh14 (by omega) (by have := Xh14.hl C Ch14 (by decide) hl; omega)) ?_
                rintro x h16 ⟨rfl, Ah16⟩
                have Ch16 := Ah16.1
                have Qh16 : zXR [(2, 2, 0, 3)] (1) (1000) h14 h16 := Ah16.2.1
                have zh16 : fld h16 2 2 = fld h14 2 2 + 1 := Ah16.2.2.1
                have PN := zPd_vil PDh14 Ch14 Ah16 Nh14 Fh14_0 (n := (yC h 37 1).toNat) (by omega) (zfreshP C Qh14 (by decide +kernel) rfl)
                have YLh16 := yC_vil (n := (yC h 37 1).toNat) Ch14 Ah16.1 Jh14 Ah16 Nh14 Fh14_0 Fh14_1 (by omega)
                have JLh16 := yR_vil (n := (yC h 37 1).toNat) Ch14 Jh14 Ah16 Nh14 Fh14_0 (by omega) (by omega) (by omega)
                have Zh16 : yC h16 = (yVil (yC h) (yC h 37 1).toNat a b c) := by rw [YLh16, Zh14]
                have Xh16 : zXR msx3_z (3) (1174) h h16 := Xh14.tr (c2 := 3) (s2 := 1174) Qh16 (by decide +kernel) (by decide) (by decide)
                refine zwW_p [(15, 0, 0)] (q := 67) (ls' := [(2, 1), (0, a), (0, b), (0, c)]) (st' := []) (by decide +kernel) rfl ?_
                refine zwW_p [(1, 0, 2)] (q := 68) (ls' := [(2, 1), (0, a), (0, b), (0, c)]) (st' := [(2, 1)]) (by decide +kernel) rfl ?_
                refine zwW_gc Ch16.1 (kd := 12) (bn := 2) (n := 13) (c := 2) (nx := 71) (by decide +kernel) ?_
                refine zwW_cm Ch16.1 (op := 60) (k' := 96) (n := 0) (kd := 0) (m := 3) (nx := 74) (r := 2) (tl := []) (st' := []) (by decide +kernel) rfl (by decide +kernel) rfl (x96_2 Ch16) ?_
                rintro v17 _ ⟨rfl, ev17⟩
                have bv17 := zLb_2 Ch16
                have sv17 : v17 = (yVil (yC h) (yC h 37 1).toNat a b c) 37 1 := Eq.trans ev17 (Eq.trans (Eq.symm (yC_s (h := h16) (i := 1) rfl)) (Eq.trans (congrFun (congrFun Zh16 37) 1) rfl))
                refine zwW_p [(0, 1, 0)] (q := 75) (ls' := [(2, 1), (0, a), (0, b), (0, c)]) (st' := [(0, 1), (0, v17)]) (by decide +kernel) rfl ?_
                refine zwW_sub (nx := 76) (by decide +kernel) ⟨by omega, by omega⟩ ?_
                refine zwW_ret (nx := 77) (a := 0) (b := 0) (by decide +kernel) rfl (Or.inl rfl) ?_
                exact ⟨Ch16, Xh16.le (by decide) (by decide), by omega, by exact PN, by unfold yVilA; (repeat' (first | rw [if_pos (by omega)] | rw [if_neg (by omega)])); all_goals (first | rfl | omega), by refine Eq.trans Zh16 ?_; unfold yVilF; (repeat' (first | rw [if_pos (by omega)] | rw [if_neg (by omega)])); all_goals (repeat' (first | rfl | omega | apply zs_cg)), by exact JLh16⟩
              · exfalso; omega
    · refine zwif_eq (q := 40) (nx := 19) (by decide +kernel) (fun c18 => ?_) (fun c18 => ?_)
      · refine zwW_p [(0, -1, 0)] (q := 41) (ls' := [(2, 1), (0, a), (0, b), (0, c)]) (st' := [(0, -1)]) (by decide +kernel) rfl ?_
        refine zwW_ret (nx := 42) (a := 0) (b := 0) (by decide +kernel) rfl (Or.inl rfl) ?_
        exact ⟨C, X.le (by decide) (by decide), by omega, by exact PD, by unfold yVilA; (repeat' (first | rw [if_pos (by omega)] | rw [if_neg (by omega)])); all_goals (first | rfl | omega), by refine Eq.trans (rfl : yC h = yC h) ?_; unfold yVilF; (repeat' (first | rw [if_pos (by omega)] | rw [if_neg (by omega)])); all_goals (repeat' (first | rfl | omega | apply zs_cg)), by exact J⟩
      · exfalso; omega
def msx9_z : Zms := [(3, 3, 0, 3)]
-- WheelLand.house(II)I
theorem x9_z {sc : List Int} (h : Hp) (C : CI h) (a b : Int) (q_a : -2147483648 ≤ a ∧ a ≤ 2147483647) (q_b : -2147483648 ≤ b ∧ b ≤ 2147483647) (J : yR h) (hl : h.length ≤ 999930000) : zwC sc 7 9 [(2, 1), (0, a), (0, b)] h (zwRt 0 (fun x g => CI g ∧ zXR msx9_z (2) (1019) h g ∧ (-2147483648 ≤ x ∧ x ≤ 2147483647) ∧ (x = yHouA (yC h) a b) ∧ (yC g = yHouF (yC h) a b) ∧ (yR g))) := by
  refine zwC_of (D := 6) 4 (by decide +kernel) rfl (ls := [(2, 1), (0, a), (0, b), (9, 0)]) rfl ?_
  have X : zXR msx9_z 0 0 h h := zXR.rf _ _
  have u0 : yC h 37 0 = fld h 1 0 := rfl
  have u1 : yC h 37 1 = fld h 2 2 := rfl
  have u2 : yC h 37 2 = fld h 3 2 := rfl
  have b33 := zLb_3 C
  refine zwW_p [(1, 0, 2), (1, 1, 0)] (q := 2) (ls' := [(2, 1), (0, a), (0, b), (9, 0)]) (st' := [(0, a), (2, 1)]) (by decide +kernel) rfl ?_
  refine zwW_cm C.1 (op := 60) (k' := 102) (n := 1) (kd := 12) (m := 13) (nx := 5) (r := 1) (tl := [(0, a)]) (st' := []) (by decide +kernel) rfl (by decide +kernel) rfl (x102 h C a (by omega)) ?_
  rintro v2 _ ⟨rfl, ⟨rfl, c1⟩ | ⟨Gv2, c1⟩⟩
  · refine zwW_p [(2, 3, 2), (1, 3, 2)] (q := 7) (ls' := [(2, 1), (0, a), (0, b), (2, 0)]) (st' := [(2, 0)]) (by decide +kernel) rfl ?_
    refine zwnu_eq (q := 39) (nx := 10) (by decide +kernel) (by decide) (fun c3 => ?_) (fun c3 => ?_)
    · refine zwW_p [(0, -1, 0)] (q := 40) (ls' := [(2, 1), (0, a), (0, b), (2, 0)]) (st' := [(0, -1)]) (by decide +kernel) rfl ?_
      refine zwW_ret (nx := 41) (a := 0) (b := 0) (by decide +kernel) rfl (Or.inl rfl) ?_
      exact ⟨C, X.le (by decide) (by decide), by omega, by unfold yHouA; (repeat' (first | rw [if_pos (by omega)] | rw [if_neg (by omega)])); all_goals (first | rfl | omega), by refine Eq.trans (rfl : yC h = yC h) ?_; unfold yHouF; (repeat' (first | rw [if_pos (by omega)] | rw [if_neg (by omega)])); all_goals (repeat' (first | rfl | omega | apply zs_cg)), by exact J⟩
    · exfalso; omega
  · have lv2 := Gv2.1
    have ev2 := c1.2.2
    have pv2 : v2 = zv h 2 a.toNat ∧ ((a.toNat : Nat) : Int) < fld h 2 2 := ⟨ev2, by omega⟩
    refine zwW_p [(2, 3, 2), (1, 3, 2)] (q := 7) (ls' := [(2, 1), (0, a), (0, b), (2, v2)]) (st' := [(2, v2)]) (by decide +kernel) rfl ?_
    refine zwnu_eq (q := 39) (nx := 10) (by decide +kernel) (by omega) (fun c4 => ?_) (fun c4 => ?_)
    · exfalso; omega
    · refine zwW_p [(1, 0, 2)] (q := 11) (ls' := [(2, 1), (0, a), (0, b), (2, v2)]) (st' := [(2, 1)]) (by decide +kernel) rfl ?_
      refine zwW_gc C.1 (kd := 12) (bn := 3) (n := 13) (c := 3) (nx := 14) (by decide +kernel) ?_
      refine zwW_cm C.1 (op := 60) (k' := 96) (n := 0) (kd := 0) (m := 3) (nx := 17) (r := 3) (tl := []) (st' := []) (by decide +kernel) rfl (by decide +kernel) rfl (x96_3 C) ?_
      rintro v5 _ ⟨rfl, ev5⟩
      have bv5 := zLb_3 C
      have sv5 : v5 = (yC h) 37 2 := Eq.trans ev5 (Eq.trans (Eq.symm (yC_s (h := h) (i := 2) rfl)) (Eq.trans (congrFun (congrFun (rfl : yC h = yC h) 37) 2) rfl))
      refine zwW_p [(0, 20, 0)] (q := 19) (ls' := [(2, 1), (0, a), (0, b), (2, v2)]) (st' := [(0, 20), (0, v5)]) (by decide +kernel) rfl ?_
      refine zwic_ge (q := 39) (nx := 22) (by decide +kernel) (fun c6 => ?_) (fun c6 => ?_)
      · refine zwW_p [(0, -1, 0)] (q := 40) (ls' := [(2, 1), (0, a), (0, b), (2, v2)]) (st' := [(0, -1)]) (by decide +kernel) rfl ?_
        refine zwW_ret (nx := 41) (a := 0) (b := 0) (by decide +kernel) rfl (Or.inl rfl) ?_
        exact ⟨C, X.le (by decide) (by decide), by omega, by unfold yHouA; (repeat' (first | rw [if_pos (by omega)] | rw [if_neg (by omega)])); all_goals (first | rfl | omega), by refine Eq.trans (rfl : yC h = yC h) ?_; unfold yHouF; (repeat' (first | rw [if_pos (by omega)] | rw [if_neg (by omega)])); all_goals (repeat' (first | rfl | omega | apply zs_cg)), by exact J⟩
      · refine zwW_p [(1, 0, 2)] (q := 23) (ls' := [(2, 1), (0, a), (0, b), (2, v2)]) (st' := [(2, 1)]) (by decide +kernel) rfl ?_
        refine zwW_gs C.1 (kd := 12) (bn := 0) (n := 13) (t := 0) (lo := 0) (hi := 156) (nx := 26) (by decide +kernel) ?_
        intro v7 ev7 lv7 uv7
        have sv7 : v7 = (yC h) 37 0 := Eq.trans ev7 (Eq.trans (Eq.symm (yC_s (h := h) (i := 0) rfl)) (Eq.trans (congrFun (congrFun (rfl : yC h = yC h) 37) 0) rfl))
        refine zwW_p [(0, 156, 0)] (q := 29) (ls' := [(2, 1), (0, a), (0, b), (2, v2)]) (st' := [(0, 156), (0, v7)]) (by decide +kernel) rfl ?_
        refine zwic_ge (q := 39) (nx := 32) (by decide +kernel) (fun c8 => ?_) (fun c8 => ?_)
        · refine zwW_p [(0, -1, 0)] (q := 40) (ls' := [(2, 1), (0, a), (0, b), (2, v2)]) (st' := [(0, -1)]) (by decide +kernel) rfl ?_
          refine zwW_ret (nx := 41) (a := 0) (b := 0) (by decide +kernel) rfl (Or.inl rfl) ?_
          exact ⟨C, X.le (by decide) (by decide), by omega, by unfold yHouA; (repeat' (first | rw [if_pos (by omega)] | rw [if_neg (by omega)])); all_goals (first | rfl | omega), by refine Eq.trans (rfl : yC h = yC h) ?_; unfold yHouF; (repeat' (first | rw [if_pos (by omega)] | rw [if_neg (by omega)])); all_goals (repeat' (first | rfl | omega | apply zs_cg)), by exact J⟩
        · refine zwW_p [(1, 2, 0)] (q := 33) (ls' := [(2, 1), (0, a), (0, b), (2, v2)]) (st' := [(0, b)]) (by decide +kernel) rfl ?_
          refine zwW_cs (k' := 107) (n := 1) (nx := 36) (as := [(0, b)]) (st' := []) (by decide +kernel) rfl (x107 h C b (by omega)) rfl ?_
          rintro x _ ⟨rfl, ⟨rfl, c9⟩ | ⟨rfl, c9⟩⟩
          · refine zwif_ne (q := 41) (nx := 39) (by decide +kernel) (fun c10 => ?_) (fun c10 => ?_)
            · refine zwW_p [(1, 0, 2)] (q := 42) (ls' := [(2, 1), (0, a), (0, b), (2, v2)]) (st' := [(2, 1)]) (by decide +kernel) rfl ?_
              refine zwW_gc C.1 (kd := 12) (bn := 3) (n := 13) (c := 3) (nx := 45) (by decide +kernel) ?_
              refine zwW_new (kd := 4) (n := 19) (nx := 48) (by decide +kernel) rfl rfl ?_
              rintro h11 r12 eh11 er12
              have Oh11 : zOld h h11 := by rw [eh11]; exact zOld.app _
              have Yh11 : zDy h11 := by rw [eh11]; exact C.2.1.app (fun x hx => by rw [List.eq_of_mem_replicate hx]; decide)
              have Ch11 : CI h11 := C.old Oh11 Yh11
              have Xh11 := Oh11.X C
              have th11_3_2 : fld h11 3 2 = fld h 3 2 := Xh11.f (a1 := 3) (a2 := 3) (j1 := 2) (j2 := 3) (by decide +kernel) ⟨by decide, by decide⟩ ⟨by decide, by decide⟩ ⟨by decide, by decide⟩
              have Gh11_0 : gV h11 v2 := Gv2.x Xh11
              have Zh11 : yC h11 = (yC h) := (yC_fr C Xh11 (by decide +kernel) (C.1.b (a1 := 37) (a2 := 37) (j1 := 86) (j2 := 87) (lo := 0) (hi := 6) (by decide +kernel) (r := 37) (j := 86) (by decide) (by decide) (by decide) (by decide)).2).trans (rfl : yC h = yC h)
              refine zwW_p [(12, 0, 0), (1, 0, 2)] (q := 50) (ls' := [(2, 1), (0, a), (0, b), (2, v2)]) (st' := [(2, 1), (2, r12), (2, r12), (2, 3)]) (by decide +kernel) rfl ?_
              refine zwW_gc Ch11.1 (kd := 12) (bn := 3) (n := 13) (c := 3) (nx := 53) (by decide +kernel) ?_
              refine zwW_cm Ch11.1 (op := 60) (k' := 96) (n := 0) (kd := 0) (m := 3) (nx := 56) (r := 3) (tl := []) (st' := [(2, r12), (2, r12), (2, 3)]) (by decide +kernel) rfl (by decide +kernel) rfl (x96_3 Ch11) ?_
              rintro v13 _ ⟨rfl, ev13⟩
              have bv13 := zLb_3 Ch11
              have sv13 : v13 = (yC h) 37 2 := Eq.trans ev13 (Eq.trans (Eq.symm (yC_s (h := h11) (i := 2) rfl)) (Eq.trans (congrFun (congrFun Zh11 37) 2) rfl))
              refine zwW_p [(1, 3, 2), (1, 2, 0)] (q := 58) (ls' := [(2, 1), (0, a), (0, b), (2, v2)]) (st' := [(0, b), (2, v2), (0, v13), (2, r12), (2, r12), (2, 3)]) (by decide +kernel) rfl ?_
              subst er12 eh11
              refine zwW_cvv (op := 62) (k' := 108) (n := 3) (kd := 4) (m := 19) (nx := 61) (r := ((h.length + 1 : Nat) : Int)) (tl := [(0, v13), (2, v2), (0, b)]) (st' := [(2, ((h.length + 1 : Nat) : Int)), (2, 3)]) (by decide +kernel) rfl (by decide +kernel) (sh_new _ _) (x108 h C v13 v2 b (by omega) (by omega) Gv2) rfl ?_
              rintro h14 ⟨Ch14, Qh14, Nh14, Fh14_0⟩
              obtain ⟨nr12, err12⟩ : ∃ z, z = ((h.length + 1 : Nat) : Int) := ⟨_, rfl⟩
              rw [← err12] at Nh14 ⊢
              try rw [← err12] at Fh14_0
              have Xh14 : zXR msx9_z (1) (19) h h14 := X.tr (c2 := 1) (s2 := 19) Qh14 (by decide +kernel) (by decide) (by decide)
              have Gh14_0 : gV h14 v2 := Gv2.x Qh14
              have Zh14 : yC h14 = (yC h) := (yC_fr C Qh14 (by decide +kernel) (C.1.b (a1 := 37) (a2 := 37) (j1 := 86) (j2 := 87) (lo := 0) (hi := 6) (by decide +kernel) (r := 37) (j := 86) (by decide) (by decide) (by decide) (by decide)).2).trans (rfl : yC h = yC h)
              have Jh14 : yR h14 := J.fr C Qh14 (by decide +kernel)
              have pv2_h14 : v2 = zv h14 2 a.toNat ∧ ((a.toNat : Nat) : Int) < fld h14 2 2 := zpv C Qh14 (A := 2) (by decide) (by decide +kernel) pv2
              have th14_3_2 : fld h14 3 2 = fld h 3 2 := Qh14.f (a1 := 3) (a2 := 3) (j1 := 2) (j2 := 3) (by decide +kernel) ⟨by decide, by decide⟩ ⟨by decide, by decide⟩ ⟨by decide, by decide⟩
              have lnr12 := Nh14.1
              refine zwW_cm Ch14.1 (op := 60) (k' := 100) (n := 1) (kd := 0) (m := 3) (nx := 64) (r := 3) (tl := [(2, nr12)]) (st' := []) (by decide +kernel) rfl (by decide +kernel) rfl (x100_3 Ch14 Nh14 (by omega) (by have := Xh14.hl C Ch14 (by decide) hl; omega)) ?_
              rintro x h16 ⟨rfl, Ah16⟩
              have Ch16 := Ah16.1
              have Qh16 : zXR [(3, 3, 0, 3)] (1) (1000) h14 h16 := Ah16.2.1
              have zh16 : fld h16 3 2 = fld h14 3 2 + 1 := Ah16.2.2.1
              have YLh16 := yC_hou (n := (yC h 37 2).toNat) (w := a) Ch14 Jh14 Ah16 Nh14 Fh14_0 (by omega) pv2_h14.1 pv2_h14.2 (by omega)
              have JLh16 := yR_hou (n := (yC h 37 2).toNat) Ch14 Jh14 Ah16 Nh14 Fh14_0 (by omega) (by omega) pv2_h14.1 pv2_h14.2
              have Zh16 : yC h16 = (yHou (yC h) (yC h 37 2).toNat a (b / 1000) (b / 100 % 10) (b / 10 % 10) (b % 10)) := by rw [YLh16, Zh14]
              have Xh16 : zXR msx9_z (2) (1019) h h16 := Xh14.tr (c2 := 2) (s2 := 1019) Qh16 (by decide +kernel) (by decide) (by decide)
              have Gh16_0 : gV h16 v2 := Gh14_0.x Qh16
              have pv2_h16 : v2 = zv h16 2 a.toNat ∧ ((a.toNat : Nat) : Int) < fld h16 2 2 := zpv Ch14 Qh16 (A := 2) (by decide) (by decide +kernel) pv2_h14
              refine zwW_p [(15, 0, 0), (1, 0, 2)] (q := 66) (ls' := [(2, 1), (0, a), (0, b), (2, v2)]) (st' := [(2, 1)]) (by decide +kernel) rfl ?_
              refine zwW_gc Ch16.1 (kd := 12) (bn := 3) (n := 13) (c := 3) (nx := 69) (by decide +kernel) ?_
              refine zwW_cm Ch16.1 (op := 60) (k' := 96) (n := 0) (kd := 0) (m := 3) (nx := 72) (r := 3) (tl := []) (st' := []) (by decide +kernel) rfl (by decide +kernel) rfl (x96_3 Ch16) ?_
              rintro v17 _ ⟨rfl, ev17⟩
              have bv17 := zLb_3 Ch16
              have sv17 : v17 = (yHou (yC h) (yC h 37 2).toNat a (b / 1000) (b / 100 % 10) (b / 10 % 10) (b % 10)) 37 2 := Eq.trans ev17 (Eq.trans (Eq.symm (yC_s (h := h16) (i := 2) rfl)) (Eq.trans (congrFun (congrFun Zh16 37) 2) rfl))
              refine zwW_p [(0, 1, 0)] (q := 73) (ls' := [(2, 1), (0, a), (0, b), (2, v2)]) (st' := [(0, 1), (0, v17)]) (by decide +kernel) rfl ?_
              refine zwW_sub (nx := 74) (by decide +kernel) ⟨by omega, by omega⟩ ?_
              refine zwW_ret (nx := 75) (a := 0) (b := 0) (by decide +kernel) rfl (Or.inl rfl) ?_
              exact ⟨Ch16, Xh16.le (by decide) (by decide), by omega, by unfold yHouA; (repeat' (first | rw [if_pos (by omega)] | rw [if_neg (by omega)])); all_goals (first | rfl | omega), by refine Eq.trans Zh16 ?_; unfold yHouF; (repeat' (first | rw [if_pos (by omega)] | rw [if_neg (by omega)])); all_goals (repeat' (first | rfl | omega | apply zs_cg)), by exact JLh16⟩
            · exfalso; omega
          · refine zwif_ne (q := 41) (nx := 39) (by decide +kernel) (fun c18 => ?_) (fun c18 => ?_)
            · exfalso; omega
            · refine zwW_p [(0, -1, 0)] (q := 40) (ls' := [(2, 1), (0, a), (0, b), (2, v2)]) (st' := [(0, -1)]) (by decide +kernel) rfl ?_
              refine zwW_ret (nx := 41) (a := 0) (b := 0) (by decide +kernel) rfl (Or.inl rfl) ?_
              exact ⟨C, X.le (by decide) (by decide), by omega, by unfold yHouA; (repeat' (first | rw [if_pos (by omega)] | rw [if_neg (by omega)])); all_goals (first | rfl | omega), by refine Eq.trans (rfl : yC h = yC h) ?_; unfold yHouF; (repeat' (first | rw [if_pos (by omega)] | rw [if_neg (by omega)])); all_goals (repeat' (first | rfl | omega | apply zs_cg)), by exact J⟩
end
section
/-! contracts of methods -/
-- WheelLandModel.asksOf(IIIIII)V
theorem m176_z {sc : List Int} (h : Hp) (I : zI h) (a b c d e f : Int) (q_b : -2147483648 ≤ b ∧ b ≤ 2147483647) (q_c : -2147483648 ≤ c ∧ c ≤ 2147483647) (q_d : -2147483648 ≤ d ∧ d ≤ 2147483647) (q_e : -2147483648 ≤ e ∧ e ≤ 2147483647) (q_f : -2147483648 ≤ f ∧ f ≤ 2147483647) (p1 : 0 ≤ a) (p2 : a ≤ 19) : zwC sc 4 176 [(2, 37), (0, a), (0, b), (0, c), (0, d), (0, e), (0, f)] h (zwRv (fun g => zI g ∧ zMR ms176 h g ∧ (n13 168 g (zu (zu (zu (zu (zu (yNmH (yM h) a.toNat (yNm0 (yM h 37 0))) 6 b) 7 c) 8 d) 9 e) 11 f)))) := by
  refine zwC_of (D := 3) 7 (by decide +kernel) rfl (ls := [(2, 37), (0, a), (0, b), (0, c), (0, d), (0, e), (0, f)]) rfl ?_
  have R : zMR ms176 h h := zMR.rf _ _
  have u0 : yM h 37 0 = fld h 37 0 := rfl
  refine zwW_p [(1, 0, 2), (1, 1, 0)] (q := 2) (ls' := [(2, 37), (0, a), (0, b), (0, c), (0, d), (0, e), (0, f)]) (st' := [(0, a), (2, 37)]) (by decide +kernel) rfl ?_
  refine zwW_cmv I (op := 60) (k' := 225) (n := 1) (kd := 13) (m := 97) (nx := 5) (r := 37) (tl := [(0, a)]) (st' := []) (by decide +kernel) rfl (by decide +kernel) rfl (m225_z h I a (by omega) (by omega)) ?_
  rintro h2 ⟨Ih2, Qh2, f1⟩
  have Rh2 : zMR ms176 h h2 := R.tr Qh2 (by decide +kernel)
  have Zh2 : yM h2 = (yM h) := (yM_fr Qh2 (by decide +kernel) (I.b (a1 := 37) (a2 := 37) (j1 := 86) (j2 := 87) (lo := 0) (hi := 6) (by decide +kernel) (r := 37) (j := 86) (by decide) (by decide) (by decide) (by decide)).2).trans (rfl : yM h = yM h)
  have G2 : n13 168 h2 (yNmH (yM h) a.toNat (yNm0 (yM h 37 0))) := f1
  refine zwW_p [(1, 0, 2)] (q := 6) (ls' := [(2, 37), (0, a), (0, b), (0, c), (0, d), (0, e), (0, f)]) (st' := [(2, 37)]) (by decide +kernel) rfl ?_
  refine zwW_gc Ih2 (kd := 13) (bn := 56) (n := 97) (c := 168) (nx := 9) (by decide +kernel) ?_
  refine zwW_p [(0, 6, 0), (1, 2, 0)] (q := 12) (ls' := [(2, 37), (0, a), (0, b), (0, c), (0, d), (0, e), (0, f)]) (st' := [(0, b), (0, 6), (2, 168)]) (by decide +kernel) rfl ?_
  refine zwW_as Ih2 (a1 := 168) (a2 := 168) (n := 13) (lo := -2147483648) (hi := 2147483647) (nx := 13) (by decide +kernel) ⟨by decide, by decide⟩ ⟨by decide, by decide⟩ ⟨by omega, by omega⟩ ?_
  intro h3 eh3 Ih3
  have G12 : n13 168 h3 (zu (yNmH (yM h) a.toNat (yNm0 (yM h 37 0))) 6 b) := G2.zu (fld_zu (Ih2.s (a1 := 168) (a2 := 168) (k := 20) (n := 13) (by decide +kernel) (by decide) (by decide)) (by decide) eh3) rfl
  have Zh3 : yM h3 = (yM h) := (yM_fr (ms := [(168, 168, 0, 13)]) (zMR.one (a1 := 168) (a2 := 168) (j1 := 0) (j2 := 13) ⟨by decide, by decide⟩ ⟨by decide, by decide⟩ eh3) (by decide +kernel) (Ih2.b (a1 := 37) (a2 := 37) (j1 := 86) (j2 := 87) (lo := 0) (hi := 6) (by decide +kernel) (r := 37) (j := 86) (by decide) (by decide) (by decide) (by decide)).2).trans Zh2
  have Rh3 : zMR ms176 h h3 := Rh2.w (a1 := 168) (a2 := 168) (j1 := 0) (j2 := 13) (by decide +kernel) ⟨by decide, by decide⟩ ⟨by decide, by decide⟩ eh3
  refine zwW_p [(1, 0, 2)] (q := 14) (ls' := [(2, 37), (0, a), (0, b), (0, c), (0, d), (0, e), (0, f)]) (st' := [(2, 37)]) (by decide +kernel) rfl ?_
  refine zwW_gc Ih3 (kd := 13) (bn := 56) (n := 97) (c := 168) (nx := 17) (by decide +kernel) ?_
  refine zwW_p [(0, 7, 0), (1, 3, 0)] (q := 20) (ls' := [(2, 37), (0, a), (0, b), (0, c), (0, d), (0, e), (0, f)]) (st' := [(0, c), (0, 7), (2, 168)]) (by decide +kernel) rfl ?_
  refine zwW_as Ih3 (a1 := 168) (a2 := 168) (n := 13) (lo := -2147483648) (hi := 2147483647) (nx := 21) (by decide +kernel) ⟨by decide, by decide⟩ ⟨by decide, by decide⟩ ⟨by omega, by omega⟩ ?_
  intro h4 eh4 Ih4
  have G20 : n13 168 h4 (zu (zu (yNmH (yM h) a.toNat (yNm0 (yM h 37 0))) 6 b) 7 c) := G12.zu (fld_zu (Ih3.s (a1 := 168) (a2 := 168) (k := 20) (n := 13) (by decide +kernel) (by decide) (by decide)) (by decide) eh4) rfl
  have Zh4 : yM h4 = (yM h) := (yM_fr (ms := [(168, 168, 0, 13)]) (zMR.one (a1 := 168) (a2 := 168) (j1 := 0) (j2 := 13) ⟨by decide, by decide⟩ ⟨by decide, by decide⟩ eh4) (by decide +kernel) (Ih3.b (a1 := 37) (a2 := 37) (j1 := 86) (j2 := 87) (lo := 0) (hi := 6) (by decide +kernel) (r := 37) (j := 86) (by decide) (by decide) (by decide) (by decide)).2).trans Zh3
  have Rh4 : zMR ms176 h h4 := Rh3.w (a1 := 168) (a2 := 168) (j1 := 0) (j2 := 13) (by decide +kernel) ⟨by decide, by decide⟩ ⟨by decide, by decide⟩ eh4
  refine zwW_p [(1, 0, 2)] (q := 22) (ls' := [(2, 37), (0, a), (0, b), (0, c), (0, d), (0, e), (0, f)]) (st' := [(2, 37)]) (by decide +kernel) rfl ?_
  refine zwW_gc Ih4 (kd := 13) (bn := 56) (n := 97) (c := 168) (nx := 25) (by decide +kernel) ?_
  refine zwW_p [(0, 8, 0), (1, 4, 0)] (q := 29) (ls' := [(2, 37), (0, a), (0, b), (0, c), (0, d), (0, e), (0, f)]) (st' := [(0, d), (0, 8), (2, 168)]) (by decide +kernel) rfl ?_
  refine zwW_as Ih4 (a1 := 168) (a2 := 168) (n := 13) (lo := -2147483648) (hi := 2147483647) (nx := 30) (by decide +kernel) ⟨by decide, by decide⟩ ⟨by decide, by decide⟩ ⟨by omega, by omega⟩ ?_
  intro h5 eh5 Ih5
  have G29 : n13 168 h5 (zu (zu (zu (yNmH (yM h) a.toNat (yNm0 (yM h 37 0))) 6 b) 7 c) 8 d) := G20.zu (fld_zu (Ih4.s (a1 := 168) (a2 := 168) (k := 20) (n := 13) (by decide +kernel) (by decide) (by decide)) (by decide) eh5) rfl
  have Zh5 : yM h5 = (yM h) := (yM_fr (ms := [(168, 168, 0, 13)]) (zMR.one (a1 := 168) (a2 := 168) (j1 := 0) (j2 := 13) ⟨by decide, by decide⟩ ⟨by decide, by decide⟩ eh5) (by decide +kernel) (Ih4.b (a1 := 37) (a2 := 37) (j1 := 86) (j2 := 87) (lo := 0) (hi := 6) (by decide +kernel) (r := 37) (j := 86) (by decide) (by decide) (by decide) (by decide)).2).trans Zh4
  have Rh5 : zMR ms176 h h5 := Rh4.w (a1 := 168) (a2 := 168) (j1 := 0) (j2 := 13) (by decide +kernel) ⟨by decide, by decide⟩ ⟨by decide, by decide⟩ eh5
  refine zwW_p [(1, 0, 2)] (q := 31) (ls' := [(2, 37), (0, a), (0, b), (0, c), (0, d), (0, e), (0, f)]) (st' := [(2, 37)]) (by decide +kernel) rfl ?_
  refine zwW_gc Ih5 (kd := 13) (bn := 56) (n := 97) (c := 168) (nx := 34) (by decide +kernel) ?_
  refine zwW_p [(0, 9, 0), (1, 5, 0)] (q := 38) (ls' := [(2, 37), (0, a), (0, b), (0, c), (0, d), (0, e), (0, f)]) (st' := [(0, e), (0, 9), (2, 168)]) (by decide +kernel) rfl ?_
  refine zwW_as Ih5 (a1 := 168) (a2 := 168) (n := 13) (lo := -2147483648) (hi := 2147483647) (nx := 39) (by decide +kernel) ⟨by decide, by decide⟩ ⟨by decide, by decide⟩ ⟨by omega, by omega⟩ ?_
  intro h6 eh6 Ih6
  have G38 : n13 168 h6 (zu (zu (zu (zu (yNmH (yM h) a.toNat (yNm0 (yM h 37 0))) 6 b) 7 c) 8 d) 9 e) := G29.zu (fld_zu (Ih5.s (a1 := 168) (a2 := 168) (k := 20) (n := 13) (by decide +kernel) (by decide) (by decide)) (by decide) eh6) rfl
  have Zh6 : yM h6 = (yM h) := (yM_fr (ms := [(168, 168, 0, 13)]) (zMR.one (a1 := 168) (a2 := 168) (j1 := 0) (j2 := 13) ⟨by decide, by decide⟩ ⟨by decide, by decide⟩ eh6) (by decide +kernel) (Ih5.b (a1 := 37) (a2 := 37) (j1 := 86) (j2 := 87) (lo := 0) (hi := 6) (by decide +kernel) (r := 37) (j := 86) (by decide) (by decide) (by decide) (by decide)).2).trans Zh5
  have Rh6 : zMR ms176 h h6 := Rh5.w (a1 := 168) (a2 := 168) (j1 := 0) (j2 := 13) (by decide +kernel) ⟨by decide, by decide⟩ ⟨by decide, by decide⟩ eh6
  refine zwW_p [(1, 0, 2)] (q := 40) (ls' := [(2, 37), (0, a), (0, b), (0, c), (0, d), (0, e), (0, f)]) (st' := [(2, 37)]) (by decide +kernel) rfl ?_
  refine zwW_gc Ih6 (kd := 13) (bn := 56) (n := 97) (c := 168) (nx := 43) (by decide +kernel) ?_
  refine zwW_p [(0, 11, 0), (1, 6, 0)] (q := 47) (ls' := [(2, 37), (0, a), (0, b), (0, c), (0, d), (0, e), (0, f)]) (st' := [(0, f), (0, 11), (2, 168)]) (by decide +kernel) rfl ?_
  refine zwW_as Ih6 (a1 := 168) (a2 := 168) (n := 13) (lo := -2147483648) (hi := 2147483647) (nx := 48) (by decide +kernel) ⟨by decide, by decide⟩ ⟨by decide, by decide⟩ ⟨by omega, by omega⟩ ?_
  intro h7 eh7 Ih7
  have G47 : n13 168 h7 (zu (zu (zu (zu (zu (yNmH (yM h) a.toNat (yNm0 (yM h 37 0))) 6 b) 7 c) 8 d) 9 e) 11 f) := G38.zu (fld_zu (Ih6.s (a1 := 168) (a2 := 168) (k := 20) (n := 13) (by decide +kernel) (by decide) (by decide)) (by decide) eh7) rfl
  have Zh7 : yM h7 = (yM h) := (yM_fr (ms := [(168, 168, 0, 13)]) (zMR.one (a1 := 168) (a2 := 168) (j1 := 0) (j2 := 13) ⟨by decide, by decide⟩ ⟨by decide, by decide⟩ eh7) (by decide +kernel) (Ih6.b (a1 := 37) (a2 := 37) (j1 := 86) (j2 := 87) (lo := 0) (hi := 6) (by decide +kernel) (r := 37) (j := 86) (by decide) (by decide) (by decide) (by decide)).2).trans Zh6
  have Rh7 : zMR ms176 h h7 := Rh6.w (a1 := 168) (a2 := 168) (j1 := 0) (j2 := 13) (by decide +kernel) ⟨by decide, by decide⟩ ⟨by decide, by decide⟩ eh7
  refine zwW_retv (nx := 49) (a := 0) (b := 0) (by decide +kernel) ?_
  exact ⟨Ih7, Rh7, by exact G47⟩
-- WheelLandModel.asksOf(III)V
theorem m136_z {sc : List Int} (h : Hp) (I : zI h) (a b c : Int) (q_c : -2147483648 ≤ c ∧ c ≤ 2147483647) (p1 : 0 ≤ a) (p2 : a ≤ 19) (p3 : 0 ≤ b) (p4 : b ≤ 299) (pa : a < fld h 37 2) (pb : b < fld h 37 64) (ok : yOK (yM h)) (hR : zRO h) : zwC sc 5 136 [(2, 37), (0, a), (0, b), (0, c)] h (zwRv (fun g => zI g ∧ zMR ms136 h g ∧ (n13 168 g (yWN (yM h) a.toNat b.toNat c)))) := by
  refine zwC_of (D := 4) 4 (by decide +kernel) rfl (ls := [(2, 37), (0, a), (0, b), (0, c)]) rfl ?_
  have R : zMR ms136 h h := zMR.rf _ _
  have u0 : yM h 37 0 = fld h 37 0 := rfl
  have u1 : yM h 37 1 = fld h 37 1 := rfl
  have u2 : yM h 37 2 = fld h 37 2 := rfl
  have u64 : yM h 37 64 = fld h 37 64 := rfl
  have KL := ok.lo (l := b.toNat) (by show _ < fld h 37 64; omega)
  have KS := ok.ho (k := (yM h 170 b.toNat).toNat) (by omega)
  have KH := ok.ho (k := a.toNat) (by show _ < fld h 37 2; omega)
  refine zwW_p [(1, 0, 2), (1, 0, 2)] (q := 2) (ls' := [(2, 37), (0, a), (0, b), (0, c)]) (st' := [(2, 37), (2, 37)]) (by decide +kernel) rfl ?_
  refine zwW_gc I (kd := 13) (bn := 58) (n := 97) (c := 170) (nx := 5) (by decide +kernel) ?_
  refine zwW_p [(1, 2, 0)] (q := 6) (ls' := [(2, 37), (0, a), (0, b), (0, c)]) (st' := [(0, b), (2, 170), (2, 37)]) (by decide +kernel) rfl ?_
  have ib1 : 0 ≤ b ∧ b < ((300 : Nat) : Int) := ⟨by omega, by omega⟩
  refine zwW_al I (a1 := 170) (a2 := 170) (kd := 20) (n := 300) (t := 0) (lo := 0) (hi := 19) (nx := 7) (by decide +kernel) ⟨by decide, by decide⟩ ib1 ?_
  intro v1 ev1 lv1 uv1
  have sv1 : v1 = (yM h) 170 b.toNat := Eq.trans ev1 (Eq.trans (Eq.symm (yM_p (h := h) (a := 170) (n := 300) (i := b.toNat) rfl (zit ib1))) (Eq.trans (congrFun (congrFun (rfl : yM h = yM h) 170) b.toNat) rfl))
  refine zwW_p [(1, 0, 2)] (q := 8) (ls' := [(2, 37), (0, a), (0, b), (0, c)]) (st' := [(2, 37), (0, v1), (2, 37)]) (by decide +kernel) rfl ?_
  refine zwW_gc I (kd := 13) (bn := 23) (n := 97) (c := 82) (nx := 11) (by decide +kernel) ?_
  refine zwW_p [(1, 1, 0)] (q := 12) (ls' := [(2, 37), (0, a), (0, b), (0, c)]) (st' := [(0, a), (2, 82), (0, v1), (2, 37)]) (by decide +kernel) rfl ?_
  have ib2 : 0 ≤ a ∧ a < ((20 : Nat) : Int) := ⟨by omega, by omega⟩
  refine zwW_al I (a1 := 82) (a2 := 82) (kd := 20) (n := 20) (t := 0) (lo := 0) (hi := 5) (nx := 13) (by decide +kernel) ⟨by decide, by decide⟩ ib2 ?_
  intro v2 ev2 lv2 uv2
  have sv2 : v2 = (yM h) 82 a.toNat := Eq.trans ev2 (Eq.trans (Eq.symm (yM_p (h := h) (a := 82) (n := 20) (i := a.toNat) rfl (zit ib2))) (Eq.trans (congrFun (congrFun (rfl : yM h = yM h) 82) a.toNat) rfl))
  refine zwW_p [(1, 0, 2)] (q := 14) (ls' := [(2, 37), (0, a), (0, b), (0, c)]) (st' := [(2, 37), (0, v2), (0, v1), (2, 37)]) (by decide +kernel) rfl ?_
  refine zwW_gc I (kd := 13) (bn := 60) (n := 97) (c := 172) (nx := 17) (by decide +kernel) ?_
  refine zwW_p [(1, 2, 0)] (q := 18) (ls' := [(2, 37), (0, a), (0, b), (0, c)]) (st' := [(0, b), (2, 172), (0, v2), (0, v1), (2, 37)]) (by decide +kernel) rfl ?_
  refine zwW_al I (a1 := 172) (a2 := 172) (kd := 20) (n := 300) (t := 0) (lo := -2147483648) (hi := 2147483647) (nx := 19) (by decide +kernel) ⟨by decide, by decide⟩ ib1 ?_
  intro v3 ev3 lv3 uv3
  have sv3 : v3 = (yM h) 172 b.toNat := Eq.trans ev3 (Eq.trans (Eq.symm (yM_p (h := h) (a := 172) (n := 300) (i := b.toNat) rfl (zit ib1))) (Eq.trans (congrFun (congrFun (rfl : yM h = yM h) 172) b.toNat) rfl))
  refine zwW_p [(1, 0, 2)] (q := 20) (ls' := [(2, 37), (0, a), (0, b), (0, c)]) (st' := [(2, 37), (0, v3), (0, v2), (0, v1), (2, 37)]) (by decide +kernel) rfl ?_
  refine zwW_gc I (kd := 13) (bn := 61) (n := 97) (c := 173) (nx := 23) (by decide +kernel) ?_
  refine zwW_p [(1, 2, 0)] (q := 24) (ls' := [(2, 37), (0, a), (0, b), (0, c)]) (st' := [(0, b), (2, 173), (0, v3), (0, v2), (0, v1), (2, 37)]) (by decide +kernel) rfl ?_
  refine zwW_al I (a1 := 173) (a2 := 173) (kd := 20) (n := 300) (t := 0) (lo := -2147483648) (hi := 2147483647) (nx := 25) (by decide +kernel) ⟨by decide, by decide⟩ ib1 ?_
  intro v4 ev4 lv4 uv4
  have sv4 : v4 = (yM h) 173 b.toNat := Eq.trans ev4 (Eq.trans (Eq.symm (yM_p (h := h) (a := 173) (n := 300) (i := b.toNat) rfl (zit ib1))) (Eq.trans (congrFun (congrFun (rfl : yM h = yM h) 173) b.toNat) rfl))
  refine zwW_p [(1, 3, 0), (1, 0, 2), (1, 0, 2)] (q := 28) (ls' := [(2, 37), (0, a), (0, b), (0, c)]) (st' := [(2, 37), (2, 37), (0, c), (0, v4), (0, v3), (0, v2), (0, v1), (2, 37)]) (by decide +kernel) rfl ?_
  refine zwW_gc I (kd := 13) (bn := 20) (n := 97) (c := 79) (nx := 31) (by decide +kernel) ?_
  refine zwW_p [(1, 0, 2)] (q := 32) (ls' := [(2, 37), (0, a), (0, b), (0, c)]) (st' := [(2, 37), (2, 79), (2, 37), (0, c), (0, v4), (0, v3), (0, v2), (0, v1), (2, 37)]) (by decide +kernel) rfl ?_
  refine zwW_gc I (kd := 13) (bn := 58) (n := 97) (c := 170) (nx := 35) (by decide +kernel) ?_
  refine zwW_p [(1, 2, 0)] (q := 36) (ls' := [(2, 37), (0, a), (0, b), (0, c)]) (st' := [(0, b), (2, 170), (2, 79), (2, 37), (0, c), (0, v4), (0, v3), (0, v2), (0, v1), (2, 37)]) (by decide +kernel) rfl ?_
  refine zwW_al I (a1 := 170) (a2 := 170) (kd := 20) (n := 300) (t := 0) (lo := 0) (hi := 19) (nx := 37) (by decide +kernel) ⟨by decide, by decide⟩ ib1 ?_
  intro v5 ev5 lv5 uv5
  have sv5 : v5 = (yM h) 170 b.toNat := Eq.trans ev5 (Eq.trans (Eq.symm (yM_p (h := h) (a := 170) (n := 300) (i := b.toNat) rfl (zit ib1))) (Eq.trans (congrFun (congrFun (rfl : yM h = yM h) 170) b.toNat) rfl))
  have ib3 : 0 ≤ v5 ∧ v5 < ((20 : Nat) : Int) := ⟨by omega, by omega⟩
  refine zwW_al I (a1 := 79) (a2 := 79) (kd := 20) (n := 20) (t := 0) (lo := 0) (hi := 7) (nx := 38) (by decide +kernel) ⟨by decide, by decide⟩ ib3 ?_
  intro v6 ev6 lv6 uv6
  have sv6 : v6 = (yM h) 79 (((yM h) 170 b.toNat).toNat) := Eq.trans ev6 (Eq.trans (Eq.symm (yM_p (h := h) (a := 79) (n := 20) (i := v5.toNat) rfl (zit ib3))) (Eq.trans (congrArg (yM h 79) (show v5.toNat = ((yM h) 170 b.toNat).toNat by rw [sv5])) (Eq.trans (congrFun (congrFun (rfl : yM h = yM h) 79) (((yM h) 170 b.toNat).toNat)) rfl)))
  refine zwW_p [(1, 0, 2)] (q := 39) (ls' := [(2, 37), (0, a), (0, b), (0, c)]) (st' := [(2, 37), (0, v6), (2, 37), (0, c), (0, v4), (0, v3), (0, v2), (0, v1), (2, 37)]) (by decide +kernel) rfl ?_
  refine zwW_gc I (kd := 13) (bn := 20) (n := 97) (c := 79) (nx := 42) (by decide +kernel) ?_
  refine zwW_p [(1, 1, 0)] (q := 43) (ls' := [(2, 37), (0, a), (0, b), (0, c)]) (st' := [(0, a), (2, 79), (0, v6), (2, 37), (0, c), (0, v4), (0, v3), (0, v2), (0, v1), (2, 37)]) (by decide +kernel) rfl ?_
  refine zwW_al I (a1 := 79) (a2 := 79) (kd := 20) (n := 20) (t := 0) (lo := 0) (hi := 7) (nx := 44) (by decide +kernel) ⟨by decide, by decide⟩ ib2 ?_
  intro v7 ev7 lv7 uv7
  have sv7 : v7 = (yM h) 79 a.toNat := Eq.trans ev7 (Eq.trans (Eq.symm (yM_p (h := h) (a := 79) (n := 20) (i := a.toNat) rfl (zit ib2))) (Eq.trans (congrFun (congrFun (rfl : yM h = yM h) 79) a.toNat) rfl))
  have Z44 := (rfl : yM h = yM h)
  refine zwW_cm I (op := 60) (k' := 106) (n := 2) (kd := 13) (m := 97) (nx := 47) (r := 37) (tl := [(0, v6), (0, v7)]) (st' := [(0, c), (0, v4), (0, v3), (0, v2), (0, v1), (2, 37)]) (by decide +kernel) rfl (by decide +kernel) rfl (m106_f h I v6 v7 (by omega) (by omega) hR ⟨by omega, by omega⟩ (by omega)) ?_
  rintro v8 h13 ⟨Ih13, Qh13, f9, f10, f11, f12⟩
  have Rh13 : zMR ms136 h h13 := R.tr Qh13 (by decide +kernel)
  have th13_37_0 : fld h13 37 0 = fld h 37 0 := Qh13.f (a1 := 37) (a2 := 37) (j1 := 0) (j2 := 1) (by decide +kernel) ⟨by decide, by decide⟩ ⟨by decide, by decide⟩
  have th13_37_1 : fld h13 37 1 = fld h 37 1 := Qh13.f (a1 := 37) (a2 := 37) (j1 := 1) (j2 := 2) (by decide +kernel) ⟨by decide, by decide⟩ ⟨by decide, by decide⟩
  have th13_37_2 : fld h13 37 2 = fld h 37 2 := Qh13.f (a1 := 37) (a2 := 37) (j1 := 2) (j2 := 3) (by decide +kernel) ⟨by decide, by decide⟩ ⟨by decide, by decide⟩
  have th13_37_64 : fld h13 37 64 = fld h 37 64 := Qh13.f (a1 := 37) (a2 := 37) (j1 := 64) (j2 := 65) (by decide +kernel) ⟨by decide, by decide⟩ ⟨by decide, by decide⟩
  have Zh13 : yM h13 = (yM h) := (yM_fr Qh13 (by decide +kernel) (I.b (a1 := 37) (a2 := 37) (j1 := 86) (j2 := 87) (lo := 0) (hi := 6) (by decide +kernel) (r := 37) (j := 86) (by decide) (by decide) (by decide) (by decide)).2).trans (rfl : yM h = yM h)
  have A44 : v8 = (yFarq (yM h) (yM h 79 (yM h 170 b.toNat).toNat).toNat (yM h 79 a.toNat).toNat) := by
    have z := f12
    rw [z, yFq_m (by omega) (by omega), Z44, sv6, sv7]
  have Z47 := Zh13
  refine zwW_cmv Ih13 (op := 60) (k' := 176) (n := 6) (kd := 13) (m := 97) (nx := 50) (r := 37) (tl := [(0, v1), (0, v2), (0, v3), (0, v4), (0, c), (0, v8)]) (st' := []) (by decide +kernel) rfl (by decide +kernel) rfl (m176_z h13 Ih13 v1 v2 v3 v4 c v8 (by omega) (by omega) (by omega) (by omega) (by omega) (by omega) (by omega)) ?_
  rintro h15 ⟨Ih15, Qh15, f14⟩
  have Rh15 : zMR ms136 h h15 := Rh13.tr Qh15 (by decide +kernel)
  have th15_37_0 : fld h15 37 0 = fld h13 37 0 := Qh15.f (a1 := 37) (a2 := 37) (j1 := 0) (j2 := 1) (by decide +kernel) ⟨by decide, by decide⟩ ⟨by decide, by decide⟩
  have th15_37_1 : fld h15 37 1 = fld h13 37 1 := Qh15.f (a1 := 37) (a2 := 37) (j1 := 1) (j2 := 2) (by decide +kernel) ⟨by decide, by decide⟩ ⟨by decide, by decide⟩
  have th15_37_2 : fld h15 37 2 = fld h13 37 2 := Qh15.f (a1 := 37) (a2 := 37) (j1 := 2) (j2 := 3) (by decide +kernel) ⟨by decide, by decide⟩ ⟨by decide, by decide⟩
  have th15_37_64 : fld h15 37 64 = fld h13 37 64 := Qh15.f (a1 := 37) (a2 := 37) (j1 := 64) (j2 := 65) (by decide +kernel) ⟨by decide, by decide⟩ ⟨by decide, by decide⟩
  have Zh15 : yM h15 = (yM h) := (yM_fr Qh15 (by decide +kernel) (Ih13.b (a1 := 37) (a2 := 37) (j1 := 86) (j2 := 87) (lo := 0) (hi := 6) (by decide +kernel) (r := 37) (j := 86) (by decide) (by decide) (by decide) (by decide)).2).trans Zh13
  have G47 : n13 168 h15 (yWN (yM h) a.toNat b.toNat c) := by
    have z := f14
    rw [Z47, sv1, sv2, sv3, sv4, A44, wn_sw] at z
    exact z
  refine zwW_retv (nx := 51) (a := 0) (b := 0) (by decide +kernel) ?_
  exact ⟨Ih15, Rh15, by exact G47⟩
-- WheelLandModel.barOf(III)I
theorem m208_z {sc : List Int} (h : Hp) (I : zI h) (a b c : Int) (q : qT) (q_c : -2147483648 ≤ c ∧ c ≤ 2147483647) (p1 : 0 ≤ a) (p2 : a ≤ 19) (p3 : 0 ≤ b) (p4 : b ≤ 299) (pa : a < fld h 37 2) (pb : b < fld h 37 64) (pc : -1000 ≤ c ∧ c ≤ 1000) (V : mRq q h) (ok : yOK (yM h)) (PF8 : yF8 (yM h)) (hR : zRO h) : zwC sc 6 208 [(2, 37), (0, a), (0, b), (0, c)] h (zwRt 0 (fun x g => zI g ∧ zMR ms208 h g ∧ (-2147483648 ≤ x ∧ x ≤ 2147483647) ∧ (0 ≤ x ∧ x ≤ 5) ∧ (x = yLbar q (yM h) a.toNat b.toNat c))) := by
  refine zwC_of (D := 5) 4 (by decide +kernel) rfl (ls := [(2, 37), (0, a), (0, b), (0, c)]) rfl ?_
  have R : zMR ms208 h h := zMR.rf _ _
  have u0 : yM h 37 0 = fld h 37 0 := rfl
  have u1 : yM h 37 1 = fld h 37 1 := rfl
  have u2 : yM h 37 2 = fld h 37 2 := rfl
  have u64 : yM h 37 64 = fld h 37 64 := rfl
  have KL := ok.lo (l := b.toNat) (by show _ < fld h 37 64; omega)
  have KS := ok.ho (k := (yM h 170 b.toNat).toNat) (by omega)
  have KH := ok.ho (k := a.toNat) (by show _ < fld h 37 2; omega)
  have WNS := eNs_wn ok PF8 (k := a.toNat) (l := b.toNat) (x := c) (by show _ < fld h 37 2; omega) (by show _ < fld h 37 64; omega) ⟨by omega, by omega⟩
  have BT3 := V.bit (c := 3) (w := yM h 37 0) WNS ⟨by decide, by decide⟩
  unfold eBit at BT3
  have W30 : w32 (yM h 172 b.toNat + 30) = yM h 172 b.toNat + 30 := w32_id ⟨by omega, by omega⟩
  have w91 : yM h 91 a.toNat = fld h 91 a.toNat := yM_p (a := 91) (n := 20) rfl (by omega)
  refine zwW_p [(1, 0, 2), (1, 1, 0)] (q := 2) (ls' := [(2, 37), (0, a), (0, b), (0, c)]) (st' := [(0, a), (2, 37)]) (by decide +kernel) rfl ?_
  refine zwW_cm I (op := 60) (k' := 112) (n := 1) (kd := 13) (m := 97) (nx := 5) (r := 37) (tl := [(0, a)]) (st' := []) (by decide +kernel) rfl (by decide +kernel) rfl (m112 h I a (by omega) (by omega)) ?_
  rintro x _ ⟨rfl, ⟨rfl, c1⟩ | ⟨rfl, c1⟩⟩
  · refine zwif_ne (q := 10) (nx := 8) (by decide +kernel) (fun c2 => ?_) (fun c2 => ?_)
    · refine zwW_p [(1, 0, 2)] (q := 11) (ls' := [(2, 37), (0, a), (0, b), (0, c)]) (st' := [(2, 37)]) (by decide +kernel) rfl ?_
      refine zwW_gc I (kd := 13) (bn := 60) (n := 97) (c := 172) (nx := 14) (by decide +kernel) ?_
      refine zwW_p [(1, 2, 0)] (q := 15) (ls' := [(2, 37), (0, a), (0, b), (0, c)]) (st' := [(0, b), (2, 172)]) (by decide +kernel) rfl ?_
      have ib1 : 0 ≤ b ∧ b < ((300 : Nat) : Int) := ⟨by omega, by omega⟩
      refine zwW_al I (a1 := 172) (a2 := 172) (kd := 20) (n := 300) (t := 0) (lo := -2147483648) (hi := 2147483647) (nx := 16) (by decide +kernel) ⟨by decide, by decide⟩ ib1 ?_
      intro v3 ev3 lv3 uv3
      have sv3 : v3 = (yM h) 172 b.toNat := Eq.trans ev3 (Eq.trans (Eq.symm (yM_p (h := h) (a := 172) (n := 300) (i := b.toNat) rfl (zit ib1))) (Eq.trans (congrFun (congrFun (rfl : yM h = yM h) 172) b.toNat) rfl))
      refine zwW_p [(7, 0, 0), (1, 0, 2)] (q := 18) (ls' := [(2, 37), (0, a), (0, b), (0, c)]) (st' := [(2, 37), (1, v3)]) (by decide +kernel) rfl ?_
      refine zwW_gc I (kd := 13) (bn := 30) (n := 97) (c := 89) (nx := 21) (by decide +kernel) ?_
      refine zwW_p [(1, 1, 0)] (q := 22) (ls' := [(2, 37), (0, a), (0, b), (0, c)]) (st' := [(0, a), (2, 89), (1, v3)]) (by decide +kernel) rfl ?_
      have ib2 : 0 ≤ a ∧ a < ((20 : Nat) : Int) := ⟨by omega, by omega⟩
      refine zwW_al I (a1 := 89) (a2 := 89) (kd := 20) (n := 20) (t := 0) (lo := -2147483648) (hi := 2147483647) (nx := 23) (by decide +kernel) ⟨by decide, by decide⟩ ib2 ?_
      intro v4 ev4 lv4 uv4
      have sv4 : v4 = (yM h) 89 a.toNat := Eq.trans ev4 (Eq.trans (Eq.symm (yM_p (h := h) (a := 89) (n := 20) (i := a.toNat) rfl (zit ib2))) (Eq.trans (congrFun (congrFun (rfl : yM h = yM h) 89) a.toNat) rfl))
      refine zwW_p [(7, 0, 0), (1, 0, 2)] (q := 25) (ls' := [(2, 37), (0, a), (0, b), (0, c)]) (st' := [(2, 37), (1, v4), (1, v3)]) (by decide +kernel) rfl ?_
      refine zwW_gc I (kd := 13) (bn := 31) (n := 97) (c := 90) (nx := 28) (by decide +kernel) ?_
      refine zwW_p [(1, 1, 0)] (q := 29) (ls' := [(2, 37), (0, a), (0, b), (0, c)]) (st' := [(0, a), (2, 90), (1, v4), (1, v3)]) (by decide +kernel) rfl ?_
      refine zwW_al I (a1 := 90) (a2 := 90) (kd := 20) (n := 20) (t := 0) (lo := -2147483648) (hi := 2147483647) (nx := 30) (by decide +kernel) ⟨by decide, by decide⟩ ib2 ?_
      intro v5 ev5 lv5 uv5
      have sv5 : v5 = (yM h) 90 a.toNat := Eq.trans ev5 (Eq.trans (Eq.symm (yM_p (h := h) (a := 90) (n := 20) (i := a.toNat) rfl (zit ib2))) (Eq.trans (congrFun (congrFun (rfl : yM h = yM h) 90) a.toNat) rfl))
      refine zwW_p [(7, 0, 0)] (q := 31) (ls' := [(2, 37), (0, a), (0, b), (0, c)]) (st' := [(1, v5), (1, v4), (1, v3)]) (by decide +kernel) rfl ?_
      refine zwW_cs (k' := 101) (n := 3) (nx := 34) (as := [(1, v3), (1, v4), (1, v5)]) (st' := []) (by decide +kernel) rfl (m101 h v3 v4 v5) rfl ?_
      rintro x _ ⟨rfl, ⟨rfl, c6⟩ | ⟨rfl, c6⟩⟩
      · refine zwif_ne (q := 39) (nx := 37) (by decide +kernel) (fun c7 => ?_) (fun c7 => ?_)
        · refine zwW_p [(1, 0, 2)] (q := 40) (ls' := [(2, 37), (0, a), (0, b), (0, c)]) (st' := [(2, 37)]) (by decide +kernel) rfl ?_
          refine zwW_gc I (kd := 13) (bn := 61) (n := 97) (c := 173) (nx := 43) (by decide +kernel) ?_
          refine zwW_p [(1, 2, 0)] (q := 44) (ls' := [(2, 37), (0, a), (0, b), (0, c)]) (st' := [(0, b), (2, 173)]) (by decide +kernel) rfl ?_
          refine zwW_al I (a1 := 173) (a2 := 173) (kd := 20) (n := 300) (t := 0) (lo := -2147483648) (hi := 2147483647) (nx := 45) (by decide +kernel) ⟨by decide, by decide⟩ ib1 ?_
          intro v8 ev8 lv8 uv8
          have sv8 : v8 = (yM h) 173 b.toNat := Eq.trans ev8 (Eq.trans (Eq.symm (yM_p (h := h) (a := 173) (n := 300) (i := b.toNat) rfl (zit ib1))) (Eq.trans (congrFun (congrFun (rfl : yM h = yM h) 173) b.toNat) rfl))
          refine zwW_p [(1, 0, 2)] (q := 46) (ls' := [(2, 37), (0, a), (0, b), (0, c)]) (st' := [(2, 37), (0, v8)]) (by decide +kernel) rfl ?_
          refine zwW_gc I (kd := 13) (bn := 60) (n := 97) (c := 172) (nx := 49) (by decide +kernel) ?_
          refine zwW_p [(1, 2, 0)] (q := 50) (ls' := [(2, 37), (0, a), (0, b), (0, c)]) (st' := [(0, b), (2, 172), (0, v8)]) (by decide +kernel) rfl ?_
          refine zwW_al I (a1 := 172) (a2 := 172) (kd := 20) (n := 300) (t := 0) (lo := -2147483648) (hi := 2147483647) (nx := 51) (by decide +kernel) ⟨by decide, by decide⟩ ib1 ?_
          intro v9 ev9 lv9 uv9
          have sv9 : v9 = (yM h) 172 b.toNat := Eq.trans ev9 (Eq.trans (Eq.symm (yM_p (h := h) (a := 172) (n := 300) (i := b.toNat) rfl (zit ib1))) (Eq.trans (congrFun (congrFun (rfl : yM h = yM h) 172) b.toNat) rfl))
          refine zwW_p [(0, 30, 0)] (q := 53) (ls' := [(2, 37), (0, a), (0, b), (0, c)]) (st' := [(0, 30), (0, v9), (0, v8)]) (by decide +kernel) rfl ?_
          refine zwW_adw (nx := 54) (by decide +kernel) ?_
          intro v10 ev10 lv10 uv10
          have Ev10 : v10 = w32 (((yM h) 172 b.toNat) + 30) := by rw [ev10, sv9]
          refine zwic_ge (q := 59) (nx := 57) (by decide +kernel) (fun c11 => ?_) (fun c11 => ?_)
          · refine zwW_p [(1, 0, 2), (1, 0, 2)] (q := 61) (ls' := [(2, 37), (0, a), (0, b), (0, c)]) (st' := [(2, 37), (2, 37)]) (by decide +kernel) rfl ?_
            refine zwW_gc I (kd := 13) (bn := 20) (n := 97) (c := 79) (nx := 64) (by decide +kernel) ?_
            refine zwW_p [(1, 0, 2)] (q := 65) (ls' := [(2, 37), (0, a), (0, b), (0, c)]) (st' := [(2, 37), (2, 79), (2, 37)]) (by decide +kernel) rfl ?_
            refine zwW_gc I (kd := 13) (bn := 58) (n := 97) (c := 170) (nx := 68) (by decide +kernel) ?_
            refine zwW_p [(1, 2, 0)] (q := 69) (ls' := [(2, 37), (0, a), (0, b), (0, c)]) (st' := [(0, b), (2, 170), (2, 79), (2, 37)]) (by decide +kernel) rfl ?_
            refine zwW_al I (a1 := 170) (a2 := 170) (kd := 20) (n := 300) (t := 0) (lo := 0) (hi := 19) (nx := 70) (by decide +kernel) ⟨by decide, by decide⟩ ib1 ?_
            intro v12 ev12 lv12 uv12
            have sv12 : v12 = (yM h) 170 b.toNat := Eq.trans ev12 (Eq.trans (Eq.symm (yM_p (h := h) (a := 170) (n := 300) (i := b.toNat) rfl (zit ib1))) (Eq.trans (congrFun (congrFun (rfl : yM h = yM h) 170) b.toNat) rfl))
            have ib3 : 0 ≤ v12 ∧ v12 < ((20 : Nat) : Int) := ⟨by omega, by omega⟩
            refine zwW_al I (a1 := 79) (a2 := 79) (kd := 20) (n := 20) (t := 0) (lo := 0) (hi := 7) (nx := 71) (by decide +kernel) ⟨by decide, by decide⟩ ib3 ?_
            intro v13 ev13 lv13 uv13
            have sv13 : v13 = (yM h) 79 (((yM h) 170 b.toNat).toNat) := Eq.trans ev13 (Eq.trans (Eq.symm (yM_p (h := h) (a := 79) (n := 20) (i := v12.toNat) rfl (zit ib3))) (Eq.trans (congrArg (yM h 79) (show v12.toNat = ((yM h) 170 b.toNat).toNat by rw [sv12])) (Eq.trans (congrFun (congrFun (rfl : yM h = yM h) 79) (((yM h) 170 b.toNat).toNat)) rfl)))
            refine zwW_p [(1, 0, 2)] (q := 72) (ls' := [(2, 37), (0, a), (0, b), (0, c)]) (st' := [(2, 37), (0, v13), (2, 37)]) (by decide +kernel) rfl ?_
            refine zwW_gc I (kd := 13) (bn := 20) (n := 97) (c := 79) (nx := 75) (by decide +kernel) ?_
            refine zwW_p [(1, 1, 0)] (q := 76) (ls' := [(2, 37), (0, a), (0, b), (0, c)]) (st' := [(0, a), (2, 79), (0, v13), (2, 37)]) (by decide +kernel) rfl ?_
            refine zwW_al I (a1 := 79) (a2 := 79) (kd := 20) (n := 20) (t := 0) (lo := 0) (hi := 7) (nx := 77) (by decide +kernel) ⟨by decide, by decide⟩ ib2 ?_
            intro v14 ev14 lv14 uv14
            have sv14 : v14 = (yM h) 79 a.toNat := Eq.trans ev14 (Eq.trans (Eq.symm (yM_p (h := h) (a := 79) (n := 20) (i := a.toNat) rfl (zit ib2))) (Eq.trans (congrFun (congrFun (rfl : yM h = yM h) 79) a.toNat) rfl))
            have Z77 := (rfl : yM h = yM h)
            refine zwW_cm I (op := 60) (k' := 106) (n := 2) (kd := 13) (m := 97) (nx := 80) (r := 37) (tl := [(0, v13), (0, v14)]) (st' := []) (by decide +kernel) rfl (by decide +kernel) rfl (m106_f h I v13 v14 (by omega) (by omega) hR ⟨by omega, by omega⟩ (by omega)) ?_
            rintro v15 h20 ⟨Ih20, Qh20, f16, f17, f18, f19⟩
            have Rh20 : zMR ms208 h h20 := R.tr Qh20 (by decide +kernel)
            have Vh20 : mRq q h20 := V.fr Qh20 (by decide +kernel)
            have th20_37_0 : fld h20 37 0 = fld h 37 0 := Qh20.f (a1 := 37) (a2 := 37) (j1 := 0) (j2 := 1) (by decide +kernel) ⟨by decide, by decide⟩ ⟨by decide, by decide⟩
            have th20_37_1 : fld h20 37 1 = fld h 37 1 := Qh20.f (a1 := 37) (a2 := 37) (j1 := 1) (j2 := 2) (by decide +kernel) ⟨by decide, by decide⟩ ⟨by decide, by decide⟩
            have th20_37_2 : fld h20 37 2 = fld h 37 2 := Qh20.f (a1 := 37) (a2 := 37) (j1 := 2) (j2 := 3) (by decide +kernel) ⟨by decide, by decide⟩ ⟨by decide, by decide⟩
            have th20_37_64 : fld h20 37 64 = fld h 37 64 := Qh20.f (a1 := 37) (a2 := 37) (j1 := 64) (j2 := 65) (by decide +kernel) ⟨by decide, by decide⟩ ⟨by decide, by decide⟩
            have Zh20 : yM h20 = (yM h) := (yM_fr Qh20 (by decide +kernel) (I.b (a1 := 37) (a2 := 37) (j1 := 86) (j2 := 87) (lo := 0) (hi := 6) (by decide +kernel) (r := 37) (j := 86) (by decide) (by decide) (by decide) (by decide)).2).trans (rfl : yM h = yM h)
            have A77 : v15 = (yFarq (yM h) (yM h 79 (yM h 170 b.toNat).toNat).toNat (yM h 79 a.toNat).toNat) := by
              have z := f19
              rw [z, yFq_m (by omega) (by omega), Z77, sv13, sv14]
            refine zwW_p [(0, -1, 0)] (q := 81) (ls' := [(2, 37), (0, a), (0, b), (0, c)]) (st' := [(0, -1), (0, v15)]) (by decide +kernel) rfl ?_
            refine zwic_ne (q := 86) (nx := 84) (by decide +kernel) (fun c21 => ?_) (fun c21 => ?_)
            · refine zwW_p [(1, 0, 2), (1, 1, 0), (1, 2, 0), (1, 3, 0)] (q := 90) (ls' := [(2, 37), (0, a), (0, b), (0, c)]) (st' := [(0, c), (0, b), (0, a), (2, 37)]) (by decide +kernel) rfl ?_
              have Z90 := Zh20
              refine zwW_cmv Ih20 (op := 60) (k' := 136) (n := 3) (kd := 13) (m := 97) (nx := 93) (r := 37) (tl := [(0, a), (0, b), (0, c)]) (st' := []) (by decide +kernel) rfl (by decide +kernel) rfl (m136_z h20 Ih20 a b c (by omega) (by omega) (by omega) (by omega) (by omega) (by omega) (by omega) (by rw [Zh20]; exact ok) (hR.mr Rh20 (by decide +kernel) (by omega))) ?_
              rintro h23 ⟨Ih23, Qh23, f22⟩
              have Rh23 : zMR ms208 h h23 := Rh20.tr Qh23 (by decide +kernel)
              have Vh23 : mRq q h23 := Vh20.fr Qh23 (by decide +kernel)
              have th23_37_0 : fld h23 37 0 = fld h20 37 0 := Qh23.f (a1 := 37) (a2 := 37) (j1 := 0) (j2 := 1) (by decide +kernel) ⟨by decide, by decide⟩ ⟨by decide, by decide⟩
              have th23_37_1 : fld h23 37 1 = fld h20 37 1 := Qh23.f (a1 := 37) (a2 := 37) (j1 := 1) (j2 := 2) (by decide +kernel) ⟨by decide, by decide⟩ ⟨by decide, by decide⟩
              have th23_37_2 : fld h23 37 2 = fld h20 37 2 := Qh23.f (a1 := 37) (a2 := 37) (j1 := 2) (j2 := 3) (by decide +kernel) ⟨by decide, by decide⟩ ⟨by decide, by decide⟩
              have th23_37_64 : fld h23 37 64 = fld h20 37 64 := Qh23.f (a1 := 37) (a2 := 37) (j1 := 64) (j2 := 65) (by decide +kernel) ⟨by decide, by decide⟩ ⟨by decide, by decide⟩
              have Zh23 : yM h23 = (yM h) := (yM_fr Qh23 (by decide +kernel) (Ih20.b (a1 := 37) (a2 := 37) (j1 := 86) (j2 := 87) (lo := 0) (hi := 6) (by decide +kernel) (r := 37) (j := 86) (by decide) (by decide) (by decide) (by decide)).2).trans Zh20
              have G90 : n13 168 h23 (yWN (yM h) a.toNat b.toNat c) := by
                have z := f22
                rw [Z90] at z
                exact z
              refine zwW_p [(1, 0, 2), (0, 3, 0)] (q := 95) (ls' := [(2, 37), (0, a), (0, b), (0, c)]) (st' := [(0, 3), (2, 37)]) (by decide +kernel) rfl ?_
              refine zwW_cm Ih23 (op := 60) (k' := 137) (n := 1) (kd := 13) (m := 97) (nx := 98) (r := 37) (tl := [(0, 3)]) (st' := []) (by decide +kernel) rfl (by decide +kernel) rfl (m137_e h23 Ih23 3 (by decide) (by decide) Vh23.2.1 Vh23.1 (G90.ns WNS)) ?_
              rintro v24 h27 ⟨Ih27, Qh27, f25, f26⟩
              have Rh27 : zMR ms208 h h27 := Rh23.tr Qh27 (by decide +kernel)
              have Vh27 : mRq q h27 := Vh23.fr Qh27 (by decide +kernel)
              have th27_37_0 : fld h27 37 0 = fld h23 37 0 := Qh27.f (a1 := 37) (a2 := 37) (j1 := 0) (j2 := 1) (by decide +kernel) ⟨by decide, by decide⟩ ⟨by decide, by decide⟩
              have th27_37_1 : fld h27 37 1 = fld h23 37 1 := Qh27.f (a1 := 37) (a2 := 37) (j1 := 1) (j2 := 2) (by decide +kernel) ⟨by decide, by decide⟩ ⟨by decide, by decide⟩
              have th27_37_2 : fld h27 37 2 = fld h23 37 2 := Qh27.f (a1 := 37) (a2 := 37) (j1 := 2) (j2 := 3) (by decide +kernel) ⟨by decide, by decide⟩ ⟨by decide, by decide⟩
              have th27_37_64 : fld h27 37 64 = fld h23 37 64 := Qh27.f (a1 := 37) (a2 := 37) (j1 := 64) (j2 := 65) (by decide +kernel) ⟨by decide, by decide⟩ ⟨by decide, by decide⟩
              have Zh27 : yM h27 = (yM h) := (yM_fr Qh27 (by decide +kernel) (Ih23.b (a1 := 37) (a2 := 37) (j1 := 86) (j2 := 87) (lo := 0) (hi := 6) (by decide +kernel) (r := 37) (j := 86) (by decide) (by decide) (by decide) (by decide)).2).trans Zh23
              have A95 : v24 = q 3 (yM h 37 0) (yWN (yM h) a.toNat b.toNat c) := by
                have z := f26
                rw [z, G90.tl, Vh23.2.2.2 _ _ _ (by decide) (by decide), show fld h23 37 0 = yM h 37 0 by show _ = fld h 37 0; omega]
              refine zwW_p [(0, 1, 0)] (q := 99) (ls' := [(2, 37), (0, a), (0, b), (0, c)]) (st' := [(0, 1), (0, v24)]) (by decide +kernel) rfl ?_
              refine zwic_ne (q := 106) (nx := 102) (by decide +kernel) (fun c28 => ?_) (fun c28 => ?_)
              · refine zwW_p [(0, 5, 0)] (q := 107) (ls' := [(2, 37), (0, a), (0, b), (0, c)]) (st' := [(0, 5)]) (by decide +kernel) rfl ?_
                refine zwW_ret (nx := 108) (a := 0) (b := 0) (by decide +kernel) rfl (Or.inl rfl) ?_
                exact ⟨Ih27, Rh27, by omega, by omega, by unfold yLbar; (repeat' (first | rw [if_pos (by omega)] | rw [if_neg (by omega)])); all_goals (first | rfl | omega)⟩
              · refine zwW_p [(0, 0, 0), (24, 107, 0)] (q := 107) (ls' := [(2, 37), (0, a), (0, b), (0, c)]) (st' := [(0, 0)]) (by decide +kernel) rfl ?_
                refine zwW_ret (nx := 108) (a := 0) (b := 0) (by decide +kernel) rfl (Or.inl rfl) ?_
                exact ⟨Ih27, Rh27, by omega, by omega, by unfold yLbar; (repeat' (first | rw [if_pos (by omega)] | rw [if_neg (by omega)])); all_goals (first | rfl | omega)⟩
            · refine zwW_p [(0, 4, 0)] (q := 85) (ls' := [(2, 37), (0, a), (0, b), (0, c)]) (st' := [(0, 4)]) (by decide +kernel) rfl ?_
              refine zwW_ret (nx := 86) (a := 0) (b := 0) (by decide +kernel) rfl (Or.inl rfl) ?_
              exact ⟨Ih20, Rh20, by omega, by omega, by unfold yLbar; (repeat' (first | rw [if_pos (by omega)] | rw [if_neg (by omega)])); all_goals (first | rfl | omega)⟩
          · refine zwW_p [(0, 3, 0)] (q := 58) (ls' := [(2, 37), (0, a), (0, b), (0, c)]) (st' := [(0, 3)]) (by decide +kernel) rfl ?_
            refine zwW_ret (nx := 59) (a := 0) (b := 0) (by decide +kernel) rfl (Or.inl rfl) ?_
            exact ⟨I, R, by omega, by omega, by unfold yLbar; (repeat' (first | rw [if_pos (by omega)] | rw [if_neg (by omega)])); all_goals (first | rfl | omega)⟩
        · exfalso; omega
      · refine zwif_ne (q := 39) (nx := 37) (by decide +kernel) (fun c29 => ?_) (fun c29 => ?_)
        · exfalso; omega
        · refine zwW_p [(0, 2, 0)] (q := 38) (ls' := [(2, 37), (0, a), (0, b), (0, c)]) (st' := [(0, 2)]) (by decide +kernel) rfl ?_
          refine zwW_ret (nx := 39) (a := 0) (b := 0) (by decide +kernel) rfl (Or.inl rfl) ?_
          exact ⟨I, R, by omega, by omega, by unfold yLbar; (repeat' (first | rw [if_pos (by omega)] | rw [if_neg (by omega)])); all_goals (first | rfl | omega)⟩
    · exfalso; omega
  · refine zwif_ne (q := 10) (nx := 8) (by decide +kernel) (fun c30 => ?_) (fun c30 => ?_)
    · exfalso; omega
    · refine zwW_p [(0, 1, 0)] (q := 9) (ls' := [(2, 37), (0, a), (0, b), (0, c)]) (st' := [(0, 1)]) (by decide +kernel) rfl ?_
      refine zwW_ret (nx := 10) (a := 0) (b := 0) (by decide +kernel) rfl (Or.inl rfl) ?_
      exact ⟨I, R, by omega, by omega, by unfold yLbar; (repeat' (first | rw [if_pos (by omega)] | rw [if_neg (by omega)])); all_goals (first | rfl | omega)⟩
-- WheelLandModel.barred(III)I
theorem m133_z {sc : List Int} (h : Hp) (I : zI h) (a b c : Int) (q : qT) (q_c : -2147483648 ≤ c ∧ c ≤ 2147483647) (p1 : 0 ≤ a) (p2 : a ≤ 19) (p3 : 0 ≤ b) (p4 : b ≤ 299) (pa : a < fld h 37 2) (pb : b < fld h 37 64) (pc : -1000 ≤ c ∧ c ≤ 1000) (V : mRq q h) (ok : yOK (yM h)) (PF8 : yF8 (yM h)) (hR : zRO h) : zwC sc 7 133 [(2, 37), (0, a), (0, b), (0, c)] h (zwRt 0 (fun x g => zI g ∧ zMR ms133 h g ∧ (-2147483648 ≤ x ∧ x ≤ 2147483647) ∧ (0 ≤ x ∧ x ≤ 7) ∧ (x = yBarF q (yM h) a.toNat b.toNat c))) := by
  refine zwC_of (D := 6) 5 (by decide +kernel) rfl (ls := [(2, 37), (0, a), (0, b), (0, c), (9, 0)]) rfl ?_
  have R : zMR ms133 h h := zMR.rf _ _
  have u0 : yM h 37 0 = fld h 37 0 := rfl
  have u1 : yM h 37 1 = fld h 37 1 := rfl
  have u2 : yM h 37 2 = fld h 37 2 := rfl
  have u64 : yM h 37 64 = fld h 37 64 := rfl
  refine zwW_p [(1, 0, 2), (1, 1, 0), (1, 2, 0), (1, 3, 0)] (q := 4) (ls' := [(2, 37), (0, a), (0, b), (0, c), (9, 0)]) (st' := [(0, c), (0, b), (0, a), (2, 37)]) (by decide +kernel) rfl ?_
  refine zwW_cm I (op := 60) (k' := 208) (n := 3) (kd := 13) (m := 97) (nx := 7) (r := 37) (tl := [(0, a), (0, b), (0, c)]) (st' := []) (by decide +kernel) rfl (by decide +kernel) rfl (m208_z h I a b c q (by omega) (by omega) (by omega) (by omega) (by omega) (by omega) (by omega) pc V ok PF8 hR) ?_
  rintro v1 h5 ⟨Ih5, Qh5, f2, f3, f4⟩
  have Rh5 : zMR ms133 h h5 := R.tr Qh5 (by decide +kernel)
  have Vh5 : mRq q h5 := V.fr Qh5 (by decide +kernel)
  have sv1 : v1 = yLbar q (yM h) a.toNat b.toNat c := by rw [f4]
  have Zh5 : yM h5 = (yM h) := (yM_fr Qh5 (by decide +kernel) (I.b (a1 := 37) (a2 := 37) (j1 := 86) (j2 := 87) (lo := 0) (hi := 6) (by decide +kernel) (r := 37) (j := 86) (by decide) (by decide) (by decide) (by decide)).2).trans (rfl : yM h = yM h)
  refine zwW_p [(2, 4, 0), (1, 4, 0)] (q := 11) (ls' := [(2, 37), (0, a), (0, b), (0, c), (0, v1)]) (st' := [(0, v1)]) (by decide +kernel) rfl ?_
  refine zwif_eq (q := 19) (nx := 14) (by decide +kernel) (fun c6 => ?_) (fun c6 => ?_)
  · refine zwW_p [(1, 0, 2)] (q := 20) (ls' := [(2, 37), (0, a), (0, b), (0, c), (0, v1)]) (st' := [(2, 37)]) (by decide +kernel) rfl ?_
    refine zwW_gc Ih5 (kd := 13) (bn := 63) (n := 97) (c := 175) (nx := 23) (by decide +kernel) ?_
    refine zwW_p [(1, 2, 0)] (q := 24) (ls' := [(2, 37), (0, a), (0, b), (0, c), (0, v1)]) (st' := [(0, b), (2, 175)]) (by decide +kernel) rfl ?_
    have ib1 : 0 ≤ b ∧ b < ((300 : Nat) : Int) := ⟨by omega, by omega⟩
    refine zwW_al Ih5 (a1 := 175) (a2 := 175) (kd := 20) (n := 300) (t := 0) (lo := -2147483648) (hi := 2147483647) (nx := 25) (by decide +kernel) ⟨by decide, by decide⟩ ib1 ?_
    intro v7 ev7 lv7 uv7
    have sv7 : v7 = (yM h) 175 b.toNat := Eq.trans ev7 (Eq.trans (Eq.symm (yM_p (h := h5) (a := 175) (n := 300) (i := b.toNat) rfl (zit ib1))) (Eq.trans (congrFun (congrFun Zh5 175) b.toNat) rfl))
    refine zwW_p [(1, 3, 0)] (q := 26) (ls' := [(2, 37), (0, a), (0, b), (0, c), (0, v1)]) (st' := [(0, c), (0, v7)]) (by decide +kernel) rfl ?_
    refine zwic_ge (q := 34) (nx := 29) (by decide +kernel) (fun c8 => ?_) (fun c8 => ?_)
    · refine zwW_p [(1, 0, 2)] (q := 35) (ls' := [(2, 37), (0, a), (0, b), (0, c), (0, v1)]) (st' := [(2, 37)]) (by decide +kernel) rfl ?_
      refine zwW_gc Ih5 (kd := 13) (bn := 32) (n := 97) (c := 91) (nx := 38) (by decide +kernel) ?_
      refine zwW_p [(1, 1, 0)] (q := 39) (ls' := [(2, 37), (0, a), (0, b), (0, c), (0, v1)]) (st' := [(0, a), (2, 91)]) (by decide +kernel) rfl ?_
      have ib2 : 0 ≤ a ∧ a < ((20 : Nat) : Int) := ⟨by omega, by omega⟩
      refine zwW_al Ih5 (a1 := 91) (a2 := 91) (kd := 20) (n := 20) (t := 0) (lo := -2147483648) (hi := 2147483647) (nx := 40) (by decide +kernel) ⟨by decide, by decide⟩ ib2 ?_
      intro v9 ev9 lv9 uv9
      have sv9 : v9 = (yM h) 91 a.toNat := Eq.trans ev9 (Eq.trans (Eq.symm (yM_p (h := h5) (a := 91) (n := 20) (i := a.toNat) rfl (zit ib2))) (Eq.trans (congrFun (congrFun Zh5 91) a.toNat) rfl))
      refine zwW_p [(1, 0, 2)] (q := 41) (ls' := [(2, 37), (0, a), (0, b), (0, c), (0, v1)]) (st' := [(2, 37), (0, v9)]) (by decide +kernel) rfl ?_
      refine zwW_gc Ih5 (kd := 13) (bn := 33) (n := 97) (c := 92) (nx := 44) (by decide +kernel) ?_
      refine zwW_p [(1, 1, 0)] (q := 45) (ls' := [(2, 37), (0, a), (0, b), (0, c), (0, v1)]) (st' := [(0, a), (2, 92), (0, v9)]) (by decide +kernel) rfl ?_
      refine zwW_al Ih5 (a1 := 92) (a2 := 92) (kd := 20) (n := 20) (t := 0) (lo := -2147483648) (hi := 2147483647) (nx := 46) (by decide +kernel) ⟨by decide, by decide⟩ ib2 ?_
      intro v10 ev10 lv10 uv10
      have sv10 : v10 = (yM h) 92 a.toNat := Eq.trans ev10 (Eq.trans (Eq.symm (yM_p (h := h5) (a := 92) (n := 20) (i := a.toNat) rfl (zit ib2))) (Eq.trans (congrFun (congrFun Zh5 92) a.toNat) rfl))
      refine zwW_sbw (nx := 47) (by decide +kernel) ?_
      intro v11 ev11 lv11 uv11
      have Ev11 : v11 = w32 (((yM h) 91 a.toNat) - ((yM h) 92 a.toNat)) := by rw [ev11, sv9, sv10]
      refine zwW_p [(1, 3, 0)] (q := 48) (ls' := [(2, 37), (0, a), (0, b), (0, c), (0, v1)]) (st' := [(0, c), (0, v11)]) (by decide +kernel) rfl ?_
      refine zwic_ge (q := 56) (nx := 51) (by decide +kernel) (fun c12 => ?_) (fun c12 => ?_)
      · refine zwW_p [(0, 0, 0)] (q := 57) (ls' := [(2, 37), (0, a), (0, b), (0, c), (0, v1)]) (st' := [(0, 0)]) (by decide +kernel) rfl ?_
        refine zwW_ret (nx := 58) (a := 0) (b := 0) (by decide +kernel) rfl (Or.inl rfl) ?_
        exact ⟨Ih5, Rh5, by omega, by omega, by unfold yBarF; (repeat' (first | rw [if_pos (by omega)] | rw [if_neg (by omega)])); all_goals (first | rfl | omega)⟩
      · refine zwW_p [(0, 7, 0), (24, 57, 0)] (q := 57) (ls' := [(2, 37), (0, a), (0, b), (0, c), (0, v1)]) (st' := [(0, 7)]) (by decide +kernel) rfl ?_
        refine zwW_ret (nx := 58) (a := 0) (b := 0) (by decide +kernel) rfl (Or.inl rfl) ?_
        exact ⟨Ih5, Rh5, by omega, by omega, by unfold yBarF; (repeat' (first | rw [if_pos (by omega)] | rw [if_neg (by omega)])); all_goals (first | rfl | omega)⟩
    · refine zwW_p [(0, 6, 0), (24, 57, 0)] (q := 57) (ls' := [(2, 37), (0, a), (0, b), (0, c), (0, v1)]) (st' := [(0, 6)]) (by decide +kernel) rfl ?_
      refine zwW_ret (nx := 58) (a := 0) (b := 0) (by decide +kernel) rfl (Or.inl rfl) ?_
      exact ⟨Ih5, Rh5, by omega, by omega, by unfold yBarF; (repeat' (first | rw [if_pos (by omega)] | rw [if_neg (by omega)])); all_goals (first | rfl | omega)⟩
  · refine zwW_p [(1, 4, 0), (24, 57, 0)] (q := 57) (ls' := [(2, 37), (0, a), (0, b), (0, c), (0, v1)]) (st' := [(0, v1)]) (by decide +kernel) rfl ?_
    refine zwW_ret (nx := 58) (a := 0) (b := 0) (by decide +kernel) rfl (Or.inl rfl) ?_
    exact ⟨Ih5, Rh5, by omega, by omega, by unfold yBarF; (repeat' (first | rw [if_pos (by omega)] | rw [if_neg (by omega)])); all_goals (first | rfl | omega)⟩
-- WheelLandModel.canAsk(III)Z
theorem m132_z {sc : List Int} (h : Hp) (I : zI h) (a b c : Int) (q_c : -2147483648 ≤ c ∧ c ≤ 2147483647) : zwC sc 3 132 [(2, 37), (0, a), (0, b), (0, c)] h (zwRt 0 (fun x g => h = g ∧ ((x = 1 ∧ ((0 ≤ a ∧ a ≤ 19 ∧ a < fld h 37 2) ∧ (0 ≤ b ∧ b ≤ 299 ∧ b < fld h 37 64) ∧ (c % 2 = 0 ∧ 2 ≤ c ∧ c ≤ 100))) ∨ (x = 0 ∧ (a < 0 ∨ fld h 37 2 ≤ a ∨ b < 0 ∨ fld h 37 64 ≤ b ∨ c < 2 ∨ 100 < c ∨ c % 2 ≠ 0))))) := by
  refine zwC_of (D := 2) 4 (by decide +kernel) rfl (ls := [(2, 37), (0, a), (0, b), (0, c)]) rfl ?_
  have u0 : yM h 37 0 = fld h 37 0 := rfl
  have u1 : yM h 37 1 = fld h 37 1 := rfl
  have u2 : yM h 37 2 = fld h 37 2 := rfl
  have u64 : yM h 37 64 = fld h 37 64 := rfl
  have u78 : yM h 37 78 = fld h 37 78 := rfl
  have T2 := tm2 (x := c)
  refine zwW_p [(1, 0, 2), (1, 1, 0)] (q := 2) (ls' := [(2, 37), (0, a), (0, b), (0, c)]) (st' := [(0, a), (2, 37)]) (by decide +kernel) rfl ?_
  refine zwW_cm I (op := 60) (k' := 111) (n := 1) (kd := 13) (m := 97) (nx := 5) (r := 37) (tl := [(0, a)]) (st' := []) (by decide +kernel) rfl (by decide +kernel) rfl (m111 h I a) ?_
  rintro x _ ⟨rfl, ⟨rfl, c1⟩ | ⟨rfl, c1⟩⟩
  · refine zwif_eq (q := 40) (nx := 8) (by decide +kernel) (fun c2 => ?_) (fun c2 => ?_)
    · exfalso; omega
    · refine zwW_p [(1, 0, 2), (1, 2, 0)] (q := 10) (ls' := [(2, 37), (0, a), (0, b), (0, c)]) (st' := [(0, b), (2, 37)]) (by decide +kernel) rfl ?_
      refine zwW_cm I (op := 60) (k' := 116) (n := 1) (kd := 13) (m := 97) (nx := 13) (r := 37) (tl := [(0, b)]) (st' := []) (by decide +kernel) rfl (by decide +kernel) rfl (m116 h I b) ?_
      rintro x _ ⟨rfl, ⟨rfl, c3⟩ | ⟨rfl, c3⟩⟩
      · refine zwif_eq (q := 40) (nx := 16) (by decide +kernel) (fun c4 => ?_) (fun c4 => ?_)
        · exfalso; omega
        · refine zwW_p [(1, 3, 0), (0, 2, 0)] (q := 18) (ls' := [(2, 37), (0, a), (0, b), (0, c)]) (st' := [(0, 2), (0, c)]) (by decide +kernel) rfl ?_
          refine zwW_tmod (nx := 19) (by decide +kernel) (by omega) ?_
          refine zwif_ne (q := 40) (nx := 22) (by decide +kernel) (fun c5 => ?_) (fun c5 => ?_)
          · refine zwW_p [(0, 0, 0)] (q := 41) (ls' := [(2, 37), (0, a), (0, b), (0, c)]) (st' := [(0, 0)]) (by decide +kernel) rfl ?_
            refine zwW_ret (nx := 42) (a := 1) (b := 0) (by decide +kernel) rfl (Or.inr (Or.inl ⟨rfl, by omega⟩)) ?_
            exact ⟨rfl, Or.inr ⟨rfl, by omega⟩⟩
          · refine zwW_p [(1, 3, 0), (7, 0, 0), (0, 2, 1), (0, 100, 1)] (q := 30) (ls' := [(2, 37), (0, a), (0, b), (0, c)]) (st' := [(1, 100), (1, 2), (1, c)]) (by decide +kernel) rfl ?_
            refine zwW_cs (k' := 101) (n := 3) (nx := 33) (as := [(1, c), (1, 2), (1, 100)]) (st' := []) (by decide +kernel) rfl (m101 h c 2 100) rfl ?_
            rintro x _ ⟨rfl, ⟨rfl, c6⟩ | ⟨rfl, c6⟩⟩
            · refine zwif_eq (q := 40) (nx := 36) (by decide +kernel) (fun c7 => ?_) (fun c7 => ?_)
              · exfalso; omega
              · refine zwW_p [(0, 1, 0), (24, 41, 0)] (q := 41) (ls' := [(2, 37), (0, a), (0, b), (0, c)]) (st' := [(0, 1)]) (by decide +kernel) rfl ?_
                refine zwW_ret (nx := 42) (a := 1) (b := 0) (by decide +kernel) rfl (Or.inr (Or.inl ⟨rfl, by omega⟩)) ?_
                exact ⟨rfl, Or.inl ⟨rfl, by omega⟩⟩
            · refine zwif_eq (q := 40) (nx := 36) (by decide +kernel) (fun c8 => ?_) (fun c8 => ?_)
              · refine zwW_p [(0, 0, 0)] (q := 41) (ls' := [(2, 37), (0, a), (0, b), (0, c)]) (st' := [(0, 0)]) (by decide +kernel) rfl ?_
                refine zwW_ret (nx := 42) (a := 1) (b := 0) (by decide +kernel) rfl (Or.inr (Or.inl ⟨rfl, by omega⟩)) ?_
                exact ⟨rfl, Or.inr ⟨rfl, by omega⟩⟩
              · exfalso; omega
      · refine zwif_eq (q := 40) (nx := 16) (by decide +kernel) (fun c9 => ?_) (fun c9 => ?_)
        · refine zwW_p [(0, 0, 0)] (q := 41) (ls' := [(2, 37), (0, a), (0, b), (0, c)]) (st' := [(0, 0)]) (by decide +kernel) rfl ?_
          refine zwW_ret (nx := 42) (a := 1) (b := 0) (by decide +kernel) rfl (Or.inr (Or.inl ⟨rfl, by omega⟩)) ?_
          exact ⟨rfl, Or.inr ⟨rfl, by omega⟩⟩
        · exfalso; omega
  · refine zwif_eq (q := 40) (nx := 8) (by decide +kernel) (fun c10 => ?_) (fun c10 => ?_)
    · refine zwW_p [(0, 0, 0)] (q := 41) (ls' := [(2, 37), (0, a), (0, b), (0, c)]) (st' := [(0, 0)]) (by decide +kernel) rfl ?_
      refine zwW_ret (nx := 42) (a := 1) (b := 0) (by decide +kernel) rfl (Or.inr (Or.inl ⟨rfl, by omega⟩)) ?_
      exact ⟨rfl, Or.inr ⟨rfl, by omega⟩⟩
    · exfalso; omega
-- WheelLandModel.bar(III)I
theorem m40_z {sc : List Int} (h : Hp) (I : zI h) (a b c : Int) (q : qT) (q_c : -2147483648 ≤ c ∧ c ≤ 2147483647) (V : mRq q h) (ok : yOK (yM h)) (PF8 : yF8 (yM h)) (hR : zRO h) : zwC sc 8 40 [(2, 37), (0, a), (0, b), (0, c)] h (zwRt 0 (fun x g => zI g ∧ zMR ms40 h g ∧ (-2147483648 ≤ x ∧ x ≤ 2147483647) ∧ (x = yBarA q (yM h) a b c))) := by
  refine zwC_of (D := 7) 4 (by decide +kernel) rfl (ls := [(2, 37), (0, a), (0, b), (0, c)]) rfl ?_
  have R : zMR ms40 h h := zMR.rf _ _
  have u0 : yM h 37 0 = fld h 37 0 := rfl
  have u1 : yM h 37 1 = fld h 37 1 := rfl
  have u2 : yM h 37 2 = fld h 37 2 := rfl
  have u64 : yM h 37 64 = fld h 37 64 := rfl
  refine zwW_p [(1, 0, 2), (1, 1, 0), (1, 2, 0), (1, 3, 0)] (q := 4) (ls' := [(2, 37), (0, a), (0, b), (0, c)]) (st' := [(0, c), (0, b), (0, a), (2, 37)]) (by decide +kernel) rfl ?_
  refine zwW_cm I (op := 60) (k' := 132) (n := 3) (kd := 13) (m := 97) (nx := 7) (r := 37) (tl := [(0, a), (0, b), (0, c)]) (st' := []) (by decide +kernel) rfl (by decide +kernel) rfl (m132_z h I a b c (by omega)) ?_
  rintro x _ ⟨rfl, ⟨rfl, c1⟩ | ⟨rfl, c1⟩⟩
  · refine zwif_eq (q := 20) (nx := 10) (by decide +kernel) (fun c2 => ?_) (fun c2 => ?_)
    · exfalso; omega
    · refine zwW_p [(1, 0, 2), (1, 1, 0), (1, 2, 0), (1, 3, 0)] (q := 14) (ls' := [(2, 37), (0, a), (0, b), (0, c)]) (st' := [(0, c), (0, b), (0, a), (2, 37)]) (by decide +kernel) rfl ?_
      refine zwW_cm I (op := 60) (k' := 133) (n := 3) (kd := 13) (m := 97) (nx := 17) (r := 37) (tl := [(0, a), (0, b), (0, c)]) (st' := []) (by decide +kernel) rfl (by decide +kernel) rfl (m133_z h I a b c q (by omega) (by omega) (by omega) (by omega) (by omega) (by omega) (by omega) ⟨by omega, by omega⟩ V ok PF8 hR) ?_
      rintro v3 h7 ⟨Ih7, Qh7, f4, f5, f6⟩
      have Rh7 : zMR ms40 h h7 := R.tr Qh7 (by decide +kernel)
      have Vh7 : mRq q h7 := V.fr Qh7 (by decide +kernel)
      have sv3 : v3 = yBarF q (yM h) a.toNat b.toNat c := by rw [f6]
      have Zh7 : yM h7 = (yM h) := (yM_fr Qh7 (by decide +kernel) (I.b (a1 := 37) (a2 := 37) (j1 := 86) (j2 := 87) (lo := 0) (hi := 6) (by decide +kernel) (r := 37) (j := 86) (by decide) (by decide) (by decide) (by decide)).2).trans (rfl : yM h = yM h)
      refine zwW_p [(24, 21, 0)] (q := 21) (ls' := [(2, 37), (0, a), (0, b), (0, c)]) (st' := [(0, v3)]) (by decide +kernel) rfl ?_
      refine zwW_ret (nx := 22) (a := 0) (b := 0) (by decide +kernel) rfl (Or.inl rfl) ?_
      exact ⟨Ih7, Rh7, by omega, by unfold yBarA; (repeat' (first | rw [if_pos (by omega)] | rw [if_neg (by omega)])); all_goals (first | rfl | omega)⟩
  · refine zwif_eq (q := 20) (nx := 10) (by decide +kernel) (fun c8 => ?_) (fun c8 => ?_)
    · refine zwW_p [(0, -1, 0)] (q := 21) (ls' := [(2, 37), (0, a), (0, b), (0, c)]) (st' := [(0, -1)]) (by decide +kernel) rfl ?_
      refine zwW_ret (nx := 22) (a := 0) (b := 0) (by decide +kernel) rfl (Or.inl rfl) ?_
      exact ⟨I, R, by omega, by unfold yBarA; (repeat' (first | rw [if_pos (by omega)] | rw [if_neg (by omega)])); all_goals (first | rfl | omega)⟩
    · exfalso; omega
-- WheelLandModel.weave(III)I
theorem m42_z {sc : List Int} (h : Hp) (I : zI h) (a b c : Int) (q : qT) (q_c : -2147483648 ≤ c ∧ c ≤ 2147483647) (V : mRq q h) (ok : yOK (yM h)) (PF8 : yF8 (yM h)) (hR : zRO h) : zwC sc 8 42 [(2, 37), (0, a), (0, b), (0, c)] h (zwRt 0 (fun x g => zI g ∧ zMR ms42 h g ∧ (-2147483648 ≤ x ∧ x ≤ 2147483647) ∧ (x = yWvA q (yM h) a b c) ∧ (yM g = yWvF q (yM h) a b c))) := by
  refine zwC_of (D := 7) 5 (by decide +kernel) rfl (ls := [(2, 37), (0, a), (0, b), (0, c), (9, 0)]) rfl ?_
  have R : zMR ms42 h h := zMR.rf _ _
  have u0 : yM h 37 0 = fld h 37 0 := rfl
  have u1 : yM h 37 1 = fld h 37 1 := rfl
  have u2 : yM h 37 2 = fld h 37 2 := rfl
  have u64 : yM h 37 64 = fld h 37 64 := rfl
  have u70 : yM h 37 70 = fld h 37 70 := rfl
  have u78 : yM h 37 78 = fld h 37 78 := rfl
  refine zwW_p [(1, 0, 2), (1, 1, 0), (1, 2, 0), (1, 3, 0)] (q := 4) (ls' := [(2, 37), (0, a), (0, b), (0, c), (9, 0)]) (st' := [(0, c), (0, b), (0, a), (2, 37)]) (by decide +kernel) rfl ?_
  refine zwW_cm I (op := 60) (k' := 132) (n := 3) (kd := 13) (m := 97) (nx := 7) (r := 37) (tl := [(0, a), (0, b), (0, c)]) (st' := []) (by decide +kernel) rfl (by decide +kernel) rfl (m132_z h I a b c (by omega)) ?_
  rintro x _ ⟨rfl, ⟨rfl, c1⟩ | ⟨rfl, c1⟩⟩
  · refine zwif_eq (q := 40) (nx := 10) (by decide +kernel) (fun c2 => ?_) (fun c2 => ?_)
    · exfalso; omega
    · refine zwW_p [(1, 0, 2)] (q := 11) (ls' := [(2, 37), (0, a), (0, b), (0, c), (9, 0)]) (st' := [(2, 37)]) (by decide +kernel) rfl ?_
      refine zwW_gs I (kd := 13) (bn := 78) (n := 97) (t := 0) (lo := 0) (hi := 200) (nx := 14) (by decide +kernel) ?_
      intro v3 ev3 lv3 uv3
      have sv3 : v3 = (yM h) 37 78 := Eq.trans ev3 (Eq.trans (Eq.symm (yM_s (h := h) (i := 78) rfl)) (Eq.trans (congrFun (congrFun (rfl : yM h = yM h) 37) 78) rfl))
      refine zwW_p [(0, 200, 0)] (q := 17) (ls' := [(2, 37), (0, a), (0, b), (0, c), (9, 0)]) (st' := [(0, 200), (0, v3)]) (by decide +kernel) rfl ?_
      refine zwic_eq (q := 40) (nx := 20) (by decide +kernel) (fun c4 => ?_) (fun c4 => ?_)
      · refine zwW_p [(0, -1, 0)] (q := 41) (ls' := [(2, 37), (0, a), (0, b), (0, c), (9, 0)]) (st' := [(0, -1)]) (by decide +kernel) rfl ?_
        refine zwW_ret (nx := 42) (a := 0) (b := 0) (by decide +kernel) rfl (Or.inl rfl) ?_
        exact ⟨I, R, by omega, by unfold yWvA; (repeat' (first | rw [if_pos (by omega)] | rw [if_neg (by omega)])); all_goals (first | rfl | omega), by refine Eq.trans (rfl : yM h = yM h) ?_; unfold yWvF yWvS; (try rw [show yWask q (yM h) 4 a.toNat b.toNat c = q 4 (yM h 37 0) (yWN (yM h) a.toNat b.toNat c) from rfl]); (repeat' (first | rw [if_pos (by omega)] | rw [if_neg (by omega)])); all_goals (repeat' (first | rfl | omega | apply zs_cg))⟩
      · refine zwW_p [(1, 0, 2)] (q := 21) (ls' := [(2, 37), (0, a), (0, b), (0, c), (9, 0)]) (st' := [(2, 37)]) (by decide +kernel) rfl ?_
        refine zwW_gs I (kd := 13) (bn := 0) (n := 97) (t := 0) (lo := 0) (hi := 156) (nx := 24) (by decide +kernel) ?_
        intro v5 ev5 lv5 uv5
        have sv5 : v5 = (yM h) 37 0 := Eq.trans ev5 (Eq.trans (Eq.symm (yM_s (h := h) (i := 0) rfl)) (Eq.trans (congrFun (congrFun (rfl : yM h = yM h) 37) 0) rfl))
        refine zwW_p [(0, 156, 0)] (q := 27) (ls' := [(2, 37), (0, a), (0, b), (0, c), (9, 0)]) (st' := [(0, 156), (0, v5)]) (by decide +kernel) rfl ?_
        refine zwic_eq (q := 40) (nx := 30) (by decide +kernel) (fun c6 => ?_) (fun c6 => ?_)
        · refine zwW_p [(0, -1, 0)] (q := 41) (ls' := [(2, 37), (0, a), (0, b), (0, c), (9, 0)]) (st' := [(0, -1)]) (by decide +kernel) rfl ?_
          refine zwW_ret (nx := 42) (a := 0) (b := 0) (by decide +kernel) rfl (Or.inl rfl) ?_
          exact ⟨I, R, by omega, by unfold yWvA; (repeat' (first | rw [if_pos (by omega)] | rw [if_neg (by omega)])); all_goals (first | rfl | omega), by refine Eq.trans (rfl : yM h = yM h) ?_; unfold yWvF yWvS; (try rw [show yWask q (yM h) 4 a.toNat b.toNat c = q 4 (yM h 37 0) (yWN (yM h) a.toNat b.toNat c) from rfl]); (repeat' (first | rw [if_pos (by omega)] | rw [if_neg (by omega)])); all_goals (repeat' (first | rfl | omega | apply zs_cg))⟩
        · refine zwW_p [(1, 0, 2), (1, 1, 0), (1, 2, 0), (1, 3, 0)] (q := 34) (ls' := [(2, 37), (0, a), (0, b), (0, c), (9, 0)]) (st' := [(0, c), (0, b), (0, a), (2, 37)]) (by decide +kernel) rfl ?_
          refine zwW_cm I (op := 60) (k' := 133) (n := 3) (kd := 13) (m := 97) (nx := 37) (r := 37) (tl := [(0, a), (0, b), (0, c)]) (st' := []) (by decide +kernel) rfl (by decide +kernel) rfl (m133_z h I a b c q (by omega) (by omega) (by omega) (by omega) (by omega) (by omega) (by omega) ⟨by omega, by omega⟩ V ok PF8 hR) ?_
          rintro v7 h11 ⟨Ih11, Qh11, f8, f9, f10⟩
          have Rh11 : zMR ms42 h h11 := R.tr Qh11 (by decide +kernel)
          have Vh11 : mRq q h11 := V.fr Qh11 (by decide +kernel)
          have th11_37_0 : fld h11 37 0 = fld h 37 0 := Qh11.f (a1 := 37) (a2 := 37) (j1 := 0) (j2 := 1) (by decide +kernel) ⟨by decide, by decide⟩ ⟨by decide, by decide⟩
          have th11_37_1 : fld h11 37 1 = fld h 37 1 := Qh11.f (a1 := 37) (a2 := 37) (j1 := 1) (j2 := 2) (by decide +kernel) ⟨by decide, by decide⟩ ⟨by decide, by decide⟩
          have th11_37_2 : fld h11 37 2 = fld h 37 2 := Qh11.f (a1 := 37) (a2 := 37) (j1 := 2) (j2 := 3) (by decide +kernel) ⟨by decide, by decide⟩ ⟨by decide, by decide⟩
          have th11_37_64 : fld h11 37 64 = fld h 37 64 := Qh11.f (a1 := 37) (a2 := 37) (j1 := 64) (j2 := 65) (by decide +kernel) ⟨by decide, by decide⟩ ⟨by decide, by decide⟩
          have th11_37_78 : fld h11 37 78 = fld h 37 78 := Qh11.f (a1 := 37) (a2 := 37) (j1 := 78) (j2 := 79) (by decide +kernel) ⟨by decide, by decide⟩ ⟨by decide, by decide⟩
          have sv7 : v7 = yBarF q (yM h) a.toNat b.toNat c := by rw [f10]
          have Zh11 : yM h11 = (yM h) := (yM_fr Qh11 (by decide +kernel) (I.b (a1 := 37) (a2 := 37) (j1 := 86) (j2 := 87) (lo := 0) (hi := 6) (by decide +kernel) (r := 37) (j := 86) (by decide) (by decide) (by decide) (by decide)).2).trans (rfl : yM h = yM h)
          refine zwif_eq (q := 42) (nx := 40) (by decide +kernel) (fun c12 => ?_) (fun c12 => ?_)
          · have WNS := eNs_wn ok PF8 (k := a.toNat) (l := b.toNat) (x := c) (by show _ < fld h 37 2; omega) (by show _ < fld h 37 64; omega) ⟨by omega, by omega⟩
            have BT4 := V.bit (c := 4) (w := yM h 37 0) WNS ⟨by decide, by decide⟩
            unfold eBit at BT4
            refine zwW_p [(1, 0, 2), (1, 1, 0), (1, 2, 0), (1, 3, 0)] (q := 46) (ls' := [(2, 37), (0, a), (0, b), (0, c), (9, 0)]) (st' := [(0, c), (0, b), (0, a), (2, 37)]) (by decide +kernel) rfl ?_
            have Z46 := Zh11
            refine zwW_cmv Ih11 (op := 60) (k' := 136) (n := 3) (kd := 13) (m := 97) (nx := 49) (r := 37) (tl := [(0, a), (0, b), (0, c)]) (st' := []) (by decide +kernel) rfl (by decide +kernel) rfl (m136_z h11 Ih11 a b c (by omega) (by omega) (by omega) (by omega) (by omega) (by omega) (by omega) (by rw [Zh11]; exact ok) (hR.mr Rh11 (by decide +kernel) (by omega))) ?_
            rintro h14 ⟨Ih14, Qh14, f13⟩
            have Rh14 : zMR ms42 h h14 := Rh11.tr Qh14 (by decide +kernel)
            have Vh14 : mRq q h14 := Vh11.fr Qh14 (by decide +kernel)
            have th14_37_0 : fld h14 37 0 = fld h11 37 0 := Qh14.f (a1 := 37) (a2 := 37) (j1 := 0) (j2 := 1) (by decide +kernel) ⟨by decide, by decide⟩ ⟨by decide, by decide⟩
            have th14_37_1 : fld h14 37 1 = fld h11 37 1 := Qh14.f (a1 := 37) (a2 := 37) (j1 := 1) (j2 := 2) (by decide +kernel) ⟨by decide, by decide⟩ ⟨by decide, by decide⟩
            have th14_37_2 : fld h14 37 2 = fld h11 37 2 := Qh14.f (a1 := 37) (a2 := 37) (j1 := 2) (j2 := 3) (by decide +kernel) ⟨by decide, by decide⟩ ⟨by decide, by decide⟩
            have th14_37_64 : fld h14 37 64 = fld h11 37 64 := Qh14.f (a1 := 37) (a2 := 37) (j1 := 64) (j2 := 65) (by decide +kernel) ⟨by decide, by decide⟩ ⟨by decide, by decide⟩
            have th14_37_78 : fld h14 37 78 = fld h11 37 78 := Qh14.f (a1 := 37) (a2 := 37) (j1 := 78) (j2 := 79) (by decide +kernel) ⟨by decide, by decide⟩ ⟨by decide, by decide⟩
            have Zh14 : yM h14 = (yM h) := (yM_fr Qh14 (by decide +kernel) (Ih11.b (a1 := 37) (a2 := 37) (j1 := 86) (j2 := 87) (lo := 0) (hi := 6) (by decide +kernel) (r := 37) (j := 86) (by decide) (by decide) (by decide) (by decide)).2).trans Zh11
            have G46 : n13 168 h14 (yWN (yM h) a.toNat b.toNat c) := by
              have z := f13
              rw [Z46] at z
              exact z
            refine zwW_p [(1, 0, 2), (0, 1, 0)] (q := 51) (ls' := [(2, 37), (0, a), (0, b), (0, c), (9, 0)]) (st' := [(0, 1), (2, 37)]) (by decide +kernel) rfl ?_
            refine zwW_cm Ih14 (op := 60) (k' := 137) (n := 1) (kd := 13) (m := 97) (nx := 54) (r := 37) (tl := [(0, 1)]) (st' := []) (by decide +kernel) rfl (by decide +kernel) rfl (m137_e h14 Ih14 1 (by decide) (by decide) Vh14.2.1 Vh14.1 (G46.ns WNS)) ?_
            rintro v15 h18 ⟨Ih18, Qh18, f16, f17⟩
            have Rh18 : zMR ms42 h h18 := Rh14.tr Qh18 (by decide +kernel)
            have Vh18 : mRq q h18 := Vh14.fr Qh18 (by decide +kernel)
            have th18_37_0 : fld h18 37 0 = fld h14 37 0 := Qh18.f (a1 := 37) (a2 := 37) (j1 := 0) (j2 := 1) (by decide +kernel) ⟨by decide, by decide⟩ ⟨by decide, by decide⟩
            have th18_37_1 : fld h18 37 1 = fld h14 37 1 := Qh18.f (a1 := 37) (a2 := 37) (j1 := 1) (j2 := 2) (by decide +kernel) ⟨by decide, by decide⟩ ⟨by decide, by decide⟩
            have th18_37_2 : fld h18 37 2 = fld h14 37 2 := Qh18.f (a1 := 37) (a2 := 37) (j1 := 2) (j2 := 3) (by decide +kernel) ⟨by decide, by decide⟩ ⟨by decide, by decide⟩
            have th18_37_64 : fld h18 37 64 = fld h14 37 64 := Qh18.f (a1 := 37) (a2 := 37) (j1 := 64) (j2 := 65) (by decide +kernel) ⟨by decide, by decide⟩ ⟨by decide, by decide⟩
            have th18_37_78 : fld h18 37 78 = fld h14 37 78 := Qh18.f (a1 := 37) (a2 := 37) (j1 := 78) (j2 := 79) (by decide +kernel) ⟨by decide, by decide⟩ ⟨by decide, by decide⟩
            have Zh18 : yM h18 = (yM h) := (yM_fr Qh18 (by decide +kernel) (Ih14.b (a1 := 37) (a2 := 37) (j1 := 86) (j2 := 87) (lo := 0) (hi := 6) (by decide +kernel) (r := 37) (j := 86) (by decide) (by decide) (by decide) (by decide)).2).trans Zh14
            have A51 : v15 = q 1 (yM h 37 0) (yWN (yM h) a.toNat b.toNat c) := by
              have z := f17
              rw [z, G46.tl, Vh14.2.2.2 _ _ _ (by decide) (by decide), show fld h14 37 0 = yM h 37 0 by show _ = fld h 37 0; omega]
            refine zwW_cs (k' := 129) (n := 1) (nx := 57) (as := [(0, v15)]) (st' := []) (by decide +kernel) rfl (m129 h18 v15 (by omega)) rfl ?_
            rintro v19 _ ⟨rfl, f20, f21, f22⟩
            have M54 : v19 = max (yWask q (yM h) 1 a.toNat b.toNat c) 0 := by unfold yWask; omega
            refine zwW_p [(2, 4, 0), (1, 0, 2), (1, 1, 0), (1, 2, 0), (1, 3, 0)] (q := 63) (ls' := [(2, 37), (0, a), (0, b), (0, c), (0, v19)]) (st' := [(0, c), (0, b), (0, a), (2, 37)]) (by decide +kernel) rfl ?_
            have Z63 := Zh18
            refine zwW_cmv Ih18 (op := 60) (k' := 136) (n := 3) (kd := 13) (m := 97) (nx := 66) (r := 37) (tl := [(0, a), (0, b), (0, c)]) (st' := []) (by decide +kernel) rfl (by decide +kernel) rfl (m136_z h18 Ih18 a b c (by omega) (by omega) (by omega) (by omega) (by omega) (by omega) (by omega) (by rw [Zh18]; exact ok) (hR.mr Rh18 (by decide +kernel) (by omega))) ?_
            rintro h24 ⟨Ih24, Qh24, f23⟩
            have Rh24 : zMR ms42 h h24 := Rh18.tr Qh24 (by decide +kernel)
            have Vh24 : mRq q h24 := Vh18.fr Qh24 (by decide +kernel)
            have th24_37_0 : fld h24 37 0 = fld h18 37 0 := Qh24.f (a1 := 37) (a2 := 37) (j1 := 0) (j2 := 1) (by decide +kernel) ⟨by decide, by decide⟩ ⟨by decide, by decide⟩
            have th24_37_1 : fld h24 37 1 = fld h18 37 1 := Qh24.f (a1 := 37) (a2 := 37) (j1 := 1) (j2 := 2) (by decide +kernel) ⟨by decide, by decide⟩ ⟨by decide, by decide⟩
            have th24_37_2 : fld h24 37 2 = fld h18 37 2 := Qh24.f (a1 := 37) (a2 := 37) (j1 := 2) (j2 := 3) (by decide +kernel) ⟨by decide, by decide⟩ ⟨by decide, by decide⟩
            have th24_37_64 : fld h24 37 64 = fld h18 37 64 := Qh24.f (a1 := 37) (a2 := 37) (j1 := 64) (j2 := 65) (by decide +kernel) ⟨by decide, by decide⟩ ⟨by decide, by decide⟩
            have th24_37_78 : fld h24 37 78 = fld h18 37 78 := Qh24.f (a1 := 37) (a2 := 37) (j1 := 78) (j2 := 79) (by decide +kernel) ⟨by decide, by decide⟩ ⟨by decide, by decide⟩
            have Zh24 : yM h24 = (yM h) := (yM_fr Qh24 (by decide +kernel) (Ih18.b (a1 := 37) (a2 := 37) (j1 := 86) (j2 := 87) (lo := 0) (hi := 6) (by decide +kernel) (r := 37) (j := 86) (by decide) (by decide) (by decide) (by decide)).2).trans Zh18
            have G63 : n13 168 h24 (yWN (yM h) a.toNat b.toNat c) := by
              have z := f23
              rw [Z63] at z
              exact z
            refine zwW_p [(1, 0, 2)] (q := 67) (ls' := [(2, 37), (0, a), (0, b), (0, c), (0, v19)]) (st' := [(2, 37)]) (by decide +kernel) rfl ?_
            refine zwW_gc Ih24 (kd := 13) (bn := 77) (n := 97) (c := 185) (nx := 70) (by decide +kernel) ?_
            refine zwW_p [(1, 0, 2)] (q := 71) (ls' := [(2, 37), (0, a), (0, b), (0, c), (0, v19)]) (st' := [(2, 37), (2, 185)]) (by decide +kernel) rfl ?_
            refine zwW_gs Ih24 (kd := 13) (bn := 78) (n := 97) (t := 0) (lo := 0) (hi := 200) (nx := 74) (by decide +kernel) ?_
            intro v25 ev25 lv25 uv25
            have sv25 : v25 = (yM h) 37 78 := Eq.trans ev25 (Eq.trans (Eq.symm (yM_s (h := h24) (i := 78) rfl)) (Eq.trans (congrFun (congrFun Zh24 37) 78) rfl))
            refine zwW_p [(1, 0, 2), (0, 4, 0)] (q := 76) (ls' := [(2, 37), (0, a), (0, b), (0, c), (0, v19)]) (st' := [(0, 4), (2, 37), (0, v25), (2, 185)]) (by decide +kernel) rfl ?_
            refine zwW_cm Ih24 (op := 60) (k' := 137) (n := 1) (kd := 13) (m := 97) (nx := 79) (r := 37) (tl := [(0, 4)]) (st' := [(0, v25), (2, 185)]) (by decide +kernel) rfl (by decide +kernel) rfl (m137_e h24 Ih24 4 (by decide) (by decide) Vh24.2.1 Vh24.1 (G63.ns WNS)) ?_
            rintro v26 h29 ⟨Ih29, Qh29, f27, f28⟩
            have Rh29 : zMR ms42 h h29 := Rh24.tr Qh29 (by decide +kernel)
            have Vh29 : mRq q h29 := Vh24.fr Qh29 (by decide +kernel)
            have th29_37_0 : fld h29 37 0 = fld h24 37 0 := Qh29.f (a1 := 37) (a2 := 37) (j1 := 0) (j2 := 1) (by decide +kernel) ⟨by decide, by decide⟩ ⟨by decide, by decide⟩
            have th29_37_1 : fld h29 37 1 = fld h24 37 1 := Qh29.f (a1 := 37) (a2 := 37) (j1 := 1) (j2 := 2) (by decide +kernel) ⟨by decide, by decide⟩ ⟨by decide, by decide⟩
            have th29_37_2 : fld h29 37 2 = fld h24 37 2 := Qh29.f (a1 := 37) (a2 := 37) (j1 := 2) (j2 := 3) (by decide +kernel) ⟨by decide, by decide⟩ ⟨by decide, by decide⟩
            have th29_37_64 : fld h29 37 64 = fld h24 37 64 := Qh29.f (a1 := 37) (a2 := 37) (j1 := 64) (j2 := 65) (by decide +kernel) ⟨by decide, by decide⟩ ⟨by decide, by decide⟩
            have th29_37_78 : fld h29 37 78 = fld h24 37 78 := Qh29.f (a1 := 37) (a2 := 37) (j1 := 78) (j2 := 79) (by decide +kernel) ⟨by decide, by decide⟩ ⟨by decide, by decide⟩
            have Zh29 : yM h29 = (yM h) := (yM_fr Qh29 (by decide +kernel) (Ih24.b (a1 := 37) (a2 := 37) (j1 := 86) (j2 := 87) (lo := 0) (hi := 6) (by decide +kernel) (r := 37) (j := 86) (by decide) (by decide) (by decide) (by decide)).2).trans Zh24
            have A76 : v26 = q 4 (yM h 37 0) (yWN (yM h) a.toNat b.toNat c) := by
              have z := f28
              rw [z, G63.tl, Vh24.2.2.2 _ _ _ (by decide) (by decide), show fld h24 37 0 = yM h 37 0 by show _ = fld h 37 0; omega]
            refine zwW_p [(0, 1, 0)] (q := 80) (ls' := [(2, 37), (0, a), (0, b), (0, c), (0, v19)]) (st' := [(0, 1), (0, v26), (0, v25), (2, 185)]) (by decide +kernel) rfl ?_
            refine zwic_ne (q := 87) (nx := 83) (by decide +kernel) (fun c30 => ?_) (fun c30 => ?_)
            · refine zwW_p [(0, 0, 0)] (q := 88) (ls' := [(2, 37), (0, a), (0, b), (0, c), (0, v19)]) (st' := [(0, 0), (0, v25), (2, 185)]) (by decide +kernel) rfl ?_
              have ib1 : 0 ≤ v25 ∧ v25 < ((200 : Nat) : Int) := ⟨by omega, by omega⟩
              refine zwW_asz Ih29 (a1 := 185) (a2 := 185) (n := 200) (nx := 89) (by decide +kernel) ⟨by decide, by decide⟩ ib1 (by omega) ?_
              intro h31 eh31 Ih31
              have jbh31 : 0 ≤ v25.toNat ∧ v25.toNat < 200 := ⟨Nat.zero_le _, zit ib1⟩
              have th31_37_0 : fld h31 37 0 = fld h29 37 0 := by rw [eh31]; exact fld_wr (Or.inl (by decide))
              have th31_37_1 : fld h31 37 1 = fld h29 37 1 := by rw [eh31]; exact fld_wr (Or.inl (by decide))
              have th31_37_2 : fld h31 37 2 = fld h29 37 2 := by rw [eh31]; exact fld_wr (Or.inl (by decide))
              have th31_37_64 : fld h31 37 64 = fld h29 37 64 := by rw [eh31]; exact fld_wr (Or.inl (by decide))
              have th31_37_78 : fld h31 37 78 = fld h29 37 78 := by rw [eh31]; exact fld_wr (Or.inl (by decide))
              have Vh31 : mRq q h31 := Vh29.fr (zMR.one (a1 := 185) (a2 := 185) (j1 := 0) (j2 := 200) ⟨by decide, by decide⟩ jbh31 eh31) (by decide +kernel)
              have Zh31 : yM h31 = (zs (yM h) 185 (((yM h) 37 78).toNat) 0) := by rw [yM_w (a := 185) (n := 200) (i := v25.toNat) (kd := 22) rfl (Ih29.s (a1 := 185) (a2 := 185) (by decide +kernel) (by decide) (by decide)) jbh31.2 eh31, Zh29, sv25]
              have Rh31 : zMR ms42 h h31 := Rh29.w (a1 := 185) (a2 := 185) (j1 := 0) (j2 := 200) (by decide +kernel) ⟨by decide, by decide⟩ jbh31 eh31
              refine zwW_p [(1, 0, 2)] (q := 90) (ls' := [(2, 37), (0, a), (0, b), (0, c), (0, v19)]) (st' := [(2, 37)]) (by decide +kernel) rfl ?_
              refine zwW_gc Ih31 (kd := 13) (bn := 25) (n := 97) (c := 84) (nx := 93) (by decide +kernel) ?_
              refine zwW_p [(1, 0, 2)] (q := 94) (ls' := [(2, 37), (0, a), (0, b), (0, c), (0, v19)]) (st' := [(2, 37), (2, 84)]) (by decide +kernel) rfl ?_
              refine zwW_gc Ih31 (kd := 13) (bn := 58) (n := 97) (c := 170) (nx := 97) (by decide +kernel) ?_
              refine zwW_p [(1, 2, 0)] (q := 98) (ls' := [(2, 37), (0, a), (0, b), (0, c), (0, v19)]) (st' := [(0, b), (2, 170), (2, 84)]) (by decide +kernel) rfl ?_
              have ib2 : 0 ≤ b ∧ b < ((300 : Nat) : Int) := ⟨by omega, by omega⟩
              refine zwW_al Ih31 (a1 := 170) (a2 := 170) (kd := 20) (n := 300) (t := 0) (lo := 0) (hi := 19) (nx := 99) (by decide +kernel) ⟨by decide, by decide⟩ ib2 ?_
              intro v32 ev32 lv32 uv32
              have sv32 : v32 = (yM h) 170 b.toNat := Eq.trans ev32 (Eq.trans (Eq.symm (yM_p (h := h31) (a := 170) (n := 300) (i := b.toNat) rfl (zit ib2))) (Eq.trans (congrFun (congrFun Zh31 170) b.toNat) (Eq.trans (zs_na (by decide) : (zs (yM h) 185 (((yM h) 37 78).toNat) 0) 170 b.toNat = (yM h) 170 b.toNat) rfl)))
              refine zwW_p [(14, 0, 0)] (q := 100) (ls' := [(2, 37), (0, a), (0, b), (0, c), (0, v19)]) (st' := [(0, v32), (2, 84), (0, v32), (2, 84)]) (by decide +kernel) rfl ?_
              have ib3 : 0 ≤ v32 ∧ v32 < ((20 : Nat) : Int) := ⟨by omega, by omega⟩
              refine zwW_al Ih31 (a1 := 84) (a2 := 84) (kd := 20) (n := 20) (t := 0) (lo := -2147483648) (hi := 2147483647) (nx := 101) (by decide +kernel) ⟨by decide, by decide⟩ ib3 ?_
              intro v33 ev33 lv33 uv33
              have sv33 : v33 = (yM h) 84 (((yM h) 170 b.toNat).toNat) := Eq.trans ev33 (Eq.trans (Eq.symm (yM_p (h := h31) (a := 84) (n := 20) (i := v32.toNat) rfl (zit ib3))) (Eq.trans (congrArg (yM h31 84) (show v32.toNat = ((yM h) 170 b.toNat).toNat by rw [sv32])) (Eq.trans (congrFun (congrFun Zh31 84) (((yM h) 170 b.toNat).toNat)) (Eq.trans (zs_na (by decide) : (zs (yM h) 185 (((yM h) 37 78).toNat) 0) 84 (((yM h) 170 b.toNat).toNat) = (yM h) 84 (((yM h) 170 b.toNat).toNat)) rfl))))
              refine zwW_p [(1, 4, 0)] (q := 103) (ls' := [(2, 37), (0, a), (0, b), (0, c), (0, v19)]) (st' := [(0, v19), (0, v33), (0, v32), (2, 84)]) (by decide +kernel) rfl ?_
              refine zwW_sbw (nx := 104) (by decide +kernel) ?_
              intro v34 ev34 lv34 uv34
              have Ev34 : v34 = w32 (((yM h) 84 (((yM h) 170 b.toNat).toNat)) - (max (yWask q (yM h) 1 a.toNat b.toNat c) 0)) := by rw [ev34, sv33, M54]
              refine zwW_as Ih31 (a1 := 84) (a2 := 84) (n := 20) (lo := -2147483648) (hi := 2147483647) (nx := 105) (by decide +kernel) ⟨by decide, by decide⟩ ib3 ⟨by omega, by omega⟩ ?_
              intro h35 eh35 Ih35
              have jbh35 : 0 ≤ v32.toNat ∧ v32.toNat < 20 := ⟨Nat.zero_le _, zit ib3⟩
              have th35_37_0 : fld h35 37 0 = fld h31 37 0 := by rw [eh35]; exact fld_wr (Or.inl (by decide))
              have th35_37_1 : fld h35 37 1 = fld h31 37 1 := by rw [eh35]; exact fld_wr (Or.inl (by decide))
              have th35_37_2 : fld h35 37 2 = fld h31 37 2 := by rw [eh35]; exact fld_wr (Or.inl (by decide))
              have th35_37_64 : fld h35 37 64 = fld h31 37 64 := by rw [eh35]; exact fld_wr (Or.inl (by decide))
              have th35_37_78 : fld h35 37 78 = fld h31 37 78 := by rw [eh35]; exact fld_wr (Or.inl (by decide))
              have Vh35 : mRq q h35 := Vh31.fr (zMR.one (a1 := 84) (a2 := 84) (j1 := 0) (j2 := 20) ⟨by decide, by decide⟩ jbh35 eh35) (by decide +kernel)
              have Uh35 : yM h35 = (zs (zs (yM h) 185 (((yM h) 37 78).toNat) 0) 84 (((yM h) 170 b.toNat).toNat) (w32 (((yM h) 84 (((yM h) 170 b.toNat).toNat)) - (max (yWask q (yM h) 1 a.toNat b.toNat c) 0)))) := by rw [yM_w (a := 84) (n := 20) (i := v32.toNat) (kd := 20) rfl (Ih31.s (a1 := 84) (a2 := 84) (by decide +kernel) (by decide) (by decide)) jbh35.2 eh35, Zh31, Ev34, sv32]
              have Zh35 : yM h35 = (zs (zs (yM h) 84 (((yM h) 170 b.toNat).toNat) (w32 (((yM h) 84 (((yM h) 170 b.toNat).toNat)) - (max (yWask q (yM h) 1 a.toNat b.toNat c) 0)))) 185 (((yM h) 37 78).toNat) 0) := by rw [Uh35, zs_sw (a := 185) (b := 84) (by decide)]
              have Rh35 : zMR ms42 h h35 := Rh31.w (a1 := 84) (a2 := 84) (j1 := 0) (j2 := 20) (by decide +kernel) ⟨by decide, by decide⟩ jbh35 eh35
              refine zwW_p [(1, 0, 2)] (q := 106) (ls' := [(2, 37), (0, a), (0, b), (0, c), (0, v19)]) (st' := [(2, 37)]) (by decide +kernel) rfl ?_
              refine zwW_gc Ih35 (kd := 13) (bn := 25) (n := 97) (c := 84) (nx := 109) (by decide +kernel) ?_
              refine zwW_p [(1, 1, 0), (14, 0, 0)] (q := 111) (ls' := [(2, 37), (0, a), (0, b), (0, c), (0, v19)]) (st' := [(0, a), (2, 84), (0, a), (2, 84)]) (by decide +kernel) rfl ?_
              have ib4 : 0 ≤ a ∧ a < ((20 : Nat) : Int) := ⟨by omega, by omega⟩
              refine zwW_al Ih35 (a1 := 84) (a2 := 84) (kd := 20) (n := 20) (t := 0) (lo := -2147483648) (hi := 2147483647) (nx := 112) (by decide +kernel) ⟨by decide, by decide⟩ ib4 ?_
              intro v36 ev36 lv36 uv36
              have sv36 : v36 = (zs (yM h) 84 (((yM h) 170 b.toNat).toNat) (w32 (((yM h) 84 (((yM h) 170 b.toNat).toNat)) - (max (yWask q (yM h) 1 a.toNat b.toNat c) 0)))) 84 a.toNat := Eq.trans ev36 (Eq.trans (Eq.symm (yM_p (h := h35) (a := 84) (n := 20) (i := a.toNat) rfl (zit ib4))) (Eq.trans (congrFun (congrFun Zh35 84) a.toNat) (Eq.trans (zs_na (by decide) : (zs (zs (yM h) 84 (((yM h) 170 b.toNat).toNat) (w32 (((yM h) 84 (((yM h) 170 b.toNat).toNat)) - (max (yWask q (yM h) 1 a.toNat b.toNat c) 0)))) 185 (((yM h) 37 78).toNat) 0) 84 a.toNat = (zs (yM h) 84 (((yM h) 170 b.toNat).toNat) (w32 (((yM h) 84 (((yM h) 170 b.toNat).toNat)) - (max (yWask q (yM h) 1 a.toNat b.toNat c) 0)))) 84 a.toNat) rfl)))
              refine zwW_p [(1, 4, 0)] (q := 114) (ls' := [(2, 37), (0, a), (0, b), (0, c), (0, v19)]) (st' := [(0, v19), (0, v36), (0, a), (2, 84)]) (by decide +kernel) rfl ?_
              refine zwW_adw (nx := 115) (by decide +kernel) ?_
              intro v37 ev37 lv37 uv37
              have Ev37 : v37 = w32 (((zs (yM h) 84 (((yM h) 170 b.toNat).toNat) (w32 (((yM h) 84 (((yM h) 170 b.toNat).toNat)) - (max (yWask q (yM h) 1 a.toNat b.toNat c) 0)))) 84 a.toNat) + (max (yWask q (yM h) 1 a.toNat b.toNat c) 0)) := by rw [ev37, sv36, M54]
              refine zwW_as Ih35 (a1 := 84) (a2 := 84) (n := 20) (lo := -2147483648) (hi := 2147483647) (nx := 116) (by decide +kernel) ⟨by decide, by decide⟩ ib4 ⟨by omega, by omega⟩ ?_
              intro h38 eh38 Ih38
              have jbh38 : 0 ≤ a.toNat ∧ a.toNat < 20 := ⟨Nat.zero_le _, zit ib4⟩
              have th38_37_0 : fld h38 37 0 = fld h35 37 0 := by rw [eh38]; exact fld_wr (Or.inl (by decide))
              have th38_37_1 : fld h38 37 1 = fld h35 37 1 := by rw [eh38]; exact fld_wr (Or.inl (by decide))
              have th38_37_2 : fld h38 37 2 = fld h35 37 2 := by rw [eh38]; exact fld_wr (Or.inl (by decide))
              have th38_37_64 : fld h38 37 64 = fld h35 37 64 := by rw [eh38]; exact fld_wr (Or.inl (by decide))
              have th38_37_78 : fld h38 37 78 = fld h35 37 78 := by rw [eh38]; exact fld_wr (Or.inl (by decide))
              have Vh38 : mRq q h38 := Vh35.fr (zMR.one (a1 := 84) (a2 := 84) (j1 := 0) (j2 := 20) ⟨by decide, by decide⟩ jbh38 eh38) (by decide +kernel)
              have Uh38 : yM h38 = (zs (zs (zs (yM h) 84 (((yM h) 170 b.toNat).toNat) (w32 (((yM h) 84 (((yM h) 170 b.toNat).toNat)) - (max (yWask q (yM h) 1 a.toNat b.toNat c) 0)))) 185 (((yM h) 37 78).toNat) 0) 84 a.toNat (w32 (((zs (yM h) 84 (((yM h) 170 b.toNat).toNat) (w32 (((yM h) 84 (((yM h) 170 b.toNat).toNat)) - (max (yWask q (yM h) 1 a.toNat b.toNat c) 0)))) 84 a.toNat) + (max (yWask q (yM h) 1 a.toNat b.toNat c) 0)))) := by rw [yM_w (a := 84) (n := 20) (i := a.toNat) (kd := 20) rfl (Ih35.s (a1 := 84) (a2 := 84) (by decide +kernel) (by decide) (by decide)) jbh38.2 eh38, Zh35, Ev37]
              have Zh38 : yM h38 = (zs (zs (zs (yM h) 84 (((yM h) 170 b.toNat).toNat) (w32 (((yM h) 84 (((yM h) 170 b.toNat).toNat)) - (max (yWask q (yM h) 1 a.toNat b.toNat c) 0)))) 84 a.toNat (w32 (((zs (yM h) 84 (((yM h) 170 b.toNat).toNat) (w32 (((yM h) 84 (((yM h) 170 b.toNat).toNat)) - (max (yWask q (yM h) 1 a.toNat b.toNat c) 0)))) 84 a.toNat) + (max (yWask q (yM h) 1 a.toNat b.toNat c) 0)))) 185 (((yM h) 37 78).toNat) 0) := by rw [Uh38, zs_sw (a := 185) (b := 84) (by decide)]
              have Rh38 : zMR ms42 h h38 := Rh35.w (a1 := 84) (a2 := 84) (j1 := 0) (j2 := 20) (by decide +kernel) ⟨by decide, by decide⟩ jbh38 eh38
              refine zwW_p [(1, 0, 2)] (q := 117) (ls' := [(2, 37), (0, a), (0, b), (0, c), (0, v19)]) (st' := [(2, 37)]) (by decide +kernel) rfl ?_
              refine zwW_gc Ih38 (kd := 13) (bn := 63) (n := 97) (c := 175) (nx := 120) (by decide +kernel) ?_
              refine zwW_p [(1, 2, 0), (14, 0, 0)] (q := 122) (ls' := [(2, 37), (0, a), (0, b), (0, c), (0, v19)]) (st' := [(0, b), (2, 175), (0, b), (2, 175)]) (by decide +kernel) rfl ?_
              refine zwW_al Ih38 (a1 := 175) (a2 := 175) (kd := 20) (n := 300) (t := 0) (lo := -2147483648) (hi := 2147483647) (nx := 123) (by decide +kernel) ⟨by decide, by decide⟩ ib2 ?_
              intro v39 ev39 lv39 uv39
              have sv39 : v39 = (yM h) 175 b.toNat := Eq.trans ev39 (Eq.trans (Eq.symm (yM_p (h := h38) (a := 175) (n := 300) (i := b.toNat) rfl (zit ib2))) (Eq.trans (congrFun (congrFun Zh38 175) b.toNat) (Eq.trans (zs_na (by decide) : (zs (zs (zs (yM h) 84 (((yM h) 170 b.toNat).toNat) (w32 (((yM h) 84 (((yM h) 170 b.toNat).toNat)) - (max (yWask q (yM h) 1 a.toNat b.toNat c) 0)))) 84 a.toNat (w32 (((zs (yM h) 84 (((yM h) 170 b.toNat).toNat) (w32 (((yM h) 84 (((yM h) 170 b.toNat).toNat)) - (max (yWask q (yM h) 1 a.toNat b.toNat c) 0)))) 84 a.toNat) + (max (yWask q (yM h) 1 a.toNat b.toNat c) 0)))) 185 (((yM h) 37 78).toNat) 0) 175 b.toNat = (zs (zs (yM h) 84 (((yM h) 170 b.toNat).toNat) (w32 (((yM h) 84 (((yM h) 170 b.toNat).toNat)) - (max (yWask q (yM h) 1 a.toNat b.toNat c) 0)))) 84 a.toNat (w32 (((zs (yM h) 84 (((yM h) 170 b.toNat).toNat) (w32 (((yM h) 84 (((yM h) 170 b.toNat).toNat)) - (max (yWask q (yM h) 1 a.toNat b.toNat c) 0)))) 84 a.toNat) + (max (yWask q (yM h) 1 a.toNat b.toNat c) 0)))) 175 b.toNat) (Eq.trans (zs_na (by decide) : (zs (zs (yM h) 84 (((yM h) 170 b.toNat).toNat) (w32 (((yM h) 84 (((yM h) 170 b.toNat).toNat)) - (max (yWask q (yM h) 1 a.toNat b.toNat c) 0)))) 84 a.toNat (w32 (((zs (yM h) 84 (((yM h) 170 b.toNat).toNat) (w32 (((yM h) 84 (((yM h) 170 b.toNat).toNat)) - (max (yWask q (yM h) 1 a.toNat b.toNat c) 0)))) 84 a.toNat) + (max (yWask q (yM h) 1 a.toNat b.toNat c) 0)))) 175 b.toNat = (zs (yM h) 84 (((yM h) 170 b.toNat).toNat) (w32 (((yM h) 84 (((yM h) 170 b.toNat).toNat)) - (max (yWask q (yM h) 1 a.toNat b.toNat c) 0)))) 175 b.toNat) (Eq.trans (zs_na (by decide) : (zs (yM h) 84 (((yM h) 170 b.toNat).toNat) (w32 (((yM h) 84 (((yM h) 170 b.toNat).toNat)) - (max (yWask q (yM h) 1 a.toNat b.toNat c) 0)))) 175 b.toNat = (yM h) 175 b.toNat) rfl)))))
              refine zwW_p [(1, 3, 0)] (q := 124) (ls' := [(2, 37), (0, a), (0, b), (0, c), (0, v19)]) (st' := [(0, c), (0, v39), (0, b), (2, 175)]) (by decide +kernel) rfl ?_
              refine zwW_sbw (nx := 125) (by decide +kernel) ?_
              intro v40 ev40 lv40 uv40
              have Ev40 : v40 = w32 (((yM h) 175 b.toNat) - c) := by rw [ev40, sv39]
              refine zwW_as Ih38 (a1 := 175) (a2 := 175) (n := 300) (lo := -2147483648) (hi := 2147483647) (nx := 126) (by decide +kernel) ⟨by decide, by decide⟩ ib2 ⟨by omega, by omega⟩ ?_
              intro h41 eh41 Ih41
              have jbh41 : 0 ≤ b.toNat ∧ b.toNat < 300 := ⟨Nat.zero_le _, zit ib2⟩
              have th41_37_0 : fld h41 37 0 = fld h38 37 0 := by rw [eh41]; exact fld_wr (Or.inl (by decide))
              have th41_37_1 : fld h41 37 1 = fld h38 37 1 := by rw [eh41]; exact fld_wr (Or.inl (by decide))
              have th41_37_2 : fld h41 37 2 = fld h38 37 2 := by rw [eh41]; exact fld_wr (Or.inl (by decide))
              have th41_37_64 : fld h41 37 64 = fld h38 37 64 := by rw [eh41]; exact fld_wr (Or.inl (by decide))
              have th41_37_78 : fld h41 37 78 = fld h38 37 78 := by rw [eh41]; exact fld_wr (Or.inl (by decide))
              have Vh41 : mRq q h41 := Vh38.fr (zMR.one (a1 := 175) (a2 := 175) (j1 := 0) (j2 := 300) ⟨by decide, by decide⟩ jbh41 eh41) (by decide +kernel)
              have Uh41 : yM h41 = (zs (zs (zs (zs (yM h) 84 (((yM h) 170 b.toNat).toNat) (w32 (((yM h) 84 (((yM h) 170 b.toNat).toNat)) - (max (yWask q (yM h) 1 a.toNat b.toNat c) 0)))) 84 a.toNat (w32 (((zs (yM h) 84 (((yM h) 170 b.toNat).toNat) (w32 (((yM h) 84 (((yM h) 170 b.toNat).toNat)) - (max (yWask q (yM h) 1 a.toNat b.toNat c) 0)))) 84 a.toNat) + (max (yWask q (yM h) 1 a.toNat b.toNat c) 0)))) 185 (((yM h) 37 78).toNat) 0) 175 b.toNat (w32 (((yM h) 175 b.toNat) - c))) := by rw [yM_w (a := 175) (n := 300) (i := b.toNat) (kd := 20) rfl (Ih38.s (a1 := 175) (a2 := 175) (by decide +kernel) (by decide) (by decide)) jbh41.2 eh41, Zh38, Ev40]
              have Zh41 : yM h41 = (zs (zs (zs (zs (yM h) 84 (((yM h) 170 b.toNat).toNat) (w32 (((yM h) 84 (((yM h) 170 b.toNat).toNat)) - (max (yWask q (yM h) 1 a.toNat b.toNat c) 0)))) 84 a.toNat (w32 (((zs (yM h) 84 (((yM h) 170 b.toNat).toNat) (w32 (((yM h) 84 (((yM h) 170 b.toNat).toNat)) - (max (yWask q (yM h) 1 a.toNat b.toNat c) 0)))) 84 a.toNat) + (max (yWask q (yM h) 1 a.toNat b.toNat c) 0)))) 175 b.toNat (w32 (((yM h) 175 b.toNat) - c))) 185 (((yM h) 37 78).toNat) 0) := by rw [Uh41, zs_sw (a := 185) (b := 175) (by decide)]
              have Rh41 : zMR ms42 h h41 := Rh38.w (a1 := 175) (a2 := 175) (j1 := 0) (j2 := 300) (by decide +kernel) ⟨by decide, by decide⟩ jbh41 eh41
              refine zwW_p [(1, 0, 2)] (q := 127) (ls' := [(2, 37), (0, a), (0, b), (0, c), (0, v19)]) (st' := [(2, 37)]) (by decide +kernel) rfl ?_
              refine zwW_gc Ih41 (kd := 13) (bn := 33) (n := 97) (c := 92) (nx := 130) (by decide +kernel) ?_
              refine zwW_p [(1, 1, 0), (14, 0, 0)] (q := 132) (ls' := [(2, 37), (0, a), (0, b), (0, c), (0, v19)]) (st' := [(0, a), (2, 92), (0, a), (2, 92)]) (by decide +kernel) rfl ?_
              refine zwW_al Ih41 (a1 := 92) (a2 := 92) (kd := 20) (n := 20) (t := 0) (lo := -2147483648) (hi := 2147483647) (nx := 133) (by decide +kernel) ⟨by decide, by decide⟩ ib4 ?_
              intro v42 ev42 lv42 uv42
              have sv42 : v42 = (yM h) 92 a.toNat := Eq.trans ev42 (Eq.trans (Eq.symm (yM_p (h := h41) (a := 92) (n := 20) (i := a.toNat) rfl (zit ib4))) (Eq.trans (congrFun (congrFun Zh41 92) a.toNat) (Eq.trans (zs_na (by decide) : (zs (zs (zs (zs (yM h) 84 (((yM h) 170 b.toNat).toNat) (w32 (((yM h) 84 (((yM h) 170 b.toNat).toNat)) - (max (yWask q (yM h) 1 a.toNat b.toNat c) 0)))) 84 a.toNat (w32 (((zs (yM h) 84 (((yM h) 170 b.toNat).toNat) (w32 (((yM h) 84 (((yM h) 170 b.toNat).toNat)) - (max (yWask q (yM h) 1 a.toNat b.toNat c) 0)))) 84 a.toNat) + (max (yWask q (yM h) 1 a.toNat b.toNat c) 0)))) 175 b.toNat (w32 (((yM h) 175 b.toNat) - c))) 185 (((yM h) 37 78).toNat) 0) 92 a.toNat = (zs (zs (zs (yM h) 84 (((yM h) 170 b.toNat).toNat) (w32 (((yM h) 84 (((yM h) 170 b.toNat).toNat)) - (max (yWask q (yM h) 1 a.toNat b.toNat c) 0)))) 84 a.toNat (w32 (((zs (yM h) 84 (((yM h) 170 b.toNat).toNat) (w32 (((yM h) 84 (((yM h) 170 b.toNat).toNat)) - (max (yWask q (yM h) 1 a.toNat b.toNat c) 0)))) 84 a.toNat) + (max (yWask q (yM h) 1 a.toNat b.toNat c) 0)))) 175 b.toNat (w32 (((yM h) 175 b.toNat) - c))) 92 a.toNat) (Eq.trans (zs_na (by decide) : (zs (zs (zs (yM h) 84 (((yM h) 170 b.toNat).toNat) (w32 (((yM h) 84 (((yM h) 170 b.toNat).toNat)) - (max (yWask q (yM h) 1 a.toNat b.toNat c) 0)))) 84 a.toNat (w32 (((zs (yM h) 84 (((yM h) 170 b.toNat).toNat) (w32 (((yM h) 84 (((yM h) 170 b.toNat).toNat)) - (max (yWask q (yM h) 1 a.toNat b.toNat c) 0)))) 84 a.toNat) + (max (yWask q (yM h) 1 a.toNat b.toNat c) 0)))) 175 b.toNat (w32 (((yM h) 175 b.toNat) - c))) 92 a.toNat = (zs (zs (yM h) 84 (((yM h) 170 b.toNat).toNat) (w32 (((yM h) 84 (((yM h) 170 b.toNat).toNat)) - (max (yWask q (yM h) 1 a.toNat b.toNat c) 0)))) 84 a.toNat (w32 (((zs (yM h) 84 (((yM h) 170 b.toNat).toNat) (w32 (((yM h) 84 (((yM h) 170 b.toNat).toNat)) - (max (yWask q (yM h) 1 a.toNat b.toNat c) 0)))) 84 a.toNat) + (max (yWask q (yM h) 1 a.toNat b.toNat c) 0)))) 92 a.toNat) (Eq.trans (zs_na (by decide) : (zs (zs (yM h) 84 (((yM h) 170 b.toNat).toNat) (w32 (((yM h) 84 (((yM h) 170 b.toNat).toNat)) - (max (yWask q (yM h) 1 a.toNat b.toNat c) 0)))) 84 a.toNat (w32 (((zs (yM h) 84 (((yM h) 170 b.toNat).toNat) (w32 (((yM h) 84 (((yM h) 170 b.toNat).toNat)) - (max (yWask q (yM h) 1 a.toNat b.toNat c) 0)))) 84 a.toNat) + (max (yWask q (yM h) 1 a.toNat b.toNat c) 0)))) 92 a.toNat = (zs (yM h) 84 (((yM h) 170 b.toNat).toNat) (w32 (((yM h) 84 (((yM h) 170 b.toNat).toNat)) - (max (yWask q (yM h) 1 a.toNat b.toNat c) 0)))) 92 a.toNat) (Eq.trans (zs_na (by decide) : (zs (yM h) 84 (((yM h) 170 b.toNat).toNat) (w32 (((yM h) 84 (((yM h) 170 b.toNat).toNat)) - (max (yWask q (yM h) 1 a.toNat b.toNat c) 0)))) 92 a.toNat = (yM h) 92 a.toNat) rfl))))))
              refine zwW_p [(1, 3, 0)] (q := 134) (ls' := [(2, 37), (0, a), (0, b), (0, c), (0, v19)]) (st' := [(0, c), (0, v42), (0, a), (2, 92)]) (by decide +kernel) rfl ?_
              refine zwW_adw (nx := 135) (by decide +kernel) ?_
              intro v43 ev43 lv43 uv43
              have Ev43 : v43 = w32 (((yM h) 92 a.toNat) + c) := by rw [ev43, sv42]
              refine zwW_as Ih41 (a1 := 92) (a2 := 92) (n := 20) (lo := -2147483648) (hi := 2147483647) (nx := 136) (by decide +kernel) ⟨by decide, by decide⟩ ib4 ⟨by omega, by omega⟩ ?_
              intro h44 eh44 Ih44
              have jbh44 : 0 ≤ a.toNat ∧ a.toNat < 20 := ⟨Nat.zero_le _, zit ib4⟩
              have th44_37_0 : fld h44 37 0 = fld h41 37 0 := by rw [eh44]; exact fld_wr (Or.inl (by decide))
              have th44_37_1 : fld h44 37 1 = fld h41 37 1 := by rw [eh44]; exact fld_wr (Or.inl (by decide))
              have th44_37_2 : fld h44 37 2 = fld h41 37 2 := by rw [eh44]; exact fld_wr (Or.inl (by decide))
              have th44_37_64 : fld h44 37 64 = fld h41 37 64 := by rw [eh44]; exact fld_wr (Or.inl (by decide))
              have th44_37_78 : fld h44 37 78 = fld h41 37 78 := by rw [eh44]; exact fld_wr (Or.inl (by decide))
              have Vh44 : mRq q h44 := Vh41.fr (zMR.one (a1 := 92) (a2 := 92) (j1 := 0) (j2 := 20) ⟨by decide, by decide⟩ jbh44 eh44) (by decide +kernel)
              have Uh44 : yM h44 = (zs (zs (zs (zs (zs (yM h) 84 (((yM h) 170 b.toNat).toNat) (w32 (((yM h) 84 (((yM h) 170 b.toNat).toNat)) - (max (yWask q (yM h) 1 a.toNat b.toNat c) 0)))) 84 a.toNat (w32 (((zs (yM h) 84 (((yM h) 170 b.toNat).toNat) (w32 (((yM h) 84 (((yM h) 170 b.toNat).toNat)) - (max (yWask q (yM h) 1 a.toNat b.toNat c) 0)))) 84 a.toNat) + (max (yWask q (yM h) 1 a.toNat b.toNat c) 0)))) 175 b.toNat (w32 (((yM h) 175 b.toNat) - c))) 185 (((yM h) 37 78).toNat) 0) 92 a.toNat (w32 (((yM h) 92 a.toNat) + c))) := by rw [yM_w (a := 92) (n := 20) (i := a.toNat) (kd := 20) rfl (Ih41.s (a1 := 92) (a2 := 92) (by decide +kernel) (by decide) (by decide)) jbh44.2 eh44, Zh41, Ev43]
              have Zh44 : yM h44 = (zs (zs (zs (zs (zs (yM h) 84 (((yM h) 170 b.toNat).toNat) (w32 (((yM h) 84 (((yM h) 170 b.toNat).toNat)) - (max (yWask q (yM h) 1 a.toNat b.toNat c) 0)))) 84 a.toNat (w32 (((zs (yM h) 84 (((yM h) 170 b.toNat).toNat) (w32 (((yM h) 84 (((yM h) 170 b.toNat).toNat)) - (max (yWask q (yM h) 1 a.toNat b.toNat c) 0)))) 84 a.toNat) + (max (yWask q (yM h) 1 a.toNat b.toNat c) 0)))) 92 a.toNat (w32 (((yM h) 92 a.toNat) + c))) 175 b.toNat (w32 (((yM h) 175 b.toNat) - c))) 185 (((yM h) 37 78).toNat) 0) := by rw [Uh44, zs_sw (a := 185) (b := 92) (by decide), zs_sw (a := 175) (b := 92) (by decide)]
              have Rh44 : zMR ms42 h h44 := Rh41.w (a1 := 92) (a2 := 92) (j1 := 0) (j2 := 20) (by decide +kernel) ⟨by decide, by decide⟩ jbh44 eh44
              refine zwW_p [(1, 0, 2), (12, 0, 0)] (q := 138) (ls' := [(2, 37), (0, a), (0, b), (0, c), (0, v19)]) (st' := [(2, 37), (2, 37)]) (by decide +kernel) rfl ?_
              refine zwW_gs Ih44 (kd := 13) (bn := 70) (n := 97) (t := 0) (lo := -2147483648) (hi := 2147483647) (nx := 141) (by decide +kernel) ?_
              intro v45 ev45 lv45 uv45
              have sv45 : v45 = (yM h) 37 70 := Eq.trans ev45 (Eq.trans (Eq.symm (yM_s (h := h44) (i := 70) rfl)) (Eq.trans (congrFun (congrFun Zh44 37) 70) (Eq.trans (zs_na (by decide) : (zs (zs (zs (zs (zs (yM h) 84 (((yM h) 170 b.toNat).toNat) (w32 (((yM h) 84 (((yM h) 170 b.toNat).toNat)) - (max (yWask q (yM h) 1 a.toNat b.toNat c) 0)))) 84 a.toNat (w32 (((zs (yM h) 84 (((yM h) 170 b.toNat).toNat) (w32 (((yM h) 84 (((yM h) 170 b.toNat).toNat)) - (max (yWask q (yM h) 1 a.toNat b.toNat c) 0)))) 84 a.toNat) + (max (yWask q (yM h) 1 a.toNat b.toNat c) 0)))) 92 a.toNat (w32 (((yM h) 92 a.toNat) + c))) 175 b.toNat (w32 (((yM h) 175 b.toNat) - c))) 185 (((yM h) 37 78).toNat) 0) 37 70 = (zs (zs (zs (zs (yM h) 84 (((yM h) 170 b.toNat).toNat) (w32 (((yM h) 84 (((yM h) 170 b.toNat).toNat)) - (max (yWask q (yM h) 1 a.toNat b.toNat c) 0)))) 84 a.toNat (w32 (((zs (yM h) 84 (((yM h) 170 b.toNat).toNat) (w32 (((yM h) 84 (((yM h) 170 b.toNat).toNat)) - (max (yWask q (yM h) 1 a.toNat b.toNat c) 0)))) 84 a.toNat) + (max (yWask q (yM h) 1 a.toNat b.toNat c) 0)))) 92 a.toNat (w32 (((yM h) 92 a.toNat) + c))) 175 b.toNat (w32 (((yM h) 175 b.toNat) - c))) 37 70) (Eq.trans (zs_na (by decide) : (zs (zs (zs (zs (yM h) 84 (((yM h) 170 b.toNat).toNat) (w32 (((yM h) 84 (((yM h) 170 b.toNat).toNat)) - (max (yWask q (yM h) 1 a.toNat b.toNat c) 0)))) 84 a.toNat (w32 (((zs (yM h) 84 (((yM h) 170 b.toNat).toNat) (w32 (((yM h) 84 (((yM h) 170 b.toNat).toNat)) - (max (yWask q (yM h) 1 a.toNat b.toNat c) 0)))) 84 a.toNat) + (max (yWask q (yM h) 1 a.toNat b.toNat c) 0)))) 92 a.toNat (w32 (((yM h) 92 a.toNat) + c))) 175 b.toNat (w32 (((yM h) 175 b.toNat) - c))) 37 70 = (zs (zs (zs (yM h) 84 (((yM h) 170 b.toNat).toNat) (w32 (((yM h) 84 (((yM h) 170 b.toNat).toNat)) - (max (yWask q (yM h) 1 a.toNat b.toNat c) 0)))) 84 a.toNat (w32 (((zs (yM h) 84 (((yM h) 170 b.toNat).toNat) (w32 (((yM h) 84 (((yM h) 170 b.toNat).toNat)) - (max (yWask q (yM h) 1 a.toNat b.toNat c) 0)))) 84 a.toNat) + (max (yWask q (yM h) 1 a.toNat b.toNat c) 0)))) 92 a.toNat (w32 (((yM h) 92 a.toNat) + c))) 37 70) (Eq.trans (zs_na (by decide) : (zs (zs (zs (yM h) 84 (((yM h) 170 b.toNat).toNat) (w32 (((yM h) 84 (((yM h) 170 b.toNat).toNat)) - (max (yWask q (yM h) 1 a.toNat b.toNat c) 0)))) 84 a.toNat (w32 (((zs (yM h) 84 (((yM h) 170 b.toNat).toNat) (w32 (((yM h) 84 (((yM h) 170 b.toNat).toNat)) - (max (yWask q (yM h) 1 a.toNat b.toNat c) 0)))) 84 a.toNat) + (max (yWask q (yM h) 1 a.toNat b.toNat c) 0)))) 92 a.toNat (w32 (((yM h) 92 a.toNat) + c))) 37 70 = (zs (zs (yM h) 84 (((yM h) 170 b.toNat).toNat) (w32 (((yM h) 84 (((yM h) 170 b.toNat).toNat)) - (max (yWask q (yM h) 1 a.toNat b.toNat c) 0)))) 84 a.toNat (w32 (((zs (yM h) 84 (((yM h) 170 b.toNat).toNat) (w32 (((yM h) 84 (((yM h) 170 b.toNat).toNat)) - (max (yWask q (yM h) 1 a.toNat b.toNat c) 0)))) 84 a.toNat) + (max (yWask q (yM h) 1 a.toNat b.toNat c) 0)))) 37 70) (Eq.trans (zs_na (by decide) : (zs (zs (yM h) 84 (((yM h) 170 b.toNat).toNat) (w32 (((yM h) 84 (((yM h) 170 b.toNat).toNat)) - (max (yWask q (yM h) 1 a.toNat b.toNat c) 0)))) 84 a.toNat (w32 (((zs (yM h) 84 (((yM h) 170 b.toNat).toNat) (w32 (((yM h) 84 (((yM h) 170 b.toNat).toNat)) - (max (yWask q (yM h) 1 a.toNat b.toNat c) 0)))) 84 a.toNat) + (max (yWask q (yM h) 1 a.toNat b.toNat c) 0)))) 37 70 = (zs (yM h) 84 (((yM h) 170 b.toNat).toNat) (w32 (((yM h) 84 (((yM h) 170 b.toNat).toNat)) - (max (yWask q (yM h) 1 a.toNat b.toNat c) 0)))) 37 70) (Eq.trans (zs_na (by decide) : (zs (yM h) 84 (((yM h) 170 b.toNat).toNat) (w32 (((yM h) 84 (((yM h) 170 b.toNat).toNat)) - (max (yWask q (yM h) 1 a.toNat b.toNat c) 0)))) 37 70 = (yM h) 37 70) rfl)))))))
              refine zwW_p [(1, 3, 0)] (q := 142) (ls' := [(2, 37), (0, a), (0, b), (0, c), (0, v19)]) (st' := [(0, c), (0, v45), (2, 37)]) (by decide +kernel) rfl ?_
              refine zwW_adw (nx := 143) (by decide +kernel) ?_
              intro v46 ev46 lv46 uv46
              have Ev46 : v46 = w32 (((yM h) 37 70) + c) := by rw [ev46, sv45]
              refine zwW_ps Ih44 (kd := 13) (bn := 70) (n := 97) (lo := -2147483648) (hi := 2147483647) (nx := 146) (by decide +kernel) ⟨by omega, by omega⟩ ?_
              intro h47 eh47 Ih47
              have th47_37_0 : fld h47 37 0 = fld h44 37 0 := by rw [eh47]; exact fld_wr (by decide)
              have th47_37_1 : fld h47 37 1 = fld h44 37 1 := by rw [eh47]; exact fld_wr (by decide)
              have th47_37_2 : fld h47 37 2 = fld h44 37 2 := by rw [eh47]; exact fld_wr (by decide)
              have th47_37_64 : fld h47 37 64 = fld h44 37 64 := by rw [eh47]; exact fld_wr (by decide)
              have th47_37_78 : fld h47 37 78 = fld h44 37 78 := by rw [eh47]; exact fld_wr (by decide)
              have Vh47 : mRq q h47 := Vh44.fr (zMR.one (a1 := 37) (a2 := 37) (j1 := 70) (j2 := 71) ⟨by decide, by decide⟩ ⟨by decide, by decide⟩ eh47) (by decide +kernel)
              have Zh47 : yM h47 = (zs (zs (zs (zs (zs (zs (yM h) 84 (((yM h) 170 b.toNat).toNat) (w32 (((yM h) 84 (((yM h) 170 b.toNat).toNat)) - (max (yWask q (yM h) 1 a.toNat b.toNat c) 0)))) 84 a.toNat (w32 (((zs (yM h) 84 (((yM h) 170 b.toNat).toNat) (w32 (((yM h) 84 (((yM h) 170 b.toNat).toNat)) - (max (yWask q (yM h) 1 a.toNat b.toNat c) 0)))) 84 a.toNat) + (max (yWask q (yM h) 1 a.toNat b.toNat c) 0)))) 92 a.toNat (w32 (((yM h) 92 a.toNat) + c))) 175 b.toNat (w32 (((yM h) 175 b.toNat) - c))) 185 (((yM h) 37 78).toNat) 0) 37 70 (w32 (((yM h) 37 70) + c))) := by rw [yM_ws (i := 70) (kd := 13) (n := 97) rfl (Ih44.s (a1 := 37) (a2 := 37) (by decide +kernel) (by decide) (by decide)) (by decide) eh47, Zh44, Ev46]
              have Rh47 : zMR ms42 h h47 := Rh44.w (a1 := 37) (a2 := 37) (j1 := 70) (j2 := 71) (by decide +kernel) ⟨by decide, by decide⟩ ⟨by decide, by decide⟩ eh47
              refine zwW_p [(1, 0, 2)] (q := 147) (ls' := [(2, 37), (0, a), (0, b), (0, c), (0, v19)]) (st' := [(2, 37)]) (by decide +kernel) rfl ?_
              refine zwW_gc Ih47 (kd := 13) (bn := 72) (n := 97) (c := 180) (nx := 150) (by decide +kernel) ?_
              refine zwW_p [(1, 0, 2)] (q := 151) (ls' := [(2, 37), (0, a), (0, b), (0, c), (0, v19)]) (st' := [(2, 37), (2, 180)]) (by decide +kernel) rfl ?_
              refine zwW_gs Ih47 (kd := 13) (bn := 78) (n := 97) (t := 0) (lo := 0) (hi := 200) (nx := 154) (by decide +kernel) ?_
              intro v48 ev48 lv48 uv48
              have sv48 : v48 = (yM h) 37 78 := Eq.trans ev48 (Eq.trans (Eq.symm (yM_s (h := h47) (i := 78) rfl)) (Eq.trans (congrFun (congrFun Zh47 37) 78) (Eq.trans (zs_ni (by decide) : (zs (zs (zs (zs (zs (zs (yM h) 84 (((yM h) 170 b.toNat).toNat) (w32 (((yM h) 84 (((yM h) 170 b.toNat).toNat)) - (max (yWask q (yM h) 1 a.toNat b.toNat c) 0)))) 84 a.toNat (w32 (((zs (yM h) 84 (((yM h) 170 b.toNat).toNat) (w32 (((yM h) 84 (((yM h) 170 b.toNat).toNat)) - (max (yWask q (yM h) 1 a.toNat b.toNat c) 0)))) 84 a.toNat) + (max (yWask q (yM h) 1 a.toNat b.toNat c) 0)))) 92 a.toNat (w32 (((yM h) 92 a.toNat) + c))) 175 b.toNat (w32 (((yM h) 175 b.toNat) - c))) 185 (((yM h) 37 78).toNat) 0) 37 70 (w32 (((yM h) 37 70) + c))) 37 78 = (zs (zs (zs (zs (zs (yM h) 84 (((yM h) 170 b.toNat).toNat) (w32 (((yM h) 84 (((yM h) 170 b.toNat).toNat)) - (max (yWask q (yM h) 1 a.toNat b.toNat c) 0)))) 84 a.toNat (w32 (((zs (yM h) 84 (((yM h) 170 b.toNat).toNat) (w32 (((yM h) 84 (((yM h) 170 b.toNat).toNat)) - (max (yWask q (yM h) 1 a.toNat b.toNat c) 0)))) 84 a.toNat) + (max (yWask q (yM h) 1 a.toNat b.toNat c) 0)))) 92 a.toNat (w32 (((yM h) 92 a.toNat) + c))) 175 b.toNat (w32 (((yM h) 175 b.toNat) - c))) 185 (((yM h) 37 78).toNat) 0) 37 78) (Eq.trans (zs_na (by decide) : (zs (zs (zs (zs (zs (yM h) 84 (((yM h) 170 b.toNat).toNat) (w32 (((yM h) 84 (((yM h) 170 b.toNat).toNat)) - (max (yWask q (yM h) 1 a.toNat b.toNat c) 0)))) 84 a.toNat (w32 (((zs (yM h) 84 (((yM h) 170 b.toNat).toNat) (w32 (((yM h) 84 (((yM h) 170 b.toNat).toNat)) - (max (yWask q (yM h) 1 a.toNat b.toNat c) 0)))) 84 a.toNat) + (max (yWask q (yM h) 1 a.toNat b.toNat c) 0)))) 92 a.toNat (w32 (((yM h) 92 a.toNat) + c))) 175 b.toNat (w32 (((yM h) 175 b.toNat) - c))) 185 (((yM h) 37 78).toNat) 0) 37 78 = (zs (zs (zs (zs (yM h) 84 (((yM h) 170 b.toNat).toNat) (w32 (((yM h) 84 (((yM h) 170 b.toNat).toNat)) - (max (yWask q (yM h) 1 a.toNat b.toNat c) 0)))) 84 a.toNat (w32 (((zs (yM h) 84 (((yM h) 170 b.toNat).toNat) (w32 (((yM h) 84 (((yM h) 170 b.toNat).toNat)) - (max (yWask q (yM h) 1 a.toNat b.toNat c) 0)))) 84 a.toNat) + (max (yWask q (yM h) 1 a.toNat b.toNat c) 0)))) 92 a.toNat (w32 (((yM h) 92 a.toNat) + c))) 175 b.toNat (w32 (((yM h) 175 b.toNat) - c))) 37 78) (Eq.trans (zs_na (by decide) : (zs (zs (zs (zs (yM h) 84 (((yM h) 170 b.toNat).toNat) (w32 (((yM h) 84 (((yM h) 170 b.toNat).toNat)) - (max (yWask q (yM h) 1 a.toNat b.toNat c) 0)))) 84 a.toNat (w32 (((zs (yM h) 84 (((yM h) 170 b.toNat).toNat) (w32 (((yM h) 84 (((yM h) 170 b.toNat).toNat)) - (max (yWask q (yM h) 1 a.toNat b.toNat c) 0)))) 84 a.toNat) + (max (yWask q (yM h) 1 a.toNat b.toNat c) 0)))) 92 a.toNat (w32 (((yM h) 92 a.toNat) + c))) 175 b.toNat (w32 (((yM h) 175 b.toNat) - c))) 37 78 = (zs (zs (zs (yM h) 84 (((yM h) 170 b.toNat).toNat) (w32 (((yM h) 84 (((yM h) 170 b.toNat).toNat)) - (max (yWask q (yM h) 1 a.toNat b.toNat c) 0)))) 84 a.toNat (w32 (((zs (yM h) 84 (((yM h) 170 b.toNat).toNat) (w32 (((yM h) 84 (((yM h) 170 b.toNat).toNat)) - (max (yWask q (yM h) 1 a.toNat b.toNat c) 0)))) 84 a.toNat) + (max (yWask q (yM h) 1 a.toNat b.toNat c) 0)))) 92 a.toNat (w32 (((yM h) 92 a.toNat) + c))) 37 78) (Eq.trans (zs_na (by decide) : (zs (zs (zs (yM h) 84 (((yM h) 170 b.toNat).toNat) (w32 (((yM h) 84 (((yM h) 170 b.toNat).toNat)) - (max (yWask q (yM h) 1 a.toNat b.toNat c) 0)))) 84 a.toNat (w32 (((zs (yM h) 84 (((yM h) 170 b.toNat).toNat) (w32 (((yM h) 84 (((yM h) 170 b.toNat).toNat)) - (max (yWask q (yM h) 1 a.toNat b.toNat c) 0)))) 84 a.toNat) + (max (yWask q (yM h) 1 a.toNat b.toNat c) 0)))) 92 a.toNat (w32 (((yM h) 92 a.toNat) + c))) 37 78 = (zs (zs (yM h) 84 (((yM h) 170 b.toNat).toNat) (w32 (((yM h) 84 (((yM h) 170 b.toNat).toNat)) - (max (yWask q (yM h) 1 a.toNat b.toNat c) 0)))) 84 a.toNat (w32 (((zs (yM h) 84 (((yM h) 170 b.toNat).toNat) (w32 (((yM h) 84 (((yM h) 170 b.toNat).toNat)) - (max (yWask q (yM h) 1 a.toNat b.toNat c) 0)))) 84 a.toNat) + (max (yWask q (yM h) 1 a.toNat b.toNat c) 0)))) 37 78) (Eq.trans (zs_na (by decide) : (zs (zs (yM h) 84 (((yM h) 170 b.toNat).toNat) (w32 (((yM h) 84 (((yM h) 170 b.toNat).toNat)) - (max (yWask q (yM h) 1 a.toNat b.toNat c) 0)))) 84 a.toNat (w32 (((zs (yM h) 84 (((yM h) 170 b.toNat).toNat) (w32 (((yM h) 84 (((yM h) 170 b.toNat).toNat)) - (max (yWask q (yM h) 1 a.toNat b.toNat c) 0)))) 84 a.toNat) + (max (yWask q (yM h) 1 a.toNat b.toNat c) 0)))) 37 78 = (zs (yM h) 84 (((yM h) 170 b.toNat).toNat) (w32 (((yM h) 84 (((yM h) 170 b.toNat).toNat)) - (max (yWask q (yM h) 1 a.toNat b.toNat c) 0)))) 37 78) (Eq.trans (zs_na (by decide) : (zs (yM h) 84 (((yM h) 170 b.toNat).toNat) (w32 (((yM h) 84 (((yM h) 170 b.toNat).toNat)) - (max (yWask q (yM h) 1 a.toNat b.toNat c) 0)))) 37 78 = (yM h) 37 78) rfl))))))))
              refine zwW_p [(1, 2, 0)] (q := 155) (ls' := [(2, 37), (0, a), (0, b), (0, c), (0, v19)]) (st' := [(0, b), (0, v48), (2, 180)]) (by decide +kernel) rfl ?_
              have ib5 : 0 ≤ v48 ∧ v48 < ((200 : Nat) : Int) := ⟨by omega, by omega⟩
              refine zwW_as Ih47 (a1 := 180) (a2 := 180) (n := 200) (lo := 0) (hi := 299) (nx := 156) (by decide +kernel) ⟨by decide, by decide⟩ ib5 ⟨by omega, by omega⟩ ?_
              intro h49 eh49 Ih49
              have jbh49 : 0 ≤ v48.toNat ∧ v48.toNat < 200 := ⟨Nat.zero_le _, zit ib5⟩
              have th49_37_0 : fld h49 37 0 = fld h47 37 0 := by rw [eh49]; exact fld_wr (Or.inl (by decide))
              have th49_37_1 : fld h49 37 1 = fld h47 37 1 := by rw [eh49]; exact fld_wr (Or.inl (by decide))
              have th49_37_2 : fld h49 37 2 = fld h47 37 2 := by rw [eh49]; exact fld_wr (Or.inl (by decide))
              have th49_37_64 : fld h49 37 64 = fld h47 37 64 := by rw [eh49]; exact fld_wr (Or.inl (by decide))
              have th49_37_78 : fld h49 37 78 = fld h47 37 78 := by rw [eh49]; exact fld_wr (Or.inl (by decide))
              have Vh49 : mRq q h49 := Vh47.fr (zMR.one (a1 := 180) (a2 := 180) (j1 := 0) (j2 := 200) ⟨by decide, by decide⟩ jbh49 eh49) (by decide +kernel)
              have Uh49 : yM h49 = (zs (zs (zs (zs (zs (zs (zs (yM h) 84 (((yM h) 170 b.toNat).toNat) (w32 (((yM h) 84 (((yM h) 170 b.toNat).toNat)) - (max (yWask q (yM h) 1 a.toNat b.toNat c) 0)))) 84 a.toNat (w32 (((zs (yM h) 84 (((yM h) 170 b.toNat).toNat) (w32 (((yM h) 84 (((yM h) 170 b.toNat).toNat)) - (max (yWask q (yM h) 1 a.toNat b.toNat c) 0)))) 84 a.toNat) + (max (yWask q (yM h) 1 a.toNat b.toNat c) 0)))) 92 a.toNat (w32 (((yM h) 92 a.toNat) + c))) 175 b.toNat (w32 (((yM h) 175 b.toNat) - c))) 185 (((yM h) 37 78).toNat) 0) 37 70 (w32 (((yM h) 37 70) + c))) 180 (((yM h) 37 78).toNat) b) := by rw [yM_w (a := 180) (n := 200) (i := v48.toNat) (kd := 20) rfl (Ih47.s (a1 := 180) (a2 := 180) (by decide +kernel) (by decide) (by decide)) jbh49.2 eh49, Zh47, sv48]
              have Zh49 : yM h49 = (zs (zs (zs (zs (zs (zs (zs (yM h) 84 (((yM h) 170 b.toNat).toNat) (w32 (((yM h) 84 (((yM h) 170 b.toNat).toNat)) - (max (yWask q (yM h) 1 a.toNat b.toNat c) 0)))) 84 a.toNat (w32 (((zs (yM h) 84 (((yM h) 170 b.toNat).toNat) (w32 (((yM h) 84 (((yM h) 170 b.toNat).toNat)) - (max (yWask q (yM h) 1 a.toNat b.toNat c) 0)))) 84 a.toNat) + (max (yWask q (yM h) 1 a.toNat b.toNat c) 0)))) 92 a.toNat (w32 (((yM h) 92 a.toNat) + c))) 175 b.toNat (w32 (((yM h) 175 b.toNat) - c))) 180 (((yM h) 37 78).toNat) b) 185 (((yM h) 37 78).toNat) 0) 37 70 (w32 (((yM h) 37 70) + c))) := by rw [Uh49, zs_sw (a := 37) (b := 180) (by decide), zs_sw (a := 185) (b := 180) (by decide)]
              have Rh49 : zMR ms42 h h49 := Rh47.w (a1 := 180) (a2 := 180) (j1 := 0) (j2 := 200) (by decide +kernel) ⟨by decide, by decide⟩ jbh49 eh49
              refine zwW_p [(1, 0, 2)] (q := 157) (ls' := [(2, 37), (0, a), (0, b), (0, c), (0, v19)]) (st' := [(2, 37)]) (by decide +kernel) rfl ?_
              refine zwW_gc Ih49 (kd := 13) (bn := 73) (n := 97) (c := 181) (nx := 160) (by decide +kernel) ?_
              refine zwW_p [(1, 0, 2)] (q := 161) (ls' := [(2, 37), (0, a), (0, b), (0, c), (0, v19)]) (st' := [(2, 37), (2, 181)]) (by decide +kernel) rfl ?_
              refine zwW_gs Ih49 (kd := 13) (bn := 78) (n := 97) (t := 0) (lo := 0) (hi := 200) (nx := 164) (by decide +kernel) ?_
              intro v50 ev50 lv50 uv50
              have sv50 : v50 = (yM h) 37 78 := Eq.trans ev50 (Eq.trans (Eq.symm (yM_s (h := h49) (i := 78) rfl)) (Eq.trans (congrFun (congrFun Zh49 37) 78) (Eq.trans (zs_ni (by decide) : (zs (zs (zs (zs (zs (zs (zs (yM h) 84 (((yM h) 170 b.toNat).toNat) (w32 (((yM h) 84 (((yM h) 170 b.toNat).toNat)) - (max (yWask q (yM h) 1 a.toNat b.toNat c) 0)))) 84 a.toNat (w32 (((zs (yM h) 84 (((yM h) 170 b.toNat).toNat) (w32 (((yM h) 84 (((yM h) 170 b.toNat).toNat)) - (max (yWask q (yM h) 1 a.toNat b.toNat c) 0)))) 84 a.toNat) + (max (yWask q (yM h) 1 a.toNat b.toNat c) 0)))) 92 a.toNat (w32 (((yM h) 92 a.toNat) + c))) 175 b.toNat (w32 (((yM h) 175 b.toNat) - c))) 180 (((yM h) 37 78).toNat) b) 185 (((yM h) 37 78).toNat) 0) 37 70 (w32 (((yM h) 37 70) + c))) 37 78 = (zs (zs (zs (zs (zs (zs (yM h) 84 (((yM h) 170 b.toNat).toNat) (w32 (((yM h) 84 (((yM h) 170 b.toNat).toNat)) - (max (yWask q (yM h) 1 a.toNat b.toNat c) 0)))) 84 a.toNat (w32 (((zs (yM h) 84 (((yM h) 170 b.toNat).toNat) (w32 (((yM h) 84 (((yM h) 170 b.toNat).toNat)) - (max (yWask q (yM h) 1 a.toNat b.toNat c) 0)))) 84 a.toNat) + (max (yWask q (yM h) 1 a.toNat b.toNat c) 0)))) 92 a.toNat (w32 (((yM h) 92 a.toNat) + c))) 175 b.toNat (w32 (((yM h) 175 b.toNat) - c))) 180 (((yM h) 37 78).toNat) b) 185 (((yM h) 37 78).toNat) 0) 37 78) (Eq.trans (zs_na (by decide) : (zs (zs (zs (zs (zs (zs (yM h) 84 (((yM h) 170 b.toNat).toNat) (w32 (((yM h) 84 (((yM h) 170 b.toNat).toNat)) - (max (yWask q (yM h) 1 a.toNat b.toNat c) 0)))) 84 a.toNat (w32 (((zs (yM h) 84 (((yM h) 170 b.toNat).toNat) (w32 (((yM h) 84 (((yM h) 170 b.toNat).toNat)) - (max (yWask q (yM h) 1 a.toNat b.toNat c) 0)))) 84 a.toNat) + (max (yWask q (yM h) 1 a.toNat b.toNat c) 0)))) 92 a.toNat (w32 (((yM h) 92 a.toNat) + c))) 175 b.toNat (w32 (((yM h) 175 b.toNat) - c))) 180 (((yM h) 37 78).toNat) b) 185 (((yM h) 37 78).toNat) 0) 37 78 = (zs (zs (zs (zs (zs (yM h) 84 (((yM h) 170 b.toNat).toNat) (w32 (((yM h) 84 (((yM h) 170 b.toNat).toNat)) - (max (yWask q (yM h) 1 a.toNat b.toNat c) 0)))) 84 a.toNat (w32 (((zs (yM h) 84 (((yM h) 170 b.toNat).toNat) (w32 (((yM h) 84 (((yM h) 170 b.toNat).toNat)) - (max (yWask q (yM h) 1 a.toNat b.toNat c) 0)))) 84 a.toNat) + (max (yWask q (yM h) 1 a.toNat b.toNat c) 0)))) 92 a.toNat (w32 (((yM h) 92 a.toNat) + c))) 175 b.toNat (w32 (((yM h) 175 b.toNat) - c))) 180 (((yM h) 37 78).toNat) b) 37 78) (Eq.trans (zs_na (by decide) : (zs (zs (zs (zs (zs (yM h) 84 (((yM h) 170 b.toNat).toNat) (w32 (((yM h) 84 (((yM h) 170 b.toNat).toNat)) - (max (yWask q (yM h) 1 a.toNat b.toNat c) 0)))) 84 a.toNat (w32 (((zs (yM h) 84 (((yM h) 170 b.toNat).toNat) (w32 (((yM h) 84 (((yM h) 170 b.toNat).toNat)) - (max (yWask q (yM h) 1 a.toNat b.toNat c) 0)))) 84 a.toNat) + (max (yWask q (yM h) 1 a.toNat b.toNat c) 0)))) 92 a.toNat (w32 (((yM h) 92 a.toNat) + c))) 175 b.toNat (w32 (((yM h) 175 b.toNat) - c))) 180 (((yM h) 37 78).toNat) b) 37 78 = (zs (zs (zs (zs (yM h) 84 (((yM h) 170 b.toNat).toNat) (w32 (((yM h) 84 (((yM h) 170 b.toNat).toNat)) - (max (yWask q (yM h) 1 a.toNat b.toNat c) 0)))) 84 a.toNat (w32 (((zs (yM h) 84 (((yM h) 170 b.toNat).toNat) (w32 (((yM h) 84 (((yM h) 170 b.toNat).toNat)) - (max (yWask q (yM h) 1 a.toNat b.toNat c) 0)))) 84 a.toNat) + (max (yWask q (yM h) 1 a.toNat b.toNat c) 0)))) 92 a.toNat (w32 (((yM h) 92 a.toNat) + c))) 175 b.toNat (w32 (((yM h) 175 b.toNat) - c))) 37 78) (Eq.trans (zs_na (by decide) : (zs (zs (zs (zs (yM h) 84 (((yM h) 170 b.toNat).toNat) (w32 (((yM h) 84 (((yM h) 170 b.toNat).toNat)) - (max (yWask q (yM h) 1 a.toNat b.toNat c) 0)))) 84 a.toNat (w32 (((zs (yM h) 84 (((yM h) 170 b.toNat).toNat) (w32 (((yM h) 84 (((yM h) 170 b.toNat).toNat)) - (max (yWask q (yM h) 1 a.toNat b.toNat c) 0)))) 84 a.toNat) + (max (yWask q (yM h) 1 a.toNat b.toNat c) 0)))) 92 a.toNat (w32 (((yM h) 92 a.toNat) + c))) 175 b.toNat (w32 (((yM h) 175 b.toNat) - c))) 37 78 = (zs (zs (zs (yM h) 84 (((yM h) 170 b.toNat).toNat) (w32 (((yM h) 84 (((yM h) 170 b.toNat).toNat)) - (max (yWask q (yM h) 1 a.toNat b.toNat c) 0)))) 84 a.toNat (w32 (((zs (yM h) 84 (((yM h) 170 b.toNat).toNat) (w32 (((yM h) 84 (((yM h) 170 b.toNat).toNat)) - (max (yWask q (yM h) 1 a.toNat b.toNat c) 0)))) 84 a.toNat) + (max (yWask q (yM h) 1 a.toNat b.toNat c) 0)))) 92 a.toNat (w32 (((yM h) 92 a.toNat) + c))) 37 78) (Eq.trans (zs_na (by decide) : (zs (zs (zs (yM h) 84 (((yM h) 170 b.toNat).toNat) (w32 (((yM h) 84 (((yM h) 170 b.toNat).toNat)) - (max (yWask q (yM h) 1 a.toNat b.toNat c) 0)))) 84 a.toNat (w32 (((zs (yM h) 84 (((yM h) 170 b.toNat).toNat) (w32 (((yM h) 84 (((yM h) 170 b.toNat).toNat)) - (max (yWask q (yM h) 1 a.toNat b.toNat c) 0)))) 84 a.toNat) + (max (yWask q (yM h) 1 a.toNat b.toNat c) 0)))) 92 a.toNat (w32 (((yM h) 92 a.toNat) + c))) 37 78 = (zs (zs (yM h) 84 (((yM h) 170 b.toNat).toNat) (w32 (((yM h) 84 (((yM h) 170 b.toNat).toNat)) - (max (yWask q (yM h) 1 a.toNat b.toNat c) 0)))) 84 a.toNat (w32 (((zs (yM h) 84 (((yM h) 170 b.toNat).toNat) (w32 (((yM h) 84 (((yM h) 170 b.toNat).toNat)) - (max (yWask q (yM h) 1 a.toNat b.toNat c) 0)))) 84 a.toNat) + (max (yWask q (yM h) 1 a.toNat b.toNat c) 0)))) 37 78) (Eq.trans (zs_na (by decide) : (zs (zs (yM h) 84 (((yM h) 170 b.toNat).toNat) (w32 (((yM h) 84 (((yM h) 170 b.toNat).toNat)) - (max (yWask q (yM h) 1 a.toNat b.toNat c) 0)))) 84 a.toNat (w32 (((zs (yM h) 84 (((yM h) 170 b.toNat).toNat) (w32 (((yM h) 84 (((yM h) 170 b.toNat).toNat)) - (max (yWask q (yM h) 1 a.toNat b.toNat c) 0)))) 84 a.toNat) + (max (yWask q (yM h) 1 a.toNat b.toNat c) 0)))) 37 78 = (zs (yM h) 84 (((yM h) 170 b.toNat).toNat) (w32 (((yM h) 84 (((yM h) 170 b.toNat).toNat)) - (max (yWask q (yM h) 1 a.toNat b.toNat c) 0)))) 37 78) (Eq.trans (zs_na (by decide) : (zs (yM h) 84 (((yM h) 170 b.toNat).toNat) (w32 (((yM h) 84 (((yM h) 170 b.toNat).toNat)) - (max (yWask q (yM h) 1 a.toNat b.toNat c) 0)))) 37 78 = (yM h) 37 78) rfl)))))))))
              refine zwW_p [(1, 1, 0)] (q := 165) (ls' := [(2, 37), (0, a), (0, b), (0, c), (0, v19)]) (st' := [(0, a), (0, v50), (2, 181)]) (by decide +kernel) rfl ?_
              have ib6 : 0 ≤ v50 ∧ v50 < ((200 : Nat) : Int) := ⟨by omega, by omega⟩
              refine zwW_as Ih49 (a1 := 181) (a2 := 181) (n := 200) (lo := 0) (hi := 19) (nx := 166) (by decide +kernel) ⟨by decide, by decide⟩ ib6 ⟨by omega, by omega⟩ ?_
              intro h51 eh51 Ih51
              have jbh51 : 0 ≤ v50.toNat ∧ v50.toNat < 200 := ⟨Nat.zero_le _, zit ib6⟩
              have th51_37_0 : fld h51 37 0 = fld h49 37 0 := by rw [eh51]; exact fld_wr (Or.inl (by decide))
              have th51_37_1 : fld h51 37 1 = fld h49 37 1 := by rw [eh51]; exact fld_wr (Or.inl (by decide))
              have th51_37_2 : fld h51 37 2 = fld h49 37 2 := by rw [eh51]; exact fld_wr (Or.inl (by decide))
              have th51_37_64 : fld h51 37 64 = fld h49 37 64 := by rw [eh51]; exact fld_wr (Or.inl (by decide))
              have th51_37_78 : fld h51 37 78 = fld h49 37 78 := by rw [eh51]; exact fld_wr (Or.inl (by decide))
              have Vh51 : mRq q h51 := Vh49.fr (zMR.one (a1 := 181) (a2 := 181) (j1 := 0) (j2 := 200) ⟨by decide, by decide⟩ jbh51 eh51) (by decide +kernel)
              have Uh51 : yM h51 = (zs (zs (zs (zs (zs (zs (zs (zs (yM h) 84 (((yM h) 170 b.toNat).toNat) (w32 (((yM h) 84 (((yM h) 170 b.toNat).toNat)) - (max (yWask q (yM h) 1 a.toNat b.toNat c) 0)))) 84 a.toNat (w32 (((zs (yM h) 84 (((yM h) 170 b.toNat).toNat) (w32 (((yM h) 84 (((yM h) 170 b.toNat).toNat)) - (max (yWask q (yM h) 1 a.toNat b.toNat c) 0)))) 84 a.toNat) + (max (yWask q (yM h) 1 a.toNat b.toNat c) 0)))) 92 a.toNat (w32 (((yM h) 92 a.toNat) + c))) 175 b.toNat (w32 (((yM h) 175 b.toNat) - c))) 180 (((yM h) 37 78).toNat) b) 185 (((yM h) 37 78).toNat) 0) 37 70 (w32 (((yM h) 37 70) + c))) 181 (((yM h) 37 78).toNat) a) := by rw [yM_w (a := 181) (n := 200) (i := v50.toNat) (kd := 20) rfl (Ih49.s (a1 := 181) (a2 := 181) (by decide +kernel) (by decide) (by decide)) jbh51.2 eh51, Zh49, sv50]
              have Zh51 : yM h51 = (zs (zs (zs (zs (zs (zs (zs (zs (yM h) 84 (((yM h) 170 b.toNat).toNat) (w32 (((yM h) 84 (((yM h) 170 b.toNat).toNat)) - (max (yWask q (yM h) 1 a.toNat b.toNat c) 0)))) 84 a.toNat (w32 (((zs (yM h) 84 (((yM h) 170 b.toNat).toNat) (w32 (((yM h) 84 (((yM h) 170 b.toNat).toNat)) - (max (yWask q (yM h) 1 a.toNat b.toNat c) 0)))) 84 a.toNat) + (max (yWask q (yM h) 1 a.toNat b.toNat c) 0)))) 92 a.toNat (w32 (((yM h) 92 a.toNat) + c))) 175 b.toNat (w32 (((yM h) 175 b.toNat) - c))) 180 (((yM h) 37 78).toNat) b) 181 (((yM h) 37 78).toNat) a) 185 (((yM h) 37 78).toNat) 0) 37 70 (w32 (((yM h) 37 70) + c))) := by rw [Uh51, zs_sw (a := 37) (b := 181) (by decide), zs_sw (a := 185) (b := 181) (by decide)]
              have Rh51 : zMR ms42 h h51 := Rh49.w (a1 := 181) (a2 := 181) (j1 := 0) (j2 := 200) (by decide +kernel) ⟨by decide, by decide⟩ jbh51 eh51
              refine zwW_p [(1, 0, 2)] (q := 167) (ls' := [(2, 37), (0, a), (0, b), (0, c), (0, v19)]) (st' := [(2, 37)]) (by decide +kernel) rfl ?_
              refine zwW_gc Ih51 (kd := 13) (bn := 74) (n := 97) (c := 182) (nx := 170) (by decide +kernel) ?_
              refine zwW_p [(1, 0, 2)] (q := 171) (ls' := [(2, 37), (0, a), (0, b), (0, c), (0, v19)]) (st' := [(2, 37), (2, 182)]) (by decide +kernel) rfl ?_
              refine zwW_gs Ih51 (kd := 13) (bn := 78) (n := 97) (t := 0) (lo := 0) (hi := 200) (nx := 174) (by decide +kernel) ?_
              intro v52 ev52 lv52 uv52
              have sv52 : v52 = (yM h) 37 78 := Eq.trans ev52 (Eq.trans (Eq.symm (yM_s (h := h51) (i := 78) rfl)) (Eq.trans (congrFun (congrFun Zh51 37) 78) (Eq.trans (zs_ni (by decide) : (zs (zs (zs (zs (zs (zs (zs (zs (yM h) 84 (((yM h) 170 b.toNat).toNat) (w32 (((yM h) 84 (((yM h) 170 b.toNat).toNat)) - (max (yWask q (yM h) 1 a.toNat b.toNat c) 0)))) 84 a.toNat (w32 (((zs (yM h) 84 (((yM h) 170 b.toNat).toNat) (w32 (((yM h) 84 (((yM h) 170 b.toNat).toNat)) - (max (yWask q (yM h) 1 a.toNat b.toNat c) 0)))) 84 a.toNat) + (max (yWask q (yM h) 1 a.toNat b.toNat c) 0)))) 92 a.toNat (w32 (((yM h) 92 a.toNat) + c))) 175 b.toNat (w32 (((yM h) 175 b.toNat) - c))) 180 (((yM h) 37 78).toNat) b) 181 (((yM h) 37 78).toNat) a) 185 (((yM h) 37 78).toNat) 0) 37 70 (w32 (((yM h) 37 70) + c))) 37 78 = (zs (zs (zs (zs (zs (zs (zs (yM h) 84 (((yM h) 170 b.toNat).toNat) (w32 (((yM h) 84 (((yM h) 170 b.toNat).toNat)) - (max (yWask q (yM h) 1 a.toNat b.toNat c) 0)))) 84 a.toNat (w32 (((zs (yM h) 84 (((yM h) 170 b.toNat).toNat) (w32 (((yM h) 84 (((yM h) 170 b.toNat).toNat)) - (max (yWask q (yM h) 1 a.toNat b.toNat c) 0)))) 84 a.toNat) + (max (yWask q (yM h) 1 a.toNat b.toNat c) 0)))) 92 a.toNat (w32 (((yM h) 92 a.toNat) + c))) 175 b.toNat (w32 (((yM h) 175 b.toNat) - c))) 180 (((yM h) 37 78).toNat) b) 181 (((yM h) 37 78).toNat) a) 185 (((yM h) 37 78).toNat) 0) 37 78) (Eq.trans (zs_na (by decide) : (zs (zs (zs (zs (zs (zs (zs (yM h) 84 (((yM h) 170 b.toNat).toNat) (w32 (((yM h) 84 (((yM h) 170 b.toNat).toNat)) - (max (yWask q (yM h) 1 a.toNat b.toNat c) 0)))) 84 a.toNat (w32 (((zs (yM h) 84 (((yM h) 170 b.toNat).toNat) (w32 (((yM h) 84 (((yM h) 170 b.toNat).toNat)) - (max (yWask q (yM h) 1 a.toNat b.toNat c) 0)))) 84 a.toNat) + (max (yWask q (yM h) 1 a.toNat b.toNat c) 0)))) 92 a.toNat (w32 (((yM h) 92 a.toNat) + c))) 175 b.toNat (w32 (((yM h) 175 b.toNat) - c))) 180 (((yM h) 37 78).toNat) b) 181 (((yM h) 37 78).toNat) a) 185 (((yM h) 37 78).toNat) 0) 37 78 = (zs (zs (zs (zs (zs (zs (yM h) 84 (((yM h) 170 b.toNat).toNat) (w32 (((yM h) 84 (((yM h) 170 b.toNat).toNat)) - (max (yWask q (yM h) 1 a.toNat b.toNat c) 0)))) 84 a.toNat (w32 (((zs (yM h) 84 (((yM h) 170 b.toNat).toNat) (w32 (((yM h) 84 (((yM h) 170 b.toNat).toNat)) - (max (yWask q (yM h) 1 a.toNat b.toNat c) 0)))) 84 a.toNat) + (max (yWask q (yM h) 1 a.toNat b.toNat c) 0)))) 92 a.toNat (w32 (((yM h) 92 a.toNat) + c))) 175 b.toNat (w32 (((yM h) 175 b.toNat) - c))) 180 (((yM h) 37 78).toNat) b) 181 (((yM h) 37 78).toNat) a) 37 78) (Eq.trans (zs_na (by decide) : (zs (zs (zs (zs (zs (zs (yM h) 84 (((yM h) 170 b.toNat).toNat) (w32 (((yM h) 84 (((yM h) 170 b.toNat).toNat)) - (max (yWask q (yM h) 1 a.toNat b.toNat c) 0)))) 84 a.toNat (w32 (((zs (yM h) 84 (((yM h) 170 b.toNat).toNat) (w32 (((yM h) 84 (((yM h) 170 b.toNat).toNat)) - (max (yWask q (yM h) 1 a.toNat b.toNat c) 0)))) 84 a.toNat) + (max (yWask q (yM h) 1 a.toNat b.toNat c) 0)))) 92 a.toNat (w32 (((yM h) 92 a.toNat) + c))) 175 b.toNat (w32 (((yM h) 175 b.toNat) - c))) 180 (((yM h) 37 78).toNat) b) 181 (((yM h) 37 78).toNat) a) 37 78 = (zs (zs (zs (zs (zs (yM h) 84 (((yM h) 170 b.toNat).toNat) (w32 (((yM h) 84 (((yM h) 170 b.toNat).toNat)) - (max (yWask q (yM h) 1 a.toNat b.toNat c) 0)))) 84 a.toNat (w32 (((zs (yM h) 84 (((yM h) 170 b.toNat).toNat) (w32 (((yM h) 84 (((yM h) 170 b.toNat).toNat)) - (max (yWask q (yM h) 1 a.toNat b.toNat c) 0)))) 84 a.toNat) + (max (yWask q (yM h) 1 a.toNat b.toNat c) 0)))) 92 a.toNat (w32 (((yM h) 92 a.toNat) + c))) 175 b.toNat (w32 (((yM h) 175 b.toNat) - c))) 180 (((yM h) 37 78).toNat) b) 37 78) (Eq.trans (zs_na (by decide) : (zs (zs (zs (zs (zs (yM h) 84 (((yM h) 170 b.toNat).toNat) (w32 (((yM h) 84 (((yM h) 170 b.toNat).toNat)) - (max (yWask q (yM h) 1 a.toNat b.toNat c) 0)))) 84 a.toNat (w32 (((zs (yM h) 84 (((yM h) 170 b.toNat).toNat) (w32 (((yM h) 84 (((yM h) 170 b.toNat).toNat)) - (max (yWask q (yM h) 1 a.toNat b.toNat c) 0)))) 84 a.toNat) + (max (yWask q (yM h) 1 a.toNat b.toNat c) 0)))) 92 a.toNat (w32 (((yM h) 92 a.toNat) + c))) 175 b.toNat (w32 (((yM h) 175 b.toNat) - c))) 180 (((yM h) 37 78).toNat) b) 37 78 = (zs (zs (zs (zs (yM h) 84 (((yM h) 170 b.toNat).toNat) (w32 (((yM h) 84 (((yM h) 170 b.toNat).toNat)) - (max (yWask q (yM h) 1 a.toNat b.toNat c) 0)))) 84 a.toNat (w32 (((zs (yM h) 84 (((yM h) 170 b.toNat).toNat) (w32 (((yM h) 84 (((yM h) 170 b.toNat).toNat)) - (max (yWask q (yM h) 1 a.toNat b.toNat c) 0)))) 84 a.toNat) + (max (yWask q (yM h) 1 a.toNat b.toNat c) 0)))) 92 a.toNat (w32 (((yM h) 92 a.toNat) + c))) 175 b.toNat (w32 (((yM h) 175 b.toNat) - c))) 37 78) (Eq.trans (zs_na (by decide) : (zs (zs (zs (zs (yM h) 84 (((yM h) 170 b.toNat).toNat) (w32 (((yM h) 84 (((yM h) 170 b.toNat).toNat)) - (max (yWask q (yM h) 1 a.toNat b.toNat c) 0)))) 84 a.toNat (w32 (((zs (yM h) 84 (((yM h) 170 b.toNat).toNat) (w32 (((yM h) 84 (((yM h) 170 b.toNat).toNat)) - (max (yWask q (yM h) 1 a.toNat b.toNat c) 0)))) 84 a.toNat) + (max (yWask q (yM h) 1 a.toNat b.toNat c) 0)))) 92 a.toNat (w32 (((yM h) 92 a.toNat) + c))) 175 b.toNat (w32 (((yM h) 175 b.toNat) - c))) 37 78 = (zs (zs (zs (yM h) 84 (((yM h) 170 b.toNat).toNat) (w32 (((yM h) 84 (((yM h) 170 b.toNat).toNat)) - (max (yWask q (yM h) 1 a.toNat b.toNat c) 0)))) 84 a.toNat (w32 (((zs (yM h) 84 (((yM h) 170 b.toNat).toNat) (w32 (((yM h) 84 (((yM h) 170 b.toNat).toNat)) - (max (yWask q (yM h) 1 a.toNat b.toNat c) 0)))) 84 a.toNat) + (max (yWask q (yM h) 1 a.toNat b.toNat c) 0)))) 92 a.toNat (w32 (((yM h) 92 a.toNat) + c))) 37 78) (Eq.trans (zs_na (by decide) : (zs (zs (zs (yM h) 84 (((yM h) 170 b.toNat).toNat) (w32 (((yM h) 84 (((yM h) 170 b.toNat).toNat)) - (max (yWask q (yM h) 1 a.toNat b.toNat c) 0)))) 84 a.toNat (w32 (((zs (yM h) 84 (((yM h) 170 b.toNat).toNat) (w32 (((yM h) 84 (((yM h) 170 b.toNat).toNat)) - (max (yWask q (yM h) 1 a.toNat b.toNat c) 0)))) 84 a.toNat) + (max (yWask q (yM h) 1 a.toNat b.toNat c) 0)))) 92 a.toNat (w32 (((yM h) 92 a.toNat) + c))) 37 78 = (zs (zs (yM h) 84 (((yM h) 170 b.toNat).toNat) (w32 (((yM h) 84 (((yM h) 170 b.toNat).toNat)) - (max (yWask q (yM h) 1 a.toNat b.toNat c) 0)))) 84 a.toNat (w32 (((zs (yM h) 84 (((yM h) 170 b.toNat).toNat) (w32 (((yM h) 84 (((yM h) 170 b.toNat).toNat)) - (max (yWask q (yM h) 1 a.toNat b.toNat c) 0)))) 84 a.toNat) + (max (yWask q (yM h) 1 a.toNat b.toNat c) 0)))) 37 78) (Eq.trans (zs_na (by decide) : (zs (zs (yM h) 84 (((yM h) 170 b.toNat).toNat) (w32 (((yM h) 84 (((yM h) 170 b.toNat).toNat)) - (max (yWask q (yM h) 1 a.toNat b.toNat c) 0)))) 84 a.toNat (w32 (((zs (yM h) 84 (((yM h) 170 b.toNat).toNat) (w32 (((yM h) 84 (((yM h) 170 b.toNat).toNat)) - (max (yWask q (yM h) 1 a.toNat b.toNat c) 0)))) 84 a.toNat) + (max (yWask q (yM h) 1 a.toNat b.toNat c) 0)))) 37 78 = (zs (yM h) 84 (((yM h) 170 b.toNat).toNat) (w32 (((yM h) 84 (((yM h) 170 b.toNat).toNat)) - (max (yWask q (yM h) 1 a.toNat b.toNat c) 0)))) 37 78) (Eq.trans (zs_na (by decide) : (zs (yM h) 84 (((yM h) 170 b.toNat).toNat) (w32 (((yM h) 84 (((yM h) 170 b.toNat).toNat)) - (max (yWask q (yM h) 1 a.toNat b.toNat c) 0)))) 37 78 = (yM h) 37 78) rfl))))))))))
              refine zwW_p [(1, 0, 2)] (q := 175) (ls' := [(2, 37), (0, a), (0, b), (0, c), (0, v19)]) (st' := [(2, 37), (0, v52), (2, 182)]) (by decide +kernel) rfl ?_
              refine zwW_gs Ih51 (kd := 13) (bn := 0) (n := 97) (t := 0) (lo := 0) (hi := 156) (nx := 178) (by decide +kernel) ?_
              intro v53 ev53 lv53 uv53
              have sv53 : v53 = (yM h) 37 0 := Eq.trans ev53 (Eq.trans (Eq.symm (yM_s (h := h51) (i := 0) rfl)) (Eq.trans (congrFun (congrFun Zh51 37) 0) (Eq.trans (zs_ni (by decide) : (zs (zs (zs (zs (zs (zs (zs (zs (yM h) 84 (((yM h) 170 b.toNat).toNat) (w32 (((yM h) 84 (((yM h) 170 b.toNat).toNat)) - (max (yWask q (yM h) 1 a.toNat b.toNat c) 0)))) 84 a.toNat (w32 (((zs (yM h) 84 (((yM h) 170 b.toNat).toNat) (w32 (((yM h) 84 (((yM h) 170 b.toNat).toNat)) - (max (yWask q (yM h) 1 a.toNat b.toNat c) 0)))) 84 a.toNat) + (max (yWask q (yM h) 1 a.toNat b.toNat c) 0)))) 92 a.toNat (w32 (((yM h) 92 a.toNat) + c))) 175 b.toNat (w32 (((yM h) 175 b.toNat) - c))) 180 (((yM h) 37 78).toNat) b) 181 (((yM h) 37 78).toNat) a) 185 (((yM h) 37 78).toNat) 0) 37 70 (w32 (((yM h) 37 70) + c))) 37 0 = (zs (zs (zs (zs (zs (zs (zs (yM h) 84 (((yM h) 170 b.toNat).toNat) (w32 (((yM h) 84 (((yM h) 170 b.toNat).toNat)) - (max (yWask q (yM h) 1 a.toNat b.toNat c) 0)))) 84 a.toNat (w32 (((zs (yM h) 84 (((yM h) 170 b.toNat).toNat) (w32 (((yM h) 84 (((yM h) 170 b.toNat).toNat)) - (max (yWask q (yM h) 1 a.toNat b.toNat c) 0)))) 84 a.toNat) + (max (yWask q (yM h) 1 a.toNat b.toNat c) 0)))) 92 a.toNat (w32 (((yM h) 92 a.toNat) + c))) 175 b.toNat (w32 (((yM h) 175 b.toNat) - c))) 180 (((yM h) 37 78).toNat) b) 181 (((yM h) 37 78).toNat) a) 185 (((yM h) 37 78).toNat) 0) 37 0) (Eq.trans (zs_na (by decide) : (zs (zs (zs (zs (zs (zs (zs (yM h) 84 (((yM h) 170 b.toNat).toNat) (w32 (((yM h) 84 (((yM h) 170 b.toNat).toNat)) - (max (yWask q (yM h) 1 a.toNat b.toNat c) 0)))) 84 a.toNat (w32 (((zs (yM h) 84 (((yM h) 170 b.toNat).toNat) (w32 (((yM h) 84 (((yM h) 170 b.toNat).toNat)) - (max (yWask q (yM h) 1 a.toNat b.toNat c) 0)))) 84 a.toNat) + (max (yWask q (yM h) 1 a.toNat b.toNat c) 0)))) 92 a.toNat (w32 (((yM h) 92 a.toNat) + c))) 175 b.toNat (w32 (((yM h) 175 b.toNat) - c))) 180 (((yM h) 37 78).toNat) b) 181 (((yM h) 37 78).toNat) a) 185 (((yM h) 37 78).toNat) 0) 37 0 = (zs (zs (zs (zs (zs (zs (yM h) 84 (((yM h) 170 b.toNat).toNat) (w32 (((yM h) 84 (((yM h) 170 b.toNat).toNat)) - (max (yWask q (yM h) 1 a.toNat b.toNat c) 0)))) 84 a.toNat (w32 (((zs (yM h) 84 (((yM h) 170 b.toNat).toNat) (w32 (((yM h) 84 (((yM h) 170 b.toNat).toNat)) - (max (yWask q (yM h) 1 a.toNat b.toNat c) 0)))) 84 a.toNat) + (max (yWask q (yM h) 1 a.toNat b.toNat c) 0)))) 92 a.toNat (w32 (((yM h) 92 a.toNat) + c))) 175 b.toNat (w32 (((yM h) 175 b.toNat) - c))) 180 (((yM h) 37 78).toNat) b) 181 (((yM h) 37 78).toNat) a) 37 0) (Eq.trans (zs_na (by decide) : (zs (zs (zs (zs (zs (zs (yM h) 84 (((yM h) 170 b.toNat).toNat) (w32 (((yM h) 84 (((yM h) 170 b.toNat).toNat)) - (max (yWask q (yM h) 1 a.toNat b.toNat c) 0)))) 84 a.toNat (w32 (((zs (yM h) 84 (((yM h) 170 b.toNat).toNat) (w32 (((yM h) 84 (((yM h) 170 b.toNat).toNat)) - (max (yWask q (yM h) 1 a.toNat b.toNat c) 0)))) 84 a.toNat) + (max (yWask q (yM h) 1 a.toNat b.toNat c) 0)))) 92 a.toNat (w32 (((yM h) 92 a.toNat) + c))) 175 b.toNat (w32 (((yM h) 175 b.toNat) - c))) 180 (((yM h) 37 78).toNat) b) 181 (((yM h) 37 78).toNat) a) 37 0 = (zs (zs (zs (zs (zs (yM h) 84 (((yM h) 170 b.toNat).toNat) (w32 (((yM h) 84 (((yM h) 170 b.toNat).toNat)) - (max (yWask q (yM h) 1 a.toNat b.toNat c) 0)))) 84 a.toNat (w32 (((zs (yM h) 84 (((yM h) 170 b.toNat).toNat) (w32 (((yM h) 84 (((yM h) 170 b.toNat).toNat)) - (max (yWask q (yM h) 1 a.toNat b.toNat c) 0)))) 84 a.toNat) + (max (yWask q (yM h) 1 a.toNat b.toNat c) 0)))) 92 a.toNat (w32 (((yM h) 92 a.toNat) + c))) 175 b.toNat (w32 (((yM h) 175 b.toNat) - c))) 180 (((yM h) 37 78).toNat) b) 37 0) (Eq.trans (zs_na (by decide) : (zs (zs (zs (zs (zs (yM h) 84 (((yM h) 170 b.toNat).toNat) (w32 (((yM h) 84 (((yM h) 170 b.toNat).toNat)) - (max (yWask q (yM h) 1 a.toNat b.toNat c) 0)))) 84 a.toNat (w32 (((zs (yM h) 84 (((yM h) 170 b.toNat).toNat) (w32 (((yM h) 84 (((yM h) 170 b.toNat).toNat)) - (max (yWask q (yM h) 1 a.toNat b.toNat c) 0)))) 84 a.toNat) + (max (yWask q (yM h) 1 a.toNat b.toNat c) 0)))) 92 a.toNat (w32 (((yM h) 92 a.toNat) + c))) 175 b.toNat (w32 (((yM h) 175 b.toNat) - c))) 180 (((yM h) 37 78).toNat) b) 37 0 = (zs (zs (zs (zs (yM h) 84 (((yM h) 170 b.toNat).toNat) (w32 (((yM h) 84 (((yM h) 170 b.toNat).toNat)) - (max (yWask q (yM h) 1 a.toNat b.toNat c) 0)))) 84 a.toNat (w32 (((zs (yM h) 84 (((yM h) 170 b.toNat).toNat) (w32 (((yM h) 84 (((yM h) 170 b.toNat).toNat)) - (max (yWask q (yM h) 1 a.toNat b.toNat c) 0)))) 84 a.toNat) + (max (yWask q (yM h) 1 a.toNat b.toNat c) 0)))) 92 a.toNat (w32 (((yM h) 92 a.toNat) + c))) 175 b.toNat (w32 (((yM h) 175 b.toNat) - c))) 37 0) (Eq.trans (zs_na (by decide) : (zs (zs (zs (zs (yM h) 84 (((yM h) 170 b.toNat).toNat) (w32 (((yM h) 84 (((yM h) 170 b.toNat).toNat)) - (max (yWask q (yM h) 1 a.toNat b.toNat c) 0)))) 84 a.toNat (w32 (((zs (yM h) 84 (((yM h) 170 b.toNat).toNat) (w32 (((yM h) 84 (((yM h) 170 b.toNat).toNat)) - (max (yWask q (yM h) 1 a.toNat b.toNat c) 0)))) 84 a.toNat) + (max (yWask q (yM h) 1 a.toNat b.toNat c) 0)))) 92 a.toNat (w32 (((yM h) 92 a.toNat) + c))) 175 b.toNat (w32 (((yM h) 175 b.toNat) - c))) 37 0 = (zs (zs (zs (yM h) 84 (((yM h) 170 b.toNat).toNat) (w32 (((yM h) 84 (((yM h) 170 b.toNat).toNat)) - (max (yWask q (yM h) 1 a.toNat b.toNat c) 0)))) 84 a.toNat (w32 (((zs (yM h) 84 (((yM h) 170 b.toNat).toNat) (w32 (((yM h) 84 (((yM h) 170 b.toNat).toNat)) - (max (yWask q (yM h) 1 a.toNat b.toNat c) 0)))) 84 a.toNat) + (max (yWask q (yM h) 1 a.toNat b.toNat c) 0)))) 92 a.toNat (w32 (((yM h) 92 a.toNat) + c))) 37 0) (Eq.trans (zs_na (by decide) : (zs (zs (zs (yM h) 84 (((yM h) 170 b.toNat).toNat) (w32 (((yM h) 84 (((yM h) 170 b.toNat).toNat)) - (max (yWask q (yM h) 1 a.toNat b.toNat c) 0)))) 84 a.toNat (w32 (((zs (yM h) 84 (((yM h) 170 b.toNat).toNat) (w32 (((yM h) 84 (((yM h) 170 b.toNat).toNat)) - (max (yWask q (yM h) 1 a.toNat b.toNat c) 0)))) 84 a.toNat) + (max (yWask q (yM h) 1 a.toNat b.toNat c) 0)))) 92 a.toNat (w32 (((yM h) 92 a.toNat) + c))) 37 0 = (zs (zs (yM h) 84 (((yM h) 170 b.toNat).toNat) (w32 (((yM h) 84 (((yM h) 170 b.toNat).toNat)) - (max (yWask q (yM h) 1 a.toNat b.toNat c) 0)))) 84 a.toNat (w32 (((zs (yM h) 84 (((yM h) 170 b.toNat).toNat) (w32 (((yM h) 84 (((yM h) 170 b.toNat).toNat)) - (max (yWask q (yM h) 1 a.toNat b.toNat c) 0)))) 84 a.toNat) + (max (yWask q (yM h) 1 a.toNat b.toNat c) 0)))) 37 0) (Eq.trans (zs_na (by decide) : (zs (zs (yM h) 84 (((yM h) 170 b.toNat).toNat) (w32 (((yM h) 84 (((yM h) 170 b.toNat).toNat)) - (max (yWask q (yM h) 1 a.toNat b.toNat c) 0)))) 84 a.toNat (w32 (((zs (yM h) 84 (((yM h) 170 b.toNat).toNat) (w32 (((yM h) 84 (((yM h) 170 b.toNat).toNat)) - (max (yWask q (yM h) 1 a.toNat b.toNat c) 0)))) 84 a.toNat) + (max (yWask q (yM h) 1 a.toNat b.toNat c) 0)))) 37 0 = (zs (yM h) 84 (((yM h) 170 b.toNat).toNat) (w32 (((yM h) 84 (((yM h) 170 b.toNat).toNat)) - (max (yWask q (yM h) 1 a.toNat b.toNat c) 0)))) 37 0) (Eq.trans (zs_na (by decide) : (zs (yM h) 84 (((yM h) 170 b.toNat).toNat) (w32 (((yM h) 84 (((yM h) 170 b.toNat).toNat)) - (max (yWask q (yM h) 1 a.toNat b.toNat c) 0)))) 37 0 = (yM h) 37 0) rfl))))))))))
              have ib7 : 0 ≤ v52 ∧ v52 < ((200 : Nat) : Int) := ⟨by omega, by omega⟩
              refine zwW_as Ih51 (a1 := 182) (a2 := 182) (n := 200) (lo := -2147483648) (hi := 2147483647) (nx := 179) (by decide +kernel) ⟨by decide, by decide⟩ ib7 ⟨by omega, by omega⟩ ?_
              intro h54 eh54 Ih54
              have jbh54 : 0 ≤ v52.toNat ∧ v52.toNat < 200 := ⟨Nat.zero_le _, zit ib7⟩
              have th54_37_0 : fld h54 37 0 = fld h51 37 0 := by rw [eh54]; exact fld_wr (Or.inl (by decide))
              have th54_37_1 : fld h54 37 1 = fld h51 37 1 := by rw [eh54]; exact fld_wr (Or.inl (by decide))
              have th54_37_2 : fld h54 37 2 = fld h51 37 2 := by rw [eh54]; exact fld_wr (Or.inl (by decide))
              have th54_37_64 : fld h54 37 64 = fld h51 37 64 := by rw [eh54]; exact fld_wr (Or.inl (by decide))
              have th54_37_78 : fld h54 37 78 = fld h51 37 78 := by rw [eh54]; exact fld_wr (Or.inl (by decide))
              have Vh54 : mRq q h54 := Vh51.fr (zMR.one (a1 := 182) (a2 := 182) (j1 := 0) (j2 := 200) ⟨by decide, by decide⟩ jbh54 eh54) (by decide +kernel)
              have Uh54 : yM h54 = (zs (zs (zs (zs (zs (zs (zs (zs (zs (yM h) 84 (((yM h) 170 b.toNat).toNat) (w32 (((yM h) 84 (((yM h) 170 b.toNat).toNat)) - (max (yWask q (yM h) 1 a.toNat b.toNat c) 0)))) 84 a.toNat (w32 (((zs (yM h) 84 (((yM h) 170 b.toNat).toNat) (w32 (((yM h) 84 (((yM h) 170 b.toNat).toNat)) - (max (yWask q (yM h) 1 a.toNat b.toNat c) 0)))) 84 a.toNat) + (max (yWask q (yM h) 1 a.toNat b.toNat c) 0)))) 92 a.toNat (w32 (((yM h) 92 a.toNat) + c))) 175 b.toNat (w32 (((yM h) 175 b.toNat) - c))) 180 (((yM h) 37 78).toNat) b) 181 (((yM h) 37 78).toNat) a) 185 (((yM h) 37 78).toNat) 0) 37 70 (w32 (((yM h) 37 70) + c))) 182 (((yM h) 37 78).toNat) ((yM h) 37 0)) := by rw [yM_w (a := 182) (n := 200) (i := v52.toNat) (kd := 20) rfl (Ih51.s (a1 := 182) (a2 := 182) (by decide +kernel) (by decide) (by decide)) jbh54.2 eh54, Zh51, sv53, sv52]
              have Zh54 : yM h54 = (zs (zs (zs (zs (zs (zs (zs (zs (zs (yM h) 84 (((yM h) 170 b.toNat).toNat) (w32 (((yM h) 84 (((yM h) 170 b.toNat).toNat)) - (max (yWask q (yM h) 1 a.toNat b.toNat c) 0)))) 84 a.toNat (w32 (((zs (yM h) 84 (((yM h) 170 b.toNat).toNat) (w32 (((yM h) 84 (((yM h) 170 b.toNat).toNat)) - (max (yWask q (yM h) 1 a.toNat b.toNat c) 0)))) 84 a.toNat) + (max (yWask q (yM h) 1 a.toNat b.toNat c) 0)))) 92 a.toNat (w32 (((yM h) 92 a.toNat) + c))) 175 b.toNat (w32 (((yM h) 175 b.toNat) - c))) 180 (((yM h) 37 78).toNat) b) 181 (((yM h) 37 78).toNat) a) 182 (((yM h) 37 78).toNat) ((yM h) 37 0)) 185 (((yM h) 37 78).toNat) 0) 37 70 (w32 (((yM h) 37 70) + c))) := by rw [Uh54, zs_sw (a := 37) (b := 182) (by decide), zs_sw (a := 185) (b := 182) (by decide)]
              have Rh54 : zMR ms42 h h54 := Rh51.w (a1 := 182) (a2 := 182) (j1 := 0) (j2 := 200) (by decide +kernel) ⟨by decide, by decide⟩ jbh54 eh54
              refine zwW_p [(1, 0, 2)] (q := 180) (ls' := [(2, 37), (0, a), (0, b), (0, c), (0, v19)]) (st' := [(2, 37)]) (by decide +kernel) rfl ?_
              refine zwW_gc Ih54 (kd := 13) (bn := 75) (n := 97) (c := 183) (nx := 183) (by decide +kernel) ?_
              refine zwW_p [(1, 0, 2)] (q := 184) (ls' := [(2, 37), (0, a), (0, b), (0, c), (0, v19)]) (st' := [(2, 37), (2, 183)]) (by decide +kernel) rfl ?_
              refine zwW_gs Ih54 (kd := 13) (bn := 78) (n := 97) (t := 0) (lo := 0) (hi := 200) (nx := 187) (by decide +kernel) ?_
              intro v55 ev55 lv55 uv55
              have sv55 : v55 = (yM h) 37 78 := Eq.trans ev55 (Eq.trans (Eq.symm (yM_s (h := h54) (i := 78) rfl)) (Eq.trans (congrFun (congrFun Zh54 37) 78) (Eq.trans (zs_ni (by decide) : (zs (zs (zs (zs (zs (zs (zs (zs (zs (yM h) 84 (((yM h) 170 b.toNat).toNat) (w32 (((yM h) 84 (((yM h) 170 b.toNat).toNat)) - (max (yWask q (yM h) 1 a.toNat b.toNat c) 0)))) 84 a.toNat (w32 (((zs (yM h) 84 (((yM h) 170 b.toNat).toNat) (w32 (((yM h) 84 (((yM h) 170 b.toNat).toNat)) - (max (yWask q (yM h) 1 a.toNat b.toNat c) 0)))) 84 a.toNat) + (max (yWask q (yM h) 1 a.toNat b.toNat c) 0)))) 92 a.toNat (w32 (((yM h) 92 a.toNat) + c))) 175 b.toNat (w32 (((yM h) 175 b.toNat) - c))) 180 (((yM h) 37 78).toNat) b) 181 (((yM h) 37 78).toNat) a) 182 (((yM h) 37 78).toNat) ((yM h) 37 0)) 185 (((yM h) 37 78).toNat) 0) 37 70 (w32 (((yM h) 37 70) + c))) 37 78 = (zs (zs (zs (zs (zs (zs (zs (zs (yM h) 84 (((yM h) 170 b.toNat).toNat) (w32 (((yM h) 84 (((yM h) 170 b.toNat).toNat)) - (max (yWask q (yM h) 1 a.toNat b.toNat c) 0)))) 84 a.toNat (w32 (((zs (yM h) 84 (((yM h) 170 b.toNat).toNat) (w32 (((yM h) 84 (((yM h) 170 b.toNat).toNat)) - (max (yWask q (yM h) 1 a.toNat b.toNat c) 0)))) 84 a.toNat) + (max (yWask q (yM h) 1 a.toNat b.toNat c) 0)))) 92 a.toNat (w32 (((yM h) 92 a.toNat) + c))) 175 b.toNat (w32 (((yM h) 175 b.toNat) - c))) 180 (((yM h) 37 78).toNat) b) 181 (((yM h) 37 78).toNat) a) 182 (((yM h) 37 78).toNat) ((yM h) 37 0)) 185 (((yM h) 37 78).toNat) 0) 37 78) (Eq.trans (zs_na (by decide) : (zs (zs (zs (zs (zs (zs (zs (zs (yM h) 84 (((yM h) 170 b.toNat).toNat) (w32 (((yM h) 84 (((yM h) 170 b.toNat).toNat)) - (max (yWask q (yM h) 1 a.toNat b.toNat c) 0)))) 84 a.toNat (w32 (((zs (yM h) 84 (((yM h) 170 b.toNat).toNat) (w32 (((yM h) 84 (((yM h) 170 b.toNat).toNat)) - (max (yWask q (yM h) 1 a.toNat b.toNat c) 0)))) 84 a.toNat) + (max (yWask q (yM h) 1 a.toNat b.toNat c) 0)))) 92 a.toNat (w32 (((yM h) 92 a.toNat) + c))) 175 b.toNat (w32 (((yM h) 175 b.toNat) - c))) 180 (((yM h) 37 78).toNat) b) 181 (((yM h) 37 78).toNat) a) 182 (((yM h) 37 78).toNat) ((yM h) 37 0)) 185 (((yM h) 37 78).toNat) 0) 37 78 = (zs (zs (zs (zs (zs (zs (zs (yM h) 84 (((yM h) 170 b.toNat).toNat) (w32 (((yM h) 84 (((yM h) 170 b.toNat).toNat)) - (max (yWask q (yM h) 1 a.toNat b.toNat c) 0)))) 84 a.toNat (w32 (((zs (yM h) 84 (((yM h) 170 b.toNat).toNat) (w32 (((yM h) 84 (((yM h) 170 b.toNat).toNat)) - (max (yWask q (yM h) 1 a.toNat b.toNat c) 0)))) 84 a.toNat) + (max (yWask q (yM h) 1 a.toNat b.toNat c) 0)))) 92 a.toNat (w32 (((yM h) 92 a.toNat) + c))) 175 b.toNat (w32 (((yM h) 175 b.toNat) - c))) 180 (((yM h) 37 78).toNat) b) 181 (((yM h) 37 78).toNat) a) 182 (((yM h) 37 78).toNat) ((yM h) 37 0)) 37 78) (Eq.trans (zs_na (by decide) : (zs (zs (zs (zs (zs (zs (zs (yM h) 84 (((yM h) 170 b.toNat).toNat) (w32 (((yM h) 84 (((yM h) 170 b.toNat).toNat)) - (max (yWask q (yM h) 1 a.toNat b.toNat c) 0)))) 84 a.toNat (w32 (((zs (yM h) 84 (((yM h) 170 b.toNat).toNat) (w32 (((yM h) 84 (((yM h) 170 b.toNat).toNat)) - (max (yWask q (yM h) 1 a.toNat b.toNat c) 0)))) 84 a.toNat) + (max (yWask q (yM h) 1 a.toNat b.toNat c) 0)))) 92 a.toNat (w32 (((yM h) 92 a.toNat) + c))) 175 b.toNat (w32 (((yM h) 175 b.toNat) - c))) 180 (((yM h) 37 78).toNat) b) 181 (((yM h) 37 78).toNat) a) 182 (((yM h) 37 78).toNat) ((yM h) 37 0)) 37 78 = (zs (zs (zs (zs (zs (zs (yM h) 84 (((yM h) 170 b.toNat).toNat) (w32 (((yM h) 84 (((yM h) 170 b.toNat).toNat)) - (max (yWask q (yM h) 1 a.toNat b.toNat c) 0)))) 84 a.toNat (w32 (((zs (yM h) 84 (((yM h) 170 b.toNat).toNat) (w32 (((yM h) 84 (((yM h) 170 b.toNat).toNat)) - (max (yWask q (yM h) 1 a.toNat b.toNat c) 0)))) 84 a.toNat) + (max (yWask q (yM h) 1 a.toNat b.toNat c) 0)))) 92 a.toNat (w32 (((yM h) 92 a.toNat) + c))) 175 b.toNat (w32 (((yM h) 175 b.toNat) - c))) 180 (((yM h) 37 78).toNat) b) 181 (((yM h) 37 78).toNat) a) 37 78) (Eq.trans (zs_na (by decide) : (zs (zs (zs (zs (zs (zs (yM h) 84 (((yM h) 170 b.toNat).toNat) (w32 (((yM h) 84 (((yM h) 170 b.toNat).toNat)) - (max (yWask q (yM h) 1 a.toNat b.toNat c) 0)))) 84 a.toNat (w32 (((zs (yM h) 84 (((yM h) 170 b.toNat).toNat) (w32 (((yM h) 84 (((yM h) 170 b.toNat).toNat)) - (max (yWask q (yM h) 1 a.toNat b.toNat c) 0)))) 84 a.toNat) + (max (yWask q (yM h) 1 a.toNat b.toNat c) 0)))) 92 a.toNat (w32 (((yM h) 92 a.toNat) + c))) 175 b.toNat (w32 (((yM h) 175 b.toNat) - c))) 180 (((yM h) 37 78).toNat) b) 181 (((yM h) 37 78).toNat) a) 37 78 = (zs (zs (zs (zs (zs (yM h) 84 (((yM h) 170 b.toNat).toNat) (w32 (((yM h) 84 (((yM h) 170 b.toNat).toNat)) - (max (yWask q (yM h) 1 a.toNat b.toNat c) 0)))) 84 a.toNat (w32 (((zs (yM h) 84 (((yM h) 170 b.toNat).toNat) (w32 (((yM h) 84 (((yM h) 170 b.toNat).toNat)) - (max (yWask q (yM h) 1 a.toNat b.toNat c) 0)))) 84 a.toNat) + (max (yWask q (yM h) 1 a.toNat b.toNat c) 0)))) 92 a.toNat (w32 (((yM h) 92 a.toNat) + c))) 175 b.toNat (w32 (((yM h) 175 b.toNat) - c))) 180 (((yM h) 37 78).toNat) b) 37 78) (Eq.trans (zs_na (by decide) : (zs (zs (zs (zs (zs (yM h) 84 (((yM h) 170 b.toNat).toNat) (w32 (((yM h) 84 (((yM h) 170 b.toNat).toNat)) - (max (yWask q (yM h) 1 a.toNat b.toNat c) 0)))) 84 a.toNat (w32 (((zs (yM h) 84 (((yM h) 170 b.toNat).toNat) (w32 (((yM h) 84 (((yM h) 170 b.toNat).toNat)) - (max (yWask q (yM h) 1 a.toNat b.toNat c) 0)))) 84 a.toNat) + (max (yWask q (yM h) 1 a.toNat b.toNat c) 0)))) 92 a.toNat (w32 (((yM h) 92 a.toNat) + c))) 175 b.toNat (w32 (((yM h) 175 b.toNat) - c))) 180 (((yM h) 37 78).toNat) b) 37 78 = (zs (zs (zs (zs (yM h) 84 (((yM h) 170 b.toNat).toNat) (w32 (((yM h) 84 (((yM h) 170 b.toNat).toNat)) - (max (yWask q (yM h) 1 a.toNat b.toNat c) 0)))) 84 a.toNat (w32 (((zs (yM h) 84 (((yM h) 170 b.toNat).toNat) (w32 (((yM h) 84 (((yM h) 170 b.toNat).toNat)) - (max (yWask q (yM h) 1 a.toNat b.toNat c) 0)))) 84 a.toNat) + (max (yWask q (yM h) 1 a.toNat b.toNat c) 0)))) 92 a.toNat (w32 (((yM h) 92 a.toNat) + c))) 175 b.toNat (w32 (((yM h) 175 b.toNat) - c))) 37 78) (Eq.trans (zs_na (by decide) : (zs (zs (zs (zs (yM h) 84 (((yM h) 170 b.toNat).toNat) (w32 (((yM h) 84 (((yM h) 170 b.toNat).toNat)) - (max (yWask q (yM h) 1 a.toNat b.toNat c) 0)))) 84 a.toNat (w32 (((zs (yM h) 84 (((yM h) 170 b.toNat).toNat) (w32 (((yM h) 84 (((yM h) 170 b.toNat).toNat)) - (max (yWask q (yM h) 1 a.toNat b.toNat c) 0)))) 84 a.toNat) + (max (yWask q (yM h) 1 a.toNat b.toNat c) 0)))) 92 a.toNat (w32 (((yM h) 92 a.toNat) + c))) 175 b.toNat (w32 (((yM h) 175 b.toNat) - c))) 37 78 = (zs (zs (zs (yM h) 84 (((yM h) 170 b.toNat).toNat) (w32 (((yM h) 84 (((yM h) 170 b.toNat).toNat)) - (max (yWask q (yM h) 1 a.toNat b.toNat c) 0)))) 84 a.toNat (w32 (((zs (yM h) 84 (((yM h) 170 b.toNat).toNat) (w32 (((yM h) 84 (((yM h) 170 b.toNat).toNat)) - (max (yWask q (yM h) 1 a.toNat b.toNat c) 0)))) 84 a.toNat) + (max (yWask q (yM h) 1 a.toNat b.toNat c) 0)))) 92 a.toNat (w32 (((yM h) 92 a.toNat) + c))) 37 78) (Eq.trans (zs_na (by decide) : (zs (zs (zs (yM h) 84 (((yM h) 170 b.toNat).toNat) (w32 (((yM h) 84 (((yM h) 170 b.toNat).toNat)) - (max (yWask q (yM h) 1 a.toNat b.toNat c) 0)))) 84 a.toNat (w32 (((zs (yM h) 84 (((yM h) 170 b.toNat).toNat) (w32 (((yM h) 84 (((yM h) 170 b.toNat).toNat)) - (max (yWask q (yM h) 1 a.toNat b.toNat c) 0)))) 84 a.toNat) + (max (yWask q (yM h) 1 a.toNat b.toNat c) 0)))) 92 a.toNat (w32 (((yM h) 92 a.toNat) + c))) 37 78 = (zs (zs (yM h) 84 (((yM h) 170 b.toNat).toNat) (w32 (((yM h) 84 (((yM h) 170 b.toNat).toNat)) - (max (yWask q (yM h) 1 a.toNat b.toNat c) 0)))) 84 a.toNat (w32 (((zs (yM h) 84 (((yM h) 170 b.toNat).toNat) (w32 (((yM h) 84 (((yM h) 170 b.toNat).toNat)) - (max (yWask q (yM h) 1 a.toNat b.toNat c) 0)))) 84 a.toNat) + (max (yWask q (yM h) 1 a.toNat b.toNat c) 0)))) 37 78) (Eq.trans (zs_na (by decide) : (zs (zs (yM h) 84 (((yM h) 170 b.toNat).toNat) (w32 (((yM h) 84 (((yM h) 170 b.toNat).toNat)) - (max (yWask q (yM h) 1 a.toNat b.toNat c) 0)))) 84 a.toNat (w32 (((zs (yM h) 84 (((yM h) 170 b.toNat).toNat) (w32 (((yM h) 84 (((yM h) 170 b.toNat).toNat)) - (max (yWask q (yM h) 1 a.toNat b.toNat c) 0)))) 84 a.toNat) + (max (yWask q (yM h) 1 a.toNat b.toNat c) 0)))) 37 78 = (zs (yM h) 84 (((yM h) 170 b.toNat).toNat) (w32 (((yM h) 84 (((yM h) 170 b.toNat).toNat)) - (max (yWask q (yM h) 1 a.toNat b.toNat c) 0)))) 37 78) (Eq.trans (zs_na (by decide) : (zs (yM h) 84 (((yM h) 170 b.toNat).toNat) (w32 (((yM h) 84 (((yM h) 170 b.toNat).toNat)) - (max (yWask q (yM h) 1 a.toNat b.toNat c) 0)))) 37 78 = (yM h) 37 78) rfl)))))))))))
              refine zwW_p [(1, 3, 0), (0, 2, 0)] (q := 189) (ls' := [(2, 37), (0, a), (0, b), (0, c), (0, v19)]) (st' := [(0, 2), (0, c), (0, v55), (2, 183)]) (by decide +kernel) rfl ?_
              refine zwW_div (nx := 190) (by decide +kernel) (by omega) (by omega) (by omega) ?_
              have ib8 : 0 ≤ v55 ∧ v55 < ((200 : Nat) : Int) := ⟨by omega, by omega⟩
              refine zwW_as Ih54 (a1 := 183) (a2 := 183) (n := 200) (lo := -2147483648) (hi := 2147483647) (nx := 191) (by decide +kernel) ⟨by decide, by decide⟩ ib8 ⟨by omega, by omega⟩ ?_
              intro h56 eh56 Ih56
              have jbh56 : 0 ≤ v55.toNat ∧ v55.toNat < 200 := ⟨Nat.zero_le _, zit ib8⟩
              have th56_37_0 : fld h56 37 0 = fld h54 37 0 := by rw [eh56]; exact fld_wr (Or.inl (by decide))
              have th56_37_1 : fld h56 37 1 = fld h54 37 1 := by rw [eh56]; exact fld_wr (Or.inl (by decide))
              have th56_37_2 : fld h56 37 2 = fld h54 37 2 := by rw [eh56]; exact fld_wr (Or.inl (by decide))
              have th56_37_64 : fld h56 37 64 = fld h54 37 64 := by rw [eh56]; exact fld_wr (Or.inl (by decide))
              have th56_37_78 : fld h56 37 78 = fld h54 37 78 := by rw [eh56]; exact fld_wr (Or.inl (by decide))
              have Vh56 : mRq q h56 := Vh54.fr (zMR.one (a1 := 183) (a2 := 183) (j1 := 0) (j2 := 200) ⟨by decide, by decide⟩ jbh56 eh56) (by decide +kernel)
              have Uh56 : yM h56 = (zs (zs (zs (zs (zs (zs (zs (zs (zs (zs (yM h) 84 (((yM h) 170 b.toNat).toNat) (w32 (((yM h) 84 (((yM h) 170 b.toNat).toNat)) - (max (yWask q (yM h) 1 a.toNat b.toNat c) 0)))) 84 a.toNat (w32 (((zs (yM h) 84 (((yM h) 170 b.toNat).toNat) (w32 (((yM h) 84 (((yM h) 170 b.toNat).toNat)) - (max (yWask q (yM h) 1 a.toNat b.toNat c) 0)))) 84 a.toNat) + (max (yWask q (yM h) 1 a.toNat b.toNat c) 0)))) 92 a.toNat (w32 (((yM h) 92 a.toNat) + c))) 175 b.toNat (w32 (((yM h) 175 b.toNat) - c))) 180 (((yM h) 37 78).toNat) b) 181 (((yM h) 37 78).toNat) a) 182 (((yM h) 37 78).toNat) ((yM h) 37 0)) 185 (((yM h) 37 78).toNat) 0) 37 70 (w32 (((yM h) 37 70) + c))) 183 (((yM h) 37 78).toNat) (c / 2)) := by rw [yM_w (a := 183) (n := 200) (i := v55.toNat) (kd := 20) rfl (Ih54.s (a1 := 183) (a2 := 183) (by decide +kernel) (by decide) (by decide)) jbh56.2 eh56, Zh54, sv55]
              have Zh56 : yM h56 = (zs (zs (zs (zs (zs (zs (zs (zs (zs (zs (yM h) 84 (((yM h) 170 b.toNat).toNat) (w32 (((yM h) 84 (((yM h) 170 b.toNat).toNat)) - (max (yWask q (yM h) 1 a.toNat b.toNat c) 0)))) 84 a.toNat (w32 (((zs (yM h) 84 (((yM h) 170 b.toNat).toNat) (w32 (((yM h) 84 (((yM h) 170 b.toNat).toNat)) - (max (yWask q (yM h) 1 a.toNat b.toNat c) 0)))) 84 a.toNat) + (max (yWask q (yM h) 1 a.toNat b.toNat c) 0)))) 92 a.toNat (w32 (((yM h) 92 a.toNat) + c))) 175 b.toNat (w32 (((yM h) 175 b.toNat) - c))) 180 (((yM h) 37 78).toNat) b) 181 (((yM h) 37 78).toNat) a) 182 (((yM h) 37 78).toNat) ((yM h) 37 0)) 183 (((yM h) 37 78).toNat) (c / 2)) 185 (((yM h) 37 78).toNat) 0) 37 70 (w32 (((yM h) 37 70) + c))) := by rw [Uh56, zs_sw (a := 37) (b := 183) (by decide), zs_sw (a := 185) (b := 183) (by decide)]
              have Rh56 : zMR ms42 h h56 := Rh54.w (a1 := 183) (a2 := 183) (j1 := 0) (j2 := 200) (by decide +kernel) ⟨by decide, by decide⟩ jbh56 eh56
              refine zwW_p [(1, 0, 2)] (q := 192) (ls' := [(2, 37), (0, a), (0, b), (0, c), (0, v19)]) (st' := [(2, 37)]) (by decide +kernel) rfl ?_
              refine zwW_gc Ih56 (kd := 13) (bn := 76) (n := 97) (c := 184) (nx := 195) (by decide +kernel) ?_
              refine zwW_p [(1, 0, 2)] (q := 196) (ls' := [(2, 37), (0, a), (0, b), (0, c), (0, v19)]) (st' := [(2, 37), (2, 184)]) (by decide +kernel) rfl ?_
              refine zwW_gs Ih56 (kd := 13) (bn := 78) (n := 97) (t := 0) (lo := 0) (hi := 200) (nx := 199) (by decide +kernel) ?_
              intro v57 ev57 lv57 uv57
              have sv57 : v57 = (yM h) 37 78 := Eq.trans ev57 (Eq.trans (Eq.symm (yM_s (h := h56) (i := 78) rfl)) (Eq.trans (congrFun (congrFun Zh56 37) 78) (Eq.trans (zs_ni (by decide) : (zs (zs (zs (zs (zs (zs (zs (zs (zs (zs (yM h) 84 (((yM h) 170 b.toNat).toNat) (w32 (((yM h) 84 (((yM h) 170 b.toNat).toNat)) - (max (yWask q (yM h) 1 a.toNat b.toNat c) 0)))) 84 a.toNat (w32 (((zs (yM h) 84 (((yM h) 170 b.toNat).toNat) (w32 (((yM h) 84 (((yM h) 170 b.toNat).toNat)) - (max (yWask q (yM h) 1 a.toNat b.toNat c) 0)))) 84 a.toNat) + (max (yWask q (yM h) 1 a.toNat b.toNat c) 0)))) 92 a.toNat (w32 (((yM h) 92 a.toNat) + c))) 175 b.toNat (w32 (((yM h) 175 b.toNat) - c))) 180 (((yM h) 37 78).toNat) b) 181 (((yM h) 37 78).toNat) a) 182 (((yM h) 37 78).toNat) ((yM h) 37 0)) 183 (((yM h) 37 78).toNat) (c / 2)) 185 (((yM h) 37 78).toNat) 0) 37 70 (w32 (((yM h) 37 70) + c))) 37 78 = (zs (zs (zs (zs (zs (zs (zs (zs (zs (yM h) 84 (((yM h) 170 b.toNat).toNat) (w32 (((yM h) 84 (((yM h) 170 b.toNat).toNat)) - (max (yWask q (yM h) 1 a.toNat b.toNat c) 0)))) 84 a.toNat (w32 (((zs (yM h) 84 (((yM h) 170 b.toNat).toNat) (w32 (((yM h) 84 (((yM h) 170 b.toNat).toNat)) - (max (yWask q (yM h) 1 a.toNat b.toNat c) 0)))) 84 a.toNat) + (max (yWask q (yM h) 1 a.toNat b.toNat c) 0)))) 92 a.toNat (w32 (((yM h) 92 a.toNat) + c))) 175 b.toNat (w32 (((yM h) 175 b.toNat) - c))) 180 (((yM h) 37 78).toNat) b) 181 (((yM h) 37 78).toNat) a) 182 (((yM h) 37 78).toNat) ((yM h) 37 0)) 183 (((yM h) 37 78).toNat) (c / 2)) 185 (((yM h) 37 78).toNat) 0) 37 78) (Eq.trans (zs_na (by decide) : (zs (zs (zs (zs (zs (zs (zs (zs (zs (yM h) 84 (((yM h) 170 b.toNat).toNat) (w32 (((yM h) 84 (((yM h) 170 b.toNat).toNat)) - (max (yWask q (yM h) 1 a.toNat b.toNat c) 0)))) 84 a.toNat (w32 (((zs (yM h) 84 (((yM h) 170 b.toNat).toNat) (w32 (((yM h) 84 (((yM h) 170 b.toNat).toNat)) - (max (yWask q (yM h) 1 a.toNat b.toNat c) 0)))) 84 a.toNat) + (max (yWask q (yM h) 1 a.toNat b.toNat c) 0)))) 92 a.toNat (w32 (((yM h) 92 a.toNat) + c))) 175 b.toNat (w32 (((yM h) 175 b.toNat) - c))) 180 (((yM h) 37 78).toNat) b) 181 (((yM h) 37 78).toNat) a) 182 (((yM h) 37 78).toNat) ((yM h) 37 0)) 183 (((yM h) 37 78).toNat) (c / 2)) 185 (((yM h) 37 78).toNat) 0) 37 78 = (zs (zs (zs (zs (zs (zs (zs (zs (yM h) 84 (((yM h) 170 b.toNat).toNat) (w32 (((yM h) 84 (((yM h) 170 b.toNat).toNat)) - (max (yWask q (yM h) 1 a.toNat b.toNat c) 0)))) 84 a.toNat (w32 (((zs (yM h) 84 (((yM h) 170 b.toNat).toNat) (w32 (((yM h) 84 (((yM h) 170 b.toNat).toNat)) - (max (yWask q (yM h) 1 a.toNat b.toNat c) 0)))) 84 a.toNat) + (max (yWask q (yM h) 1 a.toNat b.toNat c) 0)))) 92 a.toNat (w32 (((yM h) 92 a.toNat) + c))) 175 b.toNat (w32 (((yM h) 175 b.toNat) - c))) 180 (((yM h) 37 78).toNat) b) 181 (((yM h) 37 78).toNat) a) 182 (((yM h) 37 78).toNat) ((yM h) 37 0)) 183 (((yM h) 37 78).toNat) (c / 2)) 37 78) (Eq.trans (zs_na (by decide) : (zs (zs (zs (zs (zs (zs (zs (zs (yM h) 84 (((yM h) 170 b.toNat).toNat) (w32 (((yM h) 84 (((yM h) 170 b.toNat).toNat)) - (max (yWask q (yM h) 1 a.toNat b.toNat c) 0)))) 84 a.toNat (w32 (((zs (yM h) 84 (((yM h) 170 b.toNat).toNat) (w32 (((yM h) 84 (((yM h) 170 b.toNat).toNat)) - (max (yWask q (yM h) 1 a.toNat b.toNat c) 0)))) 84 a.toNat) + (max (yWask q (yM h) 1 a.toNat b.toNat c) 0)))) 92 a.toNat (w32 (((yM h) 92 a.toNat) + c))) 175 b.toNat (w32 (((yM h) 175 b.toNat) - c))) 180 (((yM h) 37 78).toNat) b) 181 (((yM h) 37 78).toNat) a) 182 (((yM h) 37 78).toNat) ((yM h) 37 0)) 183 (((yM h) 37 78).toNat) (c / 2)) 37 78 = (zs (zs (zs (zs (zs (zs (zs (yM h) 84 (((yM h) 170 b.toNat).toNat) (w32 (((yM h) 84 (((yM h) 170 b.toNat).toNat)) - (max (yWask q (yM h) 1 a.toNat b.toNat c) 0)))) 84 a.toNat (w32 (((zs (yM h) 84 (((yM h) 170 b.toNat).toNat) (w32 (((yM h) 84 (((yM h) 170 b.toNat).toNat)) - (max (yWask q (yM h) 1 a.toNat b.toNat c) 0)))) 84 a.toNat) + (max (yWask q (yM h) 1 a.toNat b.toNat c) 0)))) 92 a.toNat (w32 (((yM h) 92 a.toNat) + c))) 175 b.toNat (w32 (((yM h) 175 b.toNat) - c))) 180 (((yM h) 37 78).toNat) b) 181 (((yM h) 37 78).toNat) a) 182 (((yM h) 37 78).toNat) ((yM h) 37 0)) 37 78) (Eq.trans (zs_na (by decide) : (zs (zs (zs (zs (zs (zs (zs (yM h) 84 (((yM h) 170 b.toNat).toNat) (w32 (((yM h) 84 (((yM h) 170 b.toNat).toNat)) - (max (yWask q (yM h) 1 a.toNat b.toNat c) 0)))) 84 a.toNat (w32 (((zs (yM h) 84 (((yM h) 170 b.toNat).toNat) (w32 (((yM h) 84 (((yM h) 170 b.toNat).toNat)) - (max (yWask q (yM h) 1 a.toNat b.toNat c) 0)))) 84 a.toNat) + (max (yWask q (yM h) 1 a.toNat b.toNat c) 0)))) 92 a.toNat (w32 (((yM h) 92 a.toNat) + c))) 175 b.toNat (w32 (((yM h) 175 b.toNat) - c))) 180 (((yM h) 37 78).toNat) b) 181 (((yM h) 37 78).toNat) a) 182 (((yM h) 37 78).toNat) ((yM h) 37 0)) 37 78 = (zs (zs (zs (zs (zs (zs (yM h) 84 (((yM h) 170 b.toNat).toNat) (w32 (((yM h) 84 (((yM h) 170 b.toNat).toNat)) - (max (yWask q (yM h) 1 a.toNat b.toNat c) 0)))) 84 a.toNat (w32 (((zs (yM h) 84 (((yM h) 170 b.toNat).toNat) (w32 (((yM h) 84 (((yM h) 170 b.toNat).toNat)) - (max (yWask q (yM h) 1 a.toNat b.toNat c) 0)))) 84 a.toNat) + (max (yWask q (yM h) 1 a.toNat b.toNat c) 0)))) 92 a.toNat (w32 (((yM h) 92 a.toNat) + c))) 175 b.toNat (w32 (((yM h) 175 b.toNat) - c))) 180 (((yM h) 37 78).toNat) b) 181 (((yM h) 37 78).toNat) a) 37 78) (Eq.trans (zs_na (by decide) : (zs (zs (zs (zs (zs (zs (yM h) 84 (((yM h) 170 b.toNat).toNat) (w32 (((yM h) 84 (((yM h) 170 b.toNat).toNat)) - (max (yWask q (yM h) 1 a.toNat b.toNat c) 0)))) 84 a.toNat (w32 (((zs (yM h) 84 (((yM h) 170 b.toNat).toNat) (w32 (((yM h) 84 (((yM h) 170 b.toNat).toNat)) - (max (yWask q (yM h) 1 a.toNat b.toNat c) 0)))) 84 a.toNat) + (max (yWask q (yM h) 1 a.toNat b.toNat c) 0)))) 92 a.toNat (w32 (((yM h) 92 a.toNat) + c))) 175 b.toNat (w32 (((yM h) 175 b.toNat) - c))) 180 (((yM h) 37 78).toNat) b) 181 (((yM h) 37 78).toNat) a) 37 78 = (zs (zs (zs (zs (zs (yM h) 84 (((yM h) 170 b.toNat).toNat) (w32 (((yM h) 84 (((yM h) 170 b.toNat).toNat)) - (max (yWask q (yM h) 1 a.toNat b.toNat c) 0)))) 84 a.toNat (w32 (((zs (yM h) 84 (((yM h) 170 b.toNat).toNat) (w32 (((yM h) 84 (((yM h) 170 b.toNat).toNat)) - (max (yWask q (yM h) 1 a.toNat b.toNat c) 0)))) 84 a.toNat) + (max (yWask q (yM h) 1 a.toNat b.toNat c) 0)))) 92 a.toNat (w32 (((yM h) 92 a.toNat) + c))) 175 b.toNat (w32 (((yM h) 175 b.toNat) - c))) 180 (((yM h) 37 78).toNat) b) 37 78) (Eq.trans (zs_na (by decide) : (zs (zs (zs (zs (zs (yM h) 84 (((yM h) 170 b.toNat).toNat) (w32 (((yM h) 84 (((yM h) 170 b.toNat).toNat)) - (max (yWask q (yM h) 1 a.toNat b.toNat c) 0)))) 84 a.toNat (w32 (((zs (yM h) 84 (((yM h) 170 b.toNat).toNat) (w32 (((yM h) 84 (((yM h) 170 b.toNat).toNat)) - (max (yWask q (yM h) 1 a.toNat b.toNat c) 0)))) 84 a.toNat) + (max (yWask q (yM h) 1 a.toNat b.toNat c) 0)))) 92 a.toNat (w32 (((yM h) 92 a.toNat) + c))) 175 b.toNat (w32 (((yM h) 175 b.toNat) - c))) 180 (((yM h) 37 78).toNat) b) 37 78 = (zs (zs (zs (zs (yM h) 84 (((yM h) 170 b.toNat).toNat) (w32 (((yM h) 84 (((yM h) 170 b.toNat).toNat)) - (max (yWask q (yM h) 1 a.toNat b.toNat c) 0)))) 84 a.toNat (w32 (((zs (yM h) 84 (((yM h) 170 b.toNat).toNat) (w32 (((yM h) 84 (((yM h) 170 b.toNat).toNat)) - (max (yWask q (yM h) 1 a.toNat b.toNat c) 0)))) 84 a.toNat) + (max (yWask q (yM h) 1 a.toNat b.toNat c) 0)))) 92 a.toNat (w32 (((yM h) 92 a.toNat) + c))) 175 b.toNat (w32 (((yM h) 175 b.toNat) - c))) 37 78) (Eq.trans (zs_na (by decide) : (zs (zs (zs (zs (yM h) 84 (((yM h) 170 b.toNat).toNat) (w32 (((yM h) 84 (((yM h) 170 b.toNat).toNat)) - (max (yWask q (yM h) 1 a.toNat b.toNat c) 0)))) 84 a.toNat (w32 (((zs (yM h) 84 (((yM h) 170 b.toNat).toNat) (w32 (((yM h) 84 (((yM h) 170 b.toNat).toNat)) - (max (yWask q (yM h) 1 a.toNat b.toNat c) 0)))) 84 a.toNat) + (max (yWask q (yM h) 1 a.toNat b.toNat c) 0)))) 92 a.toNat (w32 (((yM h) 92 a.toNat) + c))) 175 b.toNat (w32 (((yM h) 175 b.toNat) - c))) 37 78 = (zs (zs (zs (yM h) 84 (((yM h) 170 b.toNat).toNat) (w32 (((yM h) 84 (((yM h) 170 b.toNat).toNat)) - (max (yWask q (yM h) 1 a.toNat b.toNat c) 0)))) 84 a.toNat (w32 (((zs (yM h) 84 (((yM h) 170 b.toNat).toNat) (w32 (((yM h) 84 (((yM h) 170 b.toNat).toNat)) - (max (yWask q (yM h) 1 a.toNat b.toNat c) 0)))) 84 a.toNat) + (max (yWask q (yM h) 1 a.toNat b.toNat c) 0)))) 92 a.toNat (w32 (((yM h) 92 a.toNat) + c))) 37 78) (Eq.trans (zs_na (by decide) : (zs (zs (zs (yM h) 84 (((yM h) 170 b.toNat).toNat) (w32 (((yM h) 84 (((yM h) 170 b.toNat).toNat)) - (max (yWask q (yM h) 1 a.toNat b.toNat c) 0)))) 84 a.toNat (w32 (((zs (yM h) 84 (((yM h) 170 b.toNat).toNat) (w32 (((yM h) 84 (((yM h) 170 b.toNat).toNat)) - (max (yWask q (yM h) 1 a.toNat b.toNat c) 0)))) 84 a.toNat) + (max (yWask q (yM h) 1 a.toNat b.toNat c) 0)))) 92 a.toNat (w32 (((yM h) 92 a.toNat) + c))) 37 78 = (zs (zs (yM h) 84 (((yM h) 170 b.toNat).toNat) (w32 (((yM h) 84 (((yM h) 170 b.toNat).toNat)) - (max (yWask q (yM h) 1 a.toNat b.toNat c) 0)))) 84 a.toNat (w32 (((zs (yM h) 84 (((yM h) 170 b.toNat).toNat) (w32 (((yM h) 84 (((yM h) 170 b.toNat).toNat)) - (max (yWask q (yM h) 1 a.toNat b.toNat c) 0)))) 84 a.toNat) + (max (yWask q (yM h) 1 a.toNat b.toNat c) 0)))) 37 78) (Eq.trans (zs_na (by decide) : (zs (zs (yM h) 84 (((yM h) 170 b.toNat).toNat) (w32 (((yM h) 84 (((yM h) 170 b.toNat).toNat)) - (max (yWask q (yM h) 1 a.toNat b.toNat c) 0)))) 84 a.toNat (w32 (((zs (yM h) 84 (((yM h) 170 b.toNat).toNat) (w32 (((yM h) 84 (((yM h) 170 b.toNat).toNat)) - (max (yWask q (yM h) 1 a.toNat b.toNat c) 0)))) 84 a.toNat) + (max (yWask q (yM h) 1 a.toNat b.toNat c) 0)))) 37 78 = (zs (yM h) 84 (((yM h) 170 b.toNat).toNat) (w32 (((yM h) 84 (((yM h) 170 b.toNat).toNat)) - (max (yWask q (yM h) 1 a.toNat b.toNat c) 0)))) 37 78) (Eq.trans (zs_na (by decide) : (zs (yM h) 84 (((yM h) 170 b.toNat).toNat) (w32 (((yM h) 84 (((yM h) 170 b.toNat).toNat)) - (max (yWask q (yM h) 1 a.toNat b.toNat c) 0)))) 37 78 = (yM h) 37 78) rfl))))))))))))
              refine zwW_p [(0, -1, 0)] (q := 200) (ls' := [(2, 37), (0, a), (0, b), (0, c), (0, v19)]) (st' := [(0, -1), (0, v57), (2, 184)]) (by decide +kernel) rfl ?_
              have ib9 : 0 ≤ v57 ∧ v57 < ((200 : Nat) : Int) := ⟨by omega, by omega⟩
              refine zwW_as Ih56 (a1 := 184) (a2 := 184) (n := 200) (lo := -1) (hi := 7) (nx := 201) (by decide +kernel) ⟨by decide, by decide⟩ ib9 ⟨by decide, by decide⟩ ?_
              intro h58 eh58 Ih58
              have jbh58 : 0 ≤ v57.toNat ∧ v57.toNat < 200 := ⟨Nat.zero_le _, zit ib9⟩
              have th58_37_0 : fld h58 37 0 = fld h56 37 0 := by rw [eh58]; exact fld_wr (Or.inl (by decide))
              have th58_37_1 : fld h58 37 1 = fld h56 37 1 := by rw [eh58]; exact fld_wr (Or.inl (by decide))
              have th58_37_2 : fld h58 37 2 = fld h56 37 2 := by rw [eh58]; exact fld_wr (Or.inl (by decide))
              have th58_37_64 : fld h58 37 64 = fld h56 37 64 := by rw [eh58]; exact fld_wr (Or.inl (by decide))
              have th58_37_78 : fld h58 37 78 = fld h56 37 78 := by rw [eh58]; exact fld_wr (Or.inl (by decide))
              have Vh58 : mRq q h58 := Vh56.fr (zMR.one (a1 := 184) (a2 := 184) (j1 := 0) (j2 := 200) ⟨by decide, by decide⟩ jbh58 eh58) (by decide +kernel)
              have Uh58 : yM h58 = (zs (zs (zs (zs (zs (zs (zs (zs (zs (zs (zs (yM h) 84 (((yM h) 170 b.toNat).toNat) (w32 (((yM h) 84 (((yM h) 170 b.toNat).toNat)) - (max (yWask q (yM h) 1 a.toNat b.toNat c) 0)))) 84 a.toNat (w32 (((zs (yM h) 84 (((yM h) 170 b.toNat).toNat) (w32 (((yM h) 84 (((yM h) 170 b.toNat).toNat)) - (max (yWask q (yM h) 1 a.toNat b.toNat c) 0)))) 84 a.toNat) + (max (yWask q (yM h) 1 a.toNat b.toNat c) 0)))) 92 a.toNat (w32 (((yM h) 92 a.toNat) + c))) 175 b.toNat (w32 (((yM h) 175 b.toNat) - c))) 180 (((yM h) 37 78).toNat) b) 181 (((yM h) 37 78).toNat) a) 182 (((yM h) 37 78).toNat) ((yM h) 37 0)) 183 (((yM h) 37 78).toNat) (c / 2)) 185 (((yM h) 37 78).toNat) 0) 37 70 (w32 (((yM h) 37 70) + c))) 184 (((yM h) 37 78).toNat) (-1)) := by rw [yM_w (a := 184) (n := 200) (i := v57.toNat) (kd := 20) rfl (Ih56.s (a1 := 184) (a2 := 184) (by decide +kernel) (by decide) (by decide)) jbh58.2 eh58, Zh56, sv57]
              have Zh58 : yM h58 = (zs (zs (zs (zs (zs (zs (zs (zs (zs (zs (zs (yM h) 84 (((yM h) 170 b.toNat).toNat) (w32 (((yM h) 84 (((yM h) 170 b.toNat).toNat)) - (max (yWask q (yM h) 1 a.toNat b.toNat c) 0)))) 84 a.toNat (w32 (((zs (yM h) 84 (((yM h) 170 b.toNat).toNat) (w32 (((yM h) 84 (((yM h) 170 b.toNat).toNat)) - (max (yWask q (yM h) 1 a.toNat b.toNat c) 0)))) 84 a.toNat) + (max (yWask q (yM h) 1 a.toNat b.toNat c) 0)))) 92 a.toNat (w32 (((yM h) 92 a.toNat) + c))) 175 b.toNat (w32 (((yM h) 175 b.toNat) - c))) 180 (((yM h) 37 78).toNat) b) 181 (((yM h) 37 78).toNat) a) 182 (((yM h) 37 78).toNat) ((yM h) 37 0)) 183 (((yM h) 37 78).toNat) (c / 2)) 184 (((yM h) 37 78).toNat) (-1)) 185 (((yM h) 37 78).toNat) 0) 37 70 (w32 (((yM h) 37 70) + c))) := by rw [Uh58, zs_sw (a := 37) (b := 184) (by decide), zs_sw (a := 185) (b := 184) (by decide)]
              have Rh58 : zMR ms42 h h58 := Rh56.w (a1 := 184) (a2 := 184) (j1 := 0) (j2 := 200) (by decide +kernel) ⟨by decide, by decide⟩ jbh58 eh58
              refine zwW_p [(1, 0, 2), (12, 0, 0)] (q := 203) (ls' := [(2, 37), (0, a), (0, b), (0, c), (0, v19)]) (st' := [(2, 37), (2, 37)]) (by decide +kernel) rfl ?_
              refine zwW_gs Ih58 (kd := 13) (bn := 78) (n := 97) (t := 0) (lo := 0) (hi := 200) (nx := 206) (by decide +kernel) ?_
              intro v59 ev59 lv59 uv59
              have sv59 : v59 = (yM h) 37 78 := Eq.trans ev59 (Eq.trans (Eq.symm (yM_s (h := h58) (i := 78) rfl)) (Eq.trans (congrFun (congrFun Zh58 37) 78) (Eq.trans (zs_ni (by decide) : (zs (zs (zs (zs (zs (zs (zs (zs (zs (zs (zs (yM h) 84 (((yM h) 170 b.toNat).toNat) (w32 (((yM h) 84 (((yM h) 170 b.toNat).toNat)) - (max (yWask q (yM h) 1 a.toNat b.toNat c) 0)))) 84 a.toNat (w32 (((zs (yM h) 84 (((yM h) 170 b.toNat).toNat) (w32 (((yM h) 84 (((yM h) 170 b.toNat).toNat)) - (max (yWask q (yM h) 1 a.toNat b.toNat c) 0)))) 84 a.toNat) + (max (yWask q (yM h) 1 a.toNat b.toNat c) 0)))) 92 a.toNat (w32 (((yM h) 92 a.toNat) + c))) 175 b.toNat (w32 (((yM h) 175 b.toNat) - c))) 180 (((yM h) 37 78).toNat) b) 181 (((yM h) 37 78).toNat) a) 182 (((yM h) 37 78).toNat) ((yM h) 37 0)) 183 (((yM h) 37 78).toNat) (c / 2)) 184 (((yM h) 37 78).toNat) (-1)) 185 (((yM h) 37 78).toNat) 0) 37 70 (w32 (((yM h) 37 70) + c))) 37 78 = (zs (zs (zs (zs (zs (zs (zs (zs (zs (zs (yM h) 84 (((yM h) 170 b.toNat).toNat) (w32 (((yM h) 84 (((yM h) 170 b.toNat).toNat)) - (max (yWask q (yM h) 1 a.toNat b.toNat c) 0)))) 84 a.toNat (w32 (((zs (yM h) 84 (((yM h) 170 b.toNat).toNat) (w32 (((yM h) 84 (((yM h) 170 b.toNat).toNat)) - (max (yWask q (yM h) 1 a.toNat b.toNat c) 0)))) 84 a.toNat) + (max (yWask q (yM h) 1 a.toNat b.toNat c) 0)))) 92 a.toNat (w32 (((yM h) 92 a.toNat) + c))) 175 b.toNat (w32 (((yM h) 175 b.toNat) - c))) 180 (((yM h) 37 78).toNat) b) 181 (((yM h) 37 78).toNat) a) 182 (((yM h) 37 78).toNat) ((yM h) 37 0)) 183 (((yM h) 37 78).toNat) (c / 2)) 184 (((yM h) 37 78).toNat) (-1)) 185 (((yM h) 37 78).toNat) 0) 37 78) (Eq.trans (zs_na (by decide) : (zs (zs (zs (zs (zs (zs (zs (zs (zs (zs (yM h) 84 (((yM h) 170 b.toNat).toNat) (w32 (((yM h) 84 (((yM h) 170 b.toNat).toNat)) - (max (yWask q (yM h) 1 a.toNat b.toNat c) 0)))) 84 a.toNat (w32 (((zs (yM h) 84 (((yM h) 170 b.toNat).toNat) (w32 (((yM h) 84 (((yM h) 170 b.toNat).toNat)) - (max (yWask q (yM h) 1 a.toNat b.toNat c) 0)))) 84 a.toNat) + (max (yWask q (yM h) 1 a.toNat b.toNat c) 0)))) 92 a.toNat (w32 (((yM h) 92 a.toNat) + c))) 175 b.toNat (w32 (((yM h) 175 b.toNat) - c))) 180 (((yM h) 37 78).toNat) b) 181 (((yM h) 37 78).toNat) a) 182 (((yM h) 37 78).toNat) ((yM h) 37 0)) 183 (((yM h) 37 78).toNat) (c / 2)) 184 (((yM h) 37 78).toNat) (-1)) 185 (((yM h) 37 78).toNat) 0) 37 78 = (zs (zs (zs (zs (zs (zs (zs (zs (zs (yM h) 84 (((yM h) 170 b.toNat).toNat) (w32 (((yM h) 84 (((yM h) 170 b.toNat).toNat)) - (max (yWask q (yM h) 1 a.toNat b.toNat c) 0)))) 84 a.toNat (w32 (((zs (yM h) 84 (((yM h) 170 b.toNat).toNat) (w32 (((yM h) 84 (((yM h) 170 b.toNat).toNat)) - (max (yWask q (yM h) 1 a.toNat b.toNat c) 0)))) 84 a.toNat) + (max (yWask q (yM h) 1 a.toNat b.toNat c) 0)))) 92 a.toNat (w32 (((yM h) 92 a.toNat) + c))) 175 b.toNat (w32 (((yM h) 175 b.toNat) - c))) 180 (((yM h) 37 78).toNat) b) 181 (((yM h) 37 78).toNat) a) 182 (((yM h) 37 78).toNat) ((yM h) 37 0)) 183 (((yM h) 37 78).toNat) (c / 2)) 184 (((yM h) 37 78).toNat) (-1)) 37 78) (Eq.trans (zs_na (by decide) : (zs (zs (zs (zs (zs (zs (zs (zs (zs (yM h) 84 (((yM h) 170 b.toNat).toNat) (w32 (((yM h) 84 (((yM h) 170 b.toNat).toNat)) - (max (yWask q (yM h) 1 a.toNat b.toNat c) 0)))) 84 a.toNat (w32 (((zs (yM h) 84 (((yM h) 170 b.toNat).toNat) (w32 (((yM h) 84 (((yM h) 170 b.toNat).toNat)) - (max (yWask q (yM h) 1 a.toNat b.toNat c) 0)))) 84 a.toNat) + (max (yWask q (yM h) 1 a.toNat b.toNat c) 0)))) 92 a.toNat (w32 (((yM h) 92 a.toNat) + c))) 175 b.toNat (w32 (((yM h) 175 b.toNat) - c))) 180 (((yM h) 37 78).toNat) b) 181 (((yM h) 37 78).toNat) a) 182 (((yM h) 37 78).toNat) ((yM h) 37 0)) 183 (((yM h) 37 78).toNat) (c / 2)) 184 (((yM h) 37 78).toNat) (-1)) 37 78 = (zs (zs (zs (zs (zs (zs (zs (zs (yM h) 84 (((yM h) 170 b.toNat).toNat) (w32 (((yM h) 84 (((yM h) 170 b.toNat).toNat)) - (max (yWask q (yM h) 1 a.toNat b.toNat c) 0)))) 84 a.toNat (w32 (((zs (yM h) 84 (((yM h) 170 b.toNat).toNat) (w32 (((yM h) 84 (((yM h) 170 b.toNat).toNat)) - (max (yWask q (yM h) 1 a.toNat b.toNat c) 0)))) 84 a.toNat) + (max (yWask q (yM h) 1 a.toNat b.toNat c) 0)))) 92 a.toNat (w32 (((yM h) 92 a.toNat) + c))) 175 b.toNat (w32 (((yM h) 175 b.toNat) - c))) 180 (((yM h) 37 78).toNat) b) 181 (((yM h) 37 78).toNat) a) 182 (((yM h) 37 78).toNat) ((yM h) 37 0)) 183 (((yM h) 37 78).toNat) (c / 2)) 37 78) (Eq.trans (zs_na (by decide) : (zs (zs (zs (zs (zs (zs (zs (zs (yM h) 84 (((yM h) 170 b.toNat).toNat) (w32 (((yM h) 84 (((yM h) 170 b.toNat).toNat)) - (max (yWask q (yM h) 1 a.toNat b.toNat c) 0)))) 84 a.toNat (w32 (((zs (yM h) 84 (((yM h) 170 b.toNat).toNat) (w32 (((yM h) 84 (((yM h) 170 b.toNat).toNat)) - (max (yWask q (yM h) 1 a.toNat b.toNat c) 0)))) 84 a.toNat) + (max (yWask q (yM h) 1 a.toNat b.toNat c) 0)))) 92 a.toNat (w32 (((yM h) 92 a.toNat) + c))) 175 b.toNat (w32 (((yM h) 175 b.toNat) - c))) 180 (((yM h) 37 78).toNat) b) 181 (((yM h) 37 78).toNat) a) 182 (((yM h) 37 78).toNat) ((yM h) 37 0)) 183 (((yM h) 37 78).toNat) (c / 2)) 37 78 = (zs (zs (zs (zs (zs (zs (zs (yM h) 84 (((yM h) 170 b.toNat).toNat) (w32 (((yM h) 84 (((yM h) 170 b.toNat).toNat)) - (max (yWask q (yM h) 1 a.toNat b.toNat c) 0)))) 84 a.toNat (w32 (((zs (yM h) 84 (((yM h) 170 b.toNat).toNat) (w32 (((yM h) 84 (((yM h) 170 b.toNat).toNat)) - (max (yWask q (yM h) 1 a.toNat b.toNat c) 0)))) 84 a.toNat) + (max (yWask q (yM h) 1 a.toNat b.toNat c) 0)))) 92 a.toNat (w32 (((yM h) 92 a.toNat) + c))) 175 b.toNat (w32 (((yM h) 175 b.toNat) - c))) 180 (((yM h) 37 78).toNat) b) 181 (((yM h) 37 78).toNat) a) 182 (((yM h) 37 78).toNat) ((yM h) 37 0)) 37 78) (Eq.trans (zs_na (by decide) : (zs (zs (zs (zs (zs (zs (zs (yM h) 84 (((yM h) 170 b.toNat).toNat) (w32 (((yM h) 84 (((yM h) 170 b.toNat).toNat)) - (max (yWask q (yM h) 1 a.toNat b.toNat c) 0)))) 84 a.toNat (w32 (((zs (yM h) 84 (((yM h) 170 b.toNat).toNat) (w32 (((yM h) 84 (((yM h) 170 b.toNat).toNat)) - (max (yWask q (yM h) 1 a.toNat b.toNat c) 0)))) 84 a.toNat) + (max (yWask q (yM h) 1 a.toNat b.toNat c) 0)))) 92 a.toNat (w32 (((yM h) 92 a.toNat) + c))) 175 b.toNat (w32 (((yM h) 175 b.toNat) - c))) 180 (((yM h) 37 78).toNat) b) 181 (((yM h) 37 78).toNat) a) 182 (((yM h) 37 78).toNat) ((yM h) 37 0)) 37 78 = (zs (zs (zs (zs (zs (zs (yM h) 84 (((yM h) 170 b.toNat).toNat) (w32 (((yM h) 84 (((yM h) 170 b.toNat).toNat)) - (max (yWask q (yM h) 1 a.toNat b.toNat c) 0)))) 84 a.toNat (w32 (((zs (yM h) 84 (((yM h) 170 b.toNat).toNat) (w32 (((yM h) 84 (((yM h) 170 b.toNat).toNat)) - (max (yWask q (yM h) 1 a.toNat b.toNat c) 0)))) 84 a.toNat) + (max (yWask q (yM h) 1 a.toNat b.toNat c) 0)))) 92 a.toNat (w32 (((yM h) 92 a.toNat) + c))) 175 b.toNat (w32 (((yM h) 175 b.toNat) - c))) 180 (((yM h) 37 78).toNat) b) 181 (((yM h) 37 78).toNat) a) 37 78) (Eq.trans (zs_na (by decide) : (zs (zs (zs (zs (zs (zs (yM h) 84 (((yM h) 170 b.toNat).toNat) (w32 (((yM h) 84 (((yM h) 170 b.toNat).toNat)) - (max (yWask q (yM h) 1 a.toNat b.toNat c) 0)))) 84 a.toNat (w32 (((zs (yM h) 84 (((yM h) 170 b.toNat).toNat) (w32 (((yM h) 84 (((yM h) 170 b.toNat).toNat)) - (max (yWask q (yM h) 1 a.toNat b.toNat c) 0)))) 84 a.toNat) + (max (yWask q (yM h) 1 a.toNat b.toNat c) 0)))) 92 a.toNat (w32 (((yM h) 92 a.toNat) + c))) 175 b.toNat (w32 (((yM h) 175 b.toNat) - c))) 180 (((yM h) 37 78).toNat) b) 181 (((yM h) 37 78).toNat) a) 37 78 = (zs (zs (zs (zs (zs (yM h) 84 (((yM h) 170 b.toNat).toNat) (w32 (((yM h) 84 (((yM h) 170 b.toNat).toNat)) - (max (yWask q (yM h) 1 a.toNat b.toNat c) 0)))) 84 a.toNat (w32 (((zs (yM h) 84 (((yM h) 170 b.toNat).toNat) (w32 (((yM h) 84 (((yM h) 170 b.toNat).toNat)) - (max (yWask q (yM h) 1 a.toNat b.toNat c) 0)))) 84 a.toNat) + (max (yWask q (yM h) 1 a.toNat b.toNat c) 0)))) 92 a.toNat (w32 (((yM h) 92 a.toNat) + c))) 175 b.toNat (w32 (((yM h) 175 b.toNat) - c))) 180 (((yM h) 37 78).toNat) b) 37 78) (Eq.trans (zs_na (by decide) : (zs (zs (zs (zs (zs (yM h) 84 (((yM h) 170 b.toNat).toNat) (w32 (((yM h) 84 (((yM h) 170 b.toNat).toNat)) - (max (yWask q (yM h) 1 a.toNat b.toNat c) 0)))) 84 a.toNat (w32 (((zs (yM h) 84 (((yM h) 170 b.toNat).toNat) (w32 (((yM h) 84 (((yM h) 170 b.toNat).toNat)) - (max (yWask q (yM h) 1 a.toNat b.toNat c) 0)))) 84 a.toNat) + (max (yWask q (yM h) 1 a.toNat b.toNat c) 0)))) 92 a.toNat (w32 (((yM h) 92 a.toNat) + c))) 175 b.toNat (w32 (((yM h) 175 b.toNat) - c))) 180 (((yM h) 37 78).toNat) b) 37 78 = (zs (zs (zs (zs (yM h) 84 (((yM h) 170 b.toNat).toNat) (w32 (((yM h) 84 (((yM h) 170 b.toNat).toNat)) - (max (yWask q (yM h) 1 a.toNat b.toNat c) 0)))) 84 a.toNat (w32 (((zs (yM h) 84 (((yM h) 170 b.toNat).toNat) (w32 (((yM h) 84 (((yM h) 170 b.toNat).toNat)) - (max (yWask q (yM h) 1 a.toNat b.toNat c) 0)))) 84 a.toNat) + (max (yWask q (yM h) 1 a.toNat b.toNat c) 0)))) 92 a.toNat (w32 (((yM h) 92 a.toNat) + c))) 175 b.toNat (w32 (((yM h) 175 b.toNat) - c))) 37 78) (Eq.trans (zs_na (by decide) : (zs (zs (zs (zs (yM h) 84 (((yM h) 170 b.toNat).toNat) (w32 (((yM h) 84 (((yM h) 170 b.toNat).toNat)) - (max (yWask q (yM h) 1 a.toNat b.toNat c) 0)))) 84 a.toNat (w32 (((zs (yM h) 84 (((yM h) 170 b.toNat).toNat) (w32 (((yM h) 84 (((yM h) 170 b.toNat).toNat)) - (max (yWask q (yM h) 1 a.toNat b.toNat c) 0)))) 84 a.toNat) + (max (yWask q (yM h) 1 a.toNat b.toNat c) 0)))) 92 a.toNat (w32 (((yM h) 92 a.toNat) + c))) 175 b.toNat (w32 (((yM h) 175 b.toNat) - c))) 37 78 = (zs (zs (zs (yM h) 84 (((yM h) 170 b.toNat).toNat) (w32 (((yM h) 84 (((yM h) 170 b.toNat).toNat)) - (max (yWask q (yM h) 1 a.toNat b.toNat c) 0)))) 84 a.toNat (w32 (((zs (yM h) 84 (((yM h) 170 b.toNat).toNat) (w32 (((yM h) 84 (((yM h) 170 b.toNat).toNat)) - (max (yWask q (yM h) 1 a.toNat b.toNat c) 0)))) 84 a.toNat) + (max (yWask q (yM h) 1 a.toNat b.toNat c) 0)))) 92 a.toNat (w32 (((yM h) 92 a.toNat) + c))) 37 78) (Eq.trans (zs_na (by decide) : (zs (zs (zs (yM h) 84 (((yM h) 170 b.toNat).toNat) (w32 (((yM h) 84 (((yM h) 170 b.toNat).toNat)) - (max (yWask q (yM h) 1 a.toNat b.toNat c) 0)))) 84 a.toNat (w32 (((zs (yM h) 84 (((yM h) 170 b.toNat).toNat) (w32 (((yM h) 84 (((yM h) 170 b.toNat).toNat)) - (max (yWask q (yM h) 1 a.toNat b.toNat c) 0)))) 84 a.toNat) + (max (yWask q (yM h) 1 a.toNat b.toNat c) 0)))) 92 a.toNat (w32 (((yM h) 92 a.toNat) + c))) 37 78 = (zs (zs (yM h) 84 (((yM h) 170 b.toNat).toNat) (w32 (((yM h) 84 (((yM h) 170 b.toNat).toNat)) - (max (yWask q (yM h) 1 a.toNat b.toNat c) 0)))) 84 a.toNat (w32 (((zs (yM h) 84 (((yM h) 170 b.toNat).toNat) (w32 (((yM h) 84 (((yM h) 170 b.toNat).toNat)) - (max (yWask q (yM h) 1 a.toNat b.toNat c) 0)))) 84 a.toNat) + (max (yWask q (yM h) 1 a.toNat b.toNat c) 0)))) 37 78) (Eq.trans (zs_na (by decide) : (zs (zs (yM h) 84 (((yM h) 170 b.toNat).toNat) (w32 (((yM h) 84 (((yM h) 170 b.toNat).toNat)) - (max (yWask q (yM h) 1 a.toNat b.toNat c) 0)))) 84 a.toNat (w32 (((zs (yM h) 84 (((yM h) 170 b.toNat).toNat) (w32 (((yM h) 84 (((yM h) 170 b.toNat).toNat)) - (max (yWask q (yM h) 1 a.toNat b.toNat c) 0)))) 84 a.toNat) + (max (yWask q (yM h) 1 a.toNat b.toNat c) 0)))) 37 78 = (zs (yM h) 84 (((yM h) 170 b.toNat).toNat) (w32 (((yM h) 84 (((yM h) 170 b.toNat).toNat)) - (max (yWask q (yM h) 1 a.toNat b.toNat c) 0)))) 37 78) (Eq.trans (zs_na (by decide) : (zs (yM h) 84 (((yM h) 170 b.toNat).toNat) (w32 (((yM h) 84 (((yM h) 170 b.toNat).toNat)) - (max (yWask q (yM h) 1 a.toNat b.toNat c) 0)))) 37 78 = (yM h) 37 78) rfl)))))))))))))
              refine zwW_p [(0, 1, 0)] (q := 207) (ls' := [(2, 37), (0, a), (0, b), (0, c), (0, v19)]) (st' := [(0, 1), (0, v59), (2, 37)]) (by decide +kernel) rfl ?_
              refine zwW_add (nx := 208) (by decide +kernel) ⟨by omega, by omega⟩ ?_
              refine zwW_ps Ih58 (kd := 13) (bn := 78) (n := 97) (lo := 0) (hi := 200) (nx := 211) (by decide +kernel) ⟨by omega, by omega⟩ ?_
              intro h60 eh60 Ih60
              have th60_37_0 : fld h60 37 0 = fld h58 37 0 := by rw [eh60]; exact fld_wr (by decide)
              have th60_37_1 : fld h60 37 1 = fld h58 37 1 := by rw [eh60]; exact fld_wr (by decide)
              have th60_37_2 : fld h60 37 2 = fld h58 37 2 := by rw [eh60]; exact fld_wr (by decide)
              have th60_37_64 : fld h60 37 64 = fld h58 37 64 := by rw [eh60]; exact fld_wr (by decide)
              have th60_37_78 : fld h60 37 78 = (v59 + 1) := by rw [eh60]; exact fld_wr_eq (Ih58.s (a1 := 37) (a2 := 37) (k := 13) (n := 97) (by decide +kernel) (by decide) (by decide)) (by decide)
              have Vh60 : mRq q h60 := Vh58.fr (zMR.one (a1 := 37) (a2 := 37) (j1 := 78) (j2 := 79) ⟨by decide, by decide⟩ ⟨by decide, by decide⟩ eh60) (by decide +kernel)
              have Zh60 : yM h60 = (zs (zs (zs (zs (zs (zs (zs (zs (zs (zs (zs (zs (yM h) 84 (((yM h) 170 b.toNat).toNat) (w32 (((yM h) 84 (((yM h) 170 b.toNat).toNat)) - (max (yWask q (yM h) 1 a.toNat b.toNat c) 0)))) 84 a.toNat (w32 (((zs (yM h) 84 (((yM h) 170 b.toNat).toNat) (w32 (((yM h) 84 (((yM h) 170 b.toNat).toNat)) - (max (yWask q (yM h) 1 a.toNat b.toNat c) 0)))) 84 a.toNat) + (max (yWask q (yM h) 1 a.toNat b.toNat c) 0)))) 92 a.toNat (w32 (((yM h) 92 a.toNat) + c))) 175 b.toNat (w32 (((yM h) 175 b.toNat) - c))) 180 (((yM h) 37 78).toNat) b) 181 (((yM h) 37 78).toNat) a) 182 (((yM h) 37 78).toNat) ((yM h) 37 0)) 183 (((yM h) 37 78).toNat) (c / 2)) 184 (((yM h) 37 78).toNat) (-1)) 185 (((yM h) 37 78).toNat) 0) 37 70 (w32 (((yM h) 37 70) + c))) 37 78 (((yM h) 37 78) + 1)) := by rw [yM_ws (i := 78) (kd := 13) (n := 97) rfl (Ih58.s (a1 := 37) (a2 := 37) (by decide +kernel) (by decide) (by decide)) (by decide) eh60, Zh58, sv59]
              have Rh60 : zMR ms42 h h60 := Rh58.w (a1 := 37) (a2 := 37) (j1 := 78) (j2 := 79) (by decide +kernel) ⟨by decide, by decide⟩ ⟨by decide, by decide⟩ eh60
              refine zwW_p [(1, 0, 2)] (q := 212) (ls' := [(2, 37), (0, a), (0, b), (0, c), (0, v19)]) (st' := [(2, 37)]) (by decide +kernel) rfl ?_
              refine zwW_gs Ih60 (kd := 13) (bn := 78) (n := 97) (t := 0) (lo := 0) (hi := 200) (nx := 215) (by decide +kernel) ?_
              intro v61 ev61 lv61 uv61
              have sv61 : v61 = (((yM h) 37 78) + 1) := Eq.trans ev61 (Eq.trans (Eq.symm (yM_s (h := h60) (i := 78) rfl)) (Eq.trans (congrFun (congrFun Zh60 37) 78) (zs_eq : (zs (zs (zs (zs (zs (zs (zs (zs (zs (zs (zs (zs (yM h) 84 (((yM h) 170 b.toNat).toNat) (w32 (((yM h) 84 (((yM h) 170 b.toNat).toNat)) - (max (yWask q (yM h) 1 a.toNat b.toNat c) 0)))) 84 a.toNat (w32 (((zs (yM h) 84 (((yM h) 170 b.toNat).toNat) (w32 (((yM h) 84 (((yM h) 170 b.toNat).toNat)) - (max (yWask q (yM h) 1 a.toNat b.toNat c) 0)))) 84 a.toNat) + (max (yWask q (yM h) 1 a.toNat b.toNat c) 0)))) 92 a.toNat (w32 (((yM h) 92 a.toNat) + c))) 175 b.toNat (w32 (((yM h) 175 b.toNat) - c))) 180 (((yM h) 37 78).toNat) b) 181 (((yM h) 37 78).toNat) a) 182 (((yM h) 37 78).toNat) ((yM h) 37 0)) 183 (((yM h) 37 78).toNat) (c / 2)) 184 (((yM h) 37 78).toNat) (-1)) 185 (((yM h) 37 78).toNat) 0) 37 70 (w32 (((yM h) 37 70) + c))) 37 78 (((yM h) 37 78) + 1)) 37 78 = (((yM h) 37 78) + 1))))
              refine zwW_p [(0, 1, 0)] (q := 216) (ls' := [(2, 37), (0, a), (0, b), (0, c), (0, v19)]) (st' := [(0, 1), (0, v61)]) (by decide +kernel) rfl ?_
              refine zwW_sub (nx := 217) (by decide +kernel) ⟨by omega, by omega⟩ ?_
              refine zwW_ret (nx := 218) (a := 0) (b := 0) (by decide +kernel) rfl (Or.inl rfl) ?_
              exact ⟨Ih60, Rh60, by omega, by unfold yWvA; (repeat' (first | rw [if_pos (by omega)] | rw [if_neg (by omega)])); all_goals (first | rfl | omega), by refine Eq.trans Zh60 ?_; unfold yWvF yWvS; (try rw [show yWask q (yM h) 4 a.toNat b.toNat c = q 4 (yM h 37 0) (yWN (yM h) a.toNat b.toNat c) from rfl]); (repeat' (first | rw [if_pos (by omega)] | rw [if_neg (by omega)])); all_goals (repeat' (first | rfl | omega | apply zs_cg))⟩
            · refine zwW_p [(0, 1, 0), (24, 88, 0)] (q := 88) (ls' := [(2, 37), (0, a), (0, b), (0, c), (0, v19)]) (st' := [(0, 1), (0, v25), (2, 185)]) (by decide +kernel) rfl ?_
              have ib10 : 0 ≤ v25 ∧ v25 < ((200 : Nat) : Int) := ⟨by omega, by omega⟩
              refine zwW_asz Ih29 (a1 := 185) (a2 := 185) (n := 200) (nx := 89) (by decide +kernel) ⟨by decide, by decide⟩ ib10 (by omega) ?_
              intro h62 eh62 Ih62
              have jbh62 : 0 ≤ v25.toNat ∧ v25.toNat < 200 := ⟨Nat.zero_le _, zit ib10⟩
              have th62_37_0 : fld h62 37 0 = fld h29 37 0 := by rw [eh62]; exact fld_wr (Or.inl (by decide))
              have th62_37_1 : fld h62 37 1 = fld h29 37 1 := by rw [eh62]; exact fld_wr (Or.inl (by decide))
              have th62_37_2 : fld h62 37 2 = fld h29 37 2 := by rw [eh62]; exact fld_wr (Or.inl (by decide))
              have th62_37_64 : fld h62 37 64 = fld h29 37 64 := by rw [eh62]; exact fld_wr (Or.inl (by decide))
              have th62_37_78 : fld h62 37 78 = fld h29 37 78 := by rw [eh62]; exact fld_wr (Or.inl (by decide))
              have Vh62 : mRq q h62 := Vh29.fr (zMR.one (a1 := 185) (a2 := 185) (j1 := 0) (j2 := 200) ⟨by decide, by decide⟩ jbh62 eh62) (by decide +kernel)
              have Zh62 : yM h62 = (zs (yM h) 185 (((yM h) 37 78).toNat) 1) := by rw [yM_w (a := 185) (n := 200) (i := v25.toNat) (kd := 22) rfl (Ih29.s (a1 := 185) (a2 := 185) (by decide +kernel) (by decide) (by decide)) jbh62.2 eh62, Zh29, sv25]
              have Rh62 : zMR ms42 h h62 := Rh29.w (a1 := 185) (a2 := 185) (j1 := 0) (j2 := 200) (by decide +kernel) ⟨by decide, by decide⟩ jbh62 eh62
              refine zwW_p [(1, 0, 2)] (q := 90) (ls' := [(2, 37), (0, a), (0, b), (0, c), (0, v19)]) (st' := [(2, 37)]) (by decide +kernel) rfl ?_
              refine zwW_gc Ih62 (kd := 13) (bn := 25) (n := 97) (c := 84) (nx := 93) (by decide +kernel) ?_
              refine zwW_p [(1, 0, 2)] (q := 94) (ls' := [(2, 37), (0, a), (0, b), (0, c), (0, v19)]) (st' := [(2, 37), (2, 84)]) (by decide +kernel) rfl ?_
              refine zwW_gc Ih62 (kd := 13) (bn := 58) (n := 97) (c := 170) (nx := 97) (by decide +kernel) ?_
              refine zwW_p [(1, 2, 0)] (q := 98) (ls' := [(2, 37), (0, a), (0, b), (0, c), (0, v19)]) (st' := [(0, b), (2, 170), (2, 84)]) (by decide +kernel) rfl ?_
              have ib11 : 0 ≤ b ∧ b < ((300 : Nat) : Int) := ⟨by omega, by omega⟩
              refine zwW_al Ih62 (a1 := 170) (a2 := 170) (kd := 20) (n := 300) (t := 0) (lo := 0) (hi := 19) (nx := 99) (by decide +kernel) ⟨by decide, by decide⟩ ib11 ?_
              intro v63 ev63 lv63 uv63
              have sv63 : v63 = (yM h) 170 b.toNat := Eq.trans ev63 (Eq.trans (Eq.symm (yM_p (h := h62) (a := 170) (n := 300) (i := b.toNat) rfl (zit ib11))) (Eq.trans (congrFun (congrFun Zh62 170) b.toNat) (Eq.trans (zs_na (by decide) : (zs (yM h) 185 (((yM h) 37 78).toNat) 1) 170 b.toNat = (yM h) 170 b.toNat) rfl)))
              refine zwW_p [(14, 0, 0)] (q := 100) (ls' := [(2, 37), (0, a), (0, b), (0, c), (0, v19)]) (st' := [(0, v63), (2, 84), (0, v63), (2, 84)]) (by decide +kernel) rfl ?_
              have ib12 : 0 ≤ v63 ∧ v63 < ((20 : Nat) : Int) := ⟨by omega, by omega⟩
              refine zwW_al Ih62 (a1 := 84) (a2 := 84) (kd := 20) (n := 20) (t := 0) (lo := -2147483648) (hi := 2147483647) (nx := 101) (by decide +kernel) ⟨by decide, by decide⟩ ib12 ?_
              intro v64 ev64 lv64 uv64
              have sv64 : v64 = (yM h) 84 (((yM h) 170 b.toNat).toNat) := Eq.trans ev64 (Eq.trans (Eq.symm (yM_p (h := h62) (a := 84) (n := 20) (i := v63.toNat) rfl (zit ib12))) (Eq.trans (congrArg (yM h62 84) (show v63.toNat = ((yM h) 170 b.toNat).toNat by rw [sv63])) (Eq.trans (congrFun (congrFun Zh62 84) (((yM h) 170 b.toNat).toNat)) (Eq.trans (zs_na (by decide) : (zs (yM h) 185 (((yM h) 37 78).toNat) 1) 84 (((yM h) 170 b.toNat).toNat) = (yM h) 84 (((yM h) 170 b.toNat).toNat)) rfl))))
              refine zwW_p [(1, 4, 0)] (q := 103) (ls' := [(2, 37), (0, a), (0, b), (0, c), (0, v19)]) (st' := [(0, v19), (0, v64), (0, v63), (2, 84)]) (by decide +kernel) rfl ?_
              refine zwW_sbw (nx := 104) (by decide +kernel) ?_
              intro v65 ev65 lv65 uv65
              have Ev65 : v65 = w32 (((yM h) 84 (((yM h) 170 b.toNat).toNat)) - (max (yWask q (yM h) 1 a.toNat b.toNat c) 0)) := by rw [ev65, sv64, M54]
              refine zwW_as Ih62 (a1 := 84) (a2 := 84) (n := 20) (lo := -2147483648) (hi := 2147483647) (nx := 105) (by decide +kernel) ⟨by decide, by decide⟩ ib12 ⟨by omega, by omega⟩ ?_
              intro h66 eh66 Ih66
              have jbh66 : 0 ≤ v63.toNat ∧ v63.toNat < 20 := ⟨Nat.zero_le _, zit ib12⟩
              have th66_37_0 : fld h66 37 0 = fld h62 37 0 := by rw [eh66]; exact fld_wr (Or.inl (by decide))
              have th66_37_1 : fld h66 37 1 = fld h62 37 1 := by rw [eh66]; exact fld_wr (Or.inl (by decide))
              have th66_37_2 : fld h66 37 2 = fld h62 37 2 := by rw [eh66]; exact fld_wr (Or.inl (by decide))
              have th66_37_64 : fld h66 37 64 = fld h62 37 64 := by rw [eh66]; exact fld_wr (Or.inl (by decide))
              have th66_37_78 : fld h66 37 78 = fld h62 37 78 := by rw [eh66]; exact fld_wr (Or.inl (by decide))
              have Vh66 : mRq q h66 := Vh62.fr (zMR.one (a1 := 84) (a2 := 84) (j1 := 0) (j2 := 20) ⟨by decide, by decide⟩ jbh66 eh66) (by decide +kernel)
              have Uh66 : yM h66 = (zs (zs (yM h) 185 (((yM h) 37 78).toNat) 1) 84 (((yM h) 170 b.toNat).toNat) (w32 (((yM h) 84 (((yM h) 170 b.toNat).toNat)) - (max (yWask q (yM h) 1 a.toNat b.toNat c) 0)))) := by rw [yM_w (a := 84) (n := 20) (i := v63.toNat) (kd := 20) rfl (Ih62.s (a1 := 84) (a2 := 84) (by decide +kernel) (by decide) (by decide)) jbh66.2 eh66, Zh62, Ev65, sv63]
              have Zh66 : yM h66 = (zs (zs (yM h) 84 (((yM h) 170 b.toNat).toNat) (w32 (((yM h) 84 (((yM h) 170 b.toNat).toNat)) - (max (yWask q (yM h) 1 a.toNat b.toNat c) 0)))) 185 (((yM h) 37 78).toNat) 1) := by rw [Uh66, zs_sw (a := 185) (b := 84) (by decide)]
              have Rh66 : zMR ms42 h h66 := Rh62.w (a1 := 84) (a2 := 84) (j1 := 0) (j2 := 20) (by decide +kernel) ⟨by decide, by decide⟩ jbh66 eh66
              refine zwW_p [(1, 0, 2)] (q := 106) (ls' := [(2, 37), (0, a), (0, b), (0, c), (0, v19)]) (st' := [(2, 37)]) (by decide +kernel) rfl ?_
              refine zwW_gc Ih66 (kd := 13) (bn := 25) (n := 97) (c := 84) (nx := 109) (by decide +kernel) ?_
              refine zwW_p [(1, 1, 0), (14, 0, 0)] (q := 111) (ls' := [(2, 37), (0, a), (0, b), (0, c), (0, v19)]) (st' := [(0, a), (2, 84), (0, a), (2, 84)]) (by decide +kernel) rfl ?_
              have ib13 : 0 ≤ a ∧ a < ((20 : Nat) : Int) := ⟨by omega, by omega⟩
              refine zwW_al Ih66 (a1 := 84) (a2 := 84) (kd := 20) (n := 20) (t := 0) (lo := -2147483648) (hi := 2147483647) (nx := 112) (by decide +kernel) ⟨by decide, by decide⟩ ib13 ?_
              intro v67 ev67 lv67 uv67
              have sv67 : v67 = (zs (yM h) 84 (((yM h) 170 b.toNat).toNat) (w32 (((yM h) 84 (((yM h) 170 b.toNat).toNat)) - (max (yWask q (yM h) 1 a.toNat b.toNat c) 0)))) 84 a.toNat := Eq.trans ev67 (Eq.trans (Eq.symm (yM_p (h := h66) (a := 84) (n := 20) (i := a.toNat) rfl (zit ib13))) (Eq.trans (congrFun (congrFun Zh66 84) a.toNat) (Eq.trans (zs_na (by decide) : (zs (zs (yM h) 84 (((yM h) 170 b.toNat).toNat) (w32 (((yM h) 84 (((yM h) 170 b.toNat).toNat)) - (max (yWask q (yM h) 1 a.toNat b.toNat c) 0)))) 185 (((yM h) 37 78).toNat) 1) 84 a.toNat = (zs (yM h) 84 (((yM h) 170 b.toNat).toNat) (w32 (((yM h) 84 (((yM h) 170 b.toNat).toNat)) - (max (yWask q (yM h) 1 a.toNat b.toNat c) 0)))) 84 a.toNat) rfl)))
              refine zwW_p [(1, 4, 0)] (q := 114) (ls' := [(2, 37), (0, a), (0, b), (0, c), (0, v19)]) (st' := [(0, v19), (0, v67), (0, a), (2, 84)]) (by decide +kernel) rfl ?_
              refine zwW_adw (nx := 115) (by decide +kernel) ?_
              intro v68 ev68 lv68 uv68
              have Ev68 : v68 = w32 (((zs (yM h) 84 (((yM h) 170 b.toNat).toNat) (w32 (((yM h) 84 (((yM h) 170 b.toNat).toNat)) - (max (yWask q (yM h) 1 a.toNat b.toNat c) 0)))) 84 a.toNat) + (max (yWask q (yM h) 1 a.toNat b.toNat c) 0)) := by rw [ev68, sv67, M54]
              refine zwW_as Ih66 (a1 := 84) (a2 := 84) (n := 20) (lo := -2147483648) (hi := 2147483647) (nx := 116) (by decide +kernel) ⟨by decide, by decide⟩ ib13 ⟨by omega, by omega⟩ ?_
              intro h69 eh69 Ih69
              have jbh69 : 0 ≤ a.toNat ∧ a.toNat < 20 := ⟨Nat.zero_le _, zit ib13⟩
              have th69_37_0 : fld h69 37 0 = fld h66 37 0 := by rw [eh69]; exact fld_wr (Or.inl (by decide))
              have th69_37_1 : fld h69 37 1 = fld h66 37 1 := by rw [eh69]; exact fld_wr (Or.inl (by decide))
              have th69_37_2 : fld h69 37 2 = fld h66 37 2 := by rw [eh69]; exact fld_wr (Or.inl (by decide))
              have th69_37_64 : fld h69 37 64 = fld h66 37 64 := by rw [eh69]; exact fld_wr (Or.inl (by decide))
              have th69_37_78 : fld h69 37 78 = fld h66 37 78 := by rw [eh69]; exact fld_wr (Or.inl (by decide))
              have Vh69 : mRq q h69 := Vh66.fr (zMR.one (a1 := 84) (a2 := 84) (j1 := 0) (j2 := 20) ⟨by decide, by decide⟩ jbh69 eh69) (by decide +kernel)
              have Uh69 : yM h69 = (zs (zs (zs (yM h) 84 (((yM h) 170 b.toNat).toNat) (w32 (((yM h) 84 (((yM h) 170 b.toNat).toNat)) - (max (yWask q (yM h) 1 a.toNat b.toNat c) 0)))) 185 (((yM h) 37 78).toNat) 1) 84 a.toNat (w32 (((zs (yM h) 84 (((yM h) 170 b.toNat).toNat) (w32 (((yM h) 84 (((yM h) 170 b.toNat).toNat)) - (max (yWask q (yM h) 1 a.toNat b.toNat c) 0)))) 84 a.toNat) + (max (yWask q (yM h) 1 a.toNat b.toNat c) 0)))) := by rw [yM_w (a := 84) (n := 20) (i := a.toNat) (kd := 20) rfl (Ih66.s (a1 := 84) (a2 := 84) (by decide +kernel) (by decide) (by decide)) jbh69.2 eh69, Zh66, Ev68]
              have Zh69 : yM h69 = (zs (zs (zs (yM h) 84 (((yM h) 170 b.toNat).toNat) (w32 (((yM h) 84 (((yM h) 170 b.toNat).toNat)) - (max (yWask q (yM h) 1 a.toNat b.toNat c) 0)))) 84 a.toNat (w32 (((zs (yM h) 84 (((yM h) 170 b.toNat).toNat) (w32 (((yM h) 84 (((yM h) 170 b.toNat).toNat)) - (max (yWask q (yM h) 1 a.toNat b.toNat c) 0)))) 84 a.toNat) + (max (yWask q (yM h) 1 a.toNat b.toNat c) 0)))) 185 (((yM h) 37 78).toNat) 1) := by rw [Uh69, zs_sw (a := 185) (b := 84) (by decide)]
              have Rh69 : zMR ms42 h h69 := Rh66.w (a1 := 84) (a2 := 84) (j1 := 0) (j2 := 20) (by decide +kernel) ⟨by decide, by decide⟩ jbh69 eh69
              refine zwW_p [(1, 0, 2)] (q := 117) (ls' := [(2, 37), (0, a), (0, b), (0, c), (0, v19)]) (st' := [(2, 37)]) (by decide +kernel) rfl ?_
              refine zwW_gc Ih69 (kd := 13) (bn := 63) (n := 97) (c := 175) (nx := 120) (by decide +kernel) ?_
              refine zwW_p [(1, 2, 0), (14, 0, 0)] (q := 122) (ls' := [(2, 37), (0, a), (0, b), (0, c), (0, v19)]) (st' := [(0, b), (2, 175), (0, b), (2, 175)]) (by decide +kernel) rfl ?_
              refine zwW_al Ih69 (a1 := 175) (a2 := 175) (kd := 20) (n := 300) (t := 0) (lo := -2147483648) (hi := 2147483647) (nx := 123) (by decide +kernel) ⟨by decide, by decide⟩ ib11 ?_
              intro v70 ev70 lv70 uv70
              have sv70 : v70 = (yM h) 175 b.toNat := Eq.trans ev70 (Eq.trans (Eq.symm (yM_p (h := h69) (a := 175) (n := 300) (i := b.toNat) rfl (zit ib11))) (Eq.trans (congrFun (congrFun Zh69 175) b.toNat) (Eq.trans (zs_na (by decide) : (zs (zs (zs (yM h) 84 (((yM h) 170 b.toNat).toNat) (w32 (((yM h) 84 (((yM h) 170 b.toNat).toNat)) - (max (yWask q (yM h) 1 a.toNat b.toNat c) 0)))) 84 a.toNat (w32 (((zs (yM h) 84 (((yM h) 170 b.toNat).toNat) (w32 (((yM h) 84 (((yM h) 170 b.toNat).toNat)) - (max (yWask q (yM h) 1 a.toNat b.toNat c) 0)))) 84 a.toNat) + (max (yWask q (yM h) 1 a.toNat b.toNat c) 0)))) 185 (((yM h) 37 78).toNat) 1) 175 b.toNat = (zs (zs (yM h) 84 (((yM h) 170 b.toNat).toNat) (w32 (((yM h) 84 (((yM h) 170 b.toNat).toNat)) - (max (yWask q (yM h) 1 a.toNat b.toNat c) 0)))) 84 a.toNat (w32 (((zs (yM h) 84 (((yM h) 170 b.toNat).toNat) (w32 (((yM h) 84 (((yM h) 170 b.toNat).toNat)) - (max (yWask q (yM h) 1 a.toNat b.toNat c) 0)))) 84 a.toNat) + (max (yWask q (yM h) 1 a.toNat b.toNat c) 0)))) 175 b.toNat) (Eq.trans (zs_na (by decide) : (zs (zs (yM h) 84 (((yM h) 170 b.toNat).toNat) (w32 (((yM h) 84 (((yM h) 170 b.toNat).toNat)) - (max (yWask q (yM h) 1 a.toNat b.toNat c) 0)))) 84 a.toNat (w32 (((zs (yM h) 84 (((yM h) 170 b.toNat).toNat) (w32 (((yM h) 84 (((yM h) 170 b.toNat).toNat)) - (max (yWask q (yM h) 1 a.toNat b.toNat c) 0)))) 84 a.toNat) + (max (yWask q (yM h) 1 a.toNat b.toNat c) 0)))) 175 b.toNat = (zs (yM h) 84 (((yM h) 170 b.toNat).toNat) (w32 (((yM h) 84 (((yM h) 170 b.toNat).toNat)) - (max (yWask q (yM h) 1 a.toNat b.toNat c) 0)))) 175 b.toNat) (Eq.trans (zs_na (by decide) : (zs (yM h) 84 (((yM h) 170 b.toNat).toNat) (w32 (((yM h) 84 (((yM h) 170 b.toNat).toNat)) - (max (yWask q (yM h) 1 a.toNat b.toNat c) 0)))) 175 b.toNat = (yM h) 175 b.toNat) rfl)))))
              refine zwW_p [(1, 3, 0)] (q := 124) (ls' := [(2, 37), (0, a), (0, b), (0, c), (0, v19)]) (st' := [(0, c), (0, v70), (0, b), (2, 175)]) (by decide +kernel) rfl ?_
              refine zwW_sbw (nx := 125) (by decide +kernel) ?_
              intro v71 ev71 lv71 uv71
              have Ev71 : v71 = w32 (((yM h) 175 b.toNat) - c) := by rw [ev71, sv70]
              refine zwW_as Ih69 (a1 := 175) (a2 := 175) (n := 300) (lo := -2147483648) (hi := 2147483647) (nx := 126) (by decide +kernel) ⟨by decide, by decide⟩ ib11 ⟨by omega, by omega⟩ ?_
              intro h72 eh72 Ih72
              have jbh72 : 0 ≤ b.toNat ∧ b.toNat < 300 := ⟨Nat.zero_le _, zit ib11⟩
              have th72_37_0 : fld h72 37 0 = fld h69 37 0 := by rw [eh72]; exact fld_wr (Or.inl (by decide))
              have th72_37_1 : fld h72 37 1 = fld h69 37 1 := by rw [eh72]; exact fld_wr (Or.inl (by decide))
              have th72_37_2 : fld h72 37 2 = fld h69 37 2 := by rw [eh72]; exact fld_wr (Or.inl (by decide))
              have th72_37_64 : fld h72 37 64 = fld h69 37 64 := by rw [eh72]; exact fld_wr (Or.inl (by decide))
              have th72_37_78 : fld h72 37 78 = fld h69 37 78 := by rw [eh72]; exact fld_wr (Or.inl (by decide))
              have Vh72 : mRq q h72 := Vh69.fr (zMR.one (a1 := 175) (a2 := 175) (j1 := 0) (j2 := 300) ⟨by decide, by decide⟩ jbh72 eh72) (by decide +kernel)
              have Uh72 : yM h72 = (zs (zs (zs (zs (yM h) 84 (((yM h) 170 b.toNat).toNat) (w32 (((yM h) 84 (((yM h) 170 b.toNat).toNat)) - (max (yWask q (yM h) 1 a.toNat b.toNat c) 0)))) 84 a.toNat (w32 (((zs (yM h) 84 (((yM h) 170 b.toNat).toNat) (w32 (((yM h) 84 (((yM h) 170 b.toNat).toNat)) - (max (yWask q (yM h) 1 a.toNat b.toNat c) 0)))) 84 a.toNat) + (max (yWask q (yM h) 1 a.toNat b.toNat c) 0)))) 185 (((yM h) 37 78).toNat) 1) 175 b.toNat (w32 (((yM h) 175 b.toNat) - c))) := by rw [yM_w (a := 175) (n := 300) (i := b.toNat) (kd := 20) rfl (Ih69.s (a1 := 175) (a2 := 175) (by decide +kernel) (by decide) (by decide)) jbh72.2 eh72, Zh69, Ev71]
              have Zh72 : yM h72 = (zs (zs (zs (zs (yM h) 84 (((yM h) 170 b.toNat).toNat) (w32 (((yM h) 84 (((yM h) 170 b.toNat).toNat)) - (max (yWask q (yM h) 1 a.toNat b.toNat c) 0)))) 84 a.toNat (w32 (((zs (yM h) 84 (((yM h) 170 b.toNat).toNat) (w32 (((yM h) 84 (((yM h) 170 b.toNat).toNat)) - (max (yWask q (yM h) 1 a.toNat b.toNat c) 0)))) 84 a.toNat) + (max (yWask q (yM h) 1 a.toNat b.toNat c) 0)))) 175 b.toNat (w32 (((yM h) 175 b.toNat) - c))) 185 (((yM h) 37 78).toNat) 1) := by rw [Uh72, zs_sw (a := 185) (b := 175) (by decide)]
              have Rh72 : zMR ms42 h h72 := Rh69.w (a1 := 175) (a2 := 175) (j1 := 0) (j2 := 300) (by decide +kernel) ⟨by decide, by decide⟩ jbh72 eh72
              refine zwW_p [(1, 0, 2)] (q := 127) (ls' := [(2, 37), (0, a), (0, b), (0, c), (0, v19)]) (st' := [(2, 37)]) (by decide +kernel) rfl ?_
              refine zwW_gc Ih72 (kd := 13) (bn := 33) (n := 97) (c := 92) (nx := 130) (by decide +kernel) ?_
              refine zwW_p [(1, 1, 0), (14, 0, 0)] (q := 132) (ls' := [(2, 37), (0, a), (0, b), (0, c), (0, v19)]) (st' := [(0, a), (2, 92), (0, a), (2, 92)]) (by decide +kernel) rfl ?_
              refine zwW_al Ih72 (a1 := 92) (a2 := 92) (kd := 20) (n := 20) (t := 0) (lo := -2147483648) (hi := 2147483647) (nx := 133) (by decide +kernel) ⟨by decide, by decide⟩ ib13 ?_
              intro v73 ev73 lv73 uv73
              have sv73 : v73 = (yM h) 92 a.toNat := Eq.trans ev73 (Eq.trans (Eq.symm (yM_p (h := h72) (a := 92) (n := 20) (i := a.toNat) rfl (zit ib13))) (Eq.trans (congrFun (congrFun Zh72 92) a.toNat) (Eq.trans (zs_na (by decide) : (zs (zs (zs (zs (yM h) 84 (((yM h) 170 b.toNat).toNat) (w32 (((yM h) 84 (((yM h) 170 b.toNat).toNat)) - (max (yWask q (yM h) 1 a.toNat b.toNat c) 0)))) 84 a.toNat (w32 (((zs (yM h) 84 (((yM h) 170 b.toNat).toNat) (w32 (((yM h) 84 (((yM h) 170 b.toNat).toNat)) - (max (yWask q (yM h) 1 a.toNat b.toNat c) 0)))) 84 a.toNat) + (max (yWask q (yM h) 1 a.toNat b.toNat c) 0)))) 175 b.toNat (w32 (((yM h) 175 b.toNat) - c))) 185 (((yM h) 37 78).toNat) 1) 92 a.toNat = (zs (zs (zs (yM h) 84 (((yM h) 170 b.toNat).toNat) (w32 (((yM h) 84 (((yM h) 170 b.toNat).toNat)) - (max (yWask q (yM h) 1 a.toNat b.toNat c) 0)))) 84 a.toNat (w32 (((zs (yM h) 84 (((yM h) 170 b.toNat).toNat) (w32 (((yM h) 84 (((yM h) 170 b.toNat).toNat)) - (max (yWask q (yM h) 1 a.toNat b.toNat c) 0)))) 84 a.toNat) + (max (yWask q (yM h) 1 a.toNat b.toNat c) 0)))) 175 b.toNat (w32 (((yM h) 175 b.toNat) - c))) 92 a.toNat) (Eq.trans (zs_na (by decide) : (zs (zs (zs (yM h) 84 (((yM h) 170 b.toNat).toNat) (w32 (((yM h) 84 (((yM h) 170 b.toNat).toNat)) - (max (yWask q (yM h) 1 a.toNat b.toNat c) 0)))) 84 a.toNat (w32 (((zs (yM h) 84 (((yM h) 170 b.toNat).toNat) (w32 (((yM h) 84 (((yM h) 170 b.toNat).toNat)) - (max (yWask q (yM h) 1 a.toNat b.toNat c) 0)))) 84 a.toNat) + (max (yWask q (yM h) 1 a.toNat b.toNat c) 0)))) 175 b.toNat (w32 (((yM h) 175 b.toNat) - c))) 92 a.toNat = (zs (zs (yM h) 84 (((yM h) 170 b.toNat).toNat) (w32 (((yM h) 84 (((yM h) 170 b.toNat).toNat)) - (max (yWask q (yM h) 1 a.toNat b.toNat c) 0)))) 84 a.toNat (w32 (((zs (yM h) 84 (((yM h) 170 b.toNat).toNat) (w32 (((yM h) 84 (((yM h) 170 b.toNat).toNat)) - (max (yWask q (yM h) 1 a.toNat b.toNat c) 0)))) 84 a.toNat) + (max (yWask q (yM h) 1 a.toNat b.toNat c) 0)))) 92 a.toNat) (Eq.trans (zs_na (by decide) : (zs (zs (yM h) 84 (((yM h) 170 b.toNat).toNat) (w32 (((yM h) 84 (((yM h) 170 b.toNat).toNat)) - (max (yWask q (yM h) 1 a.toNat b.toNat c) 0)))) 84 a.toNat (w32 (((zs (yM h) 84 (((yM h) 170 b.toNat).toNat) (w32 (((yM h) 84 (((yM h) 170 b.toNat).toNat)) - (max (yWask q (yM h) 1 a.toNat b.toNat c) 0)))) 84 a.toNat) + (max (yWask q (yM h) 1 a.toNat b.toNat c) 0)))) 92 a.toNat = (zs (yM h) 84 (((yM h) 170 b.toNat).toNat) (w32 (((yM h) 84 (((yM h) 170 b.toNat).toNat)) - (max (yWask q (yM h) 1 a.toNat b.toNat c) 0)))) 92 a.toNat) (Eq.trans (zs_na (by decide) : (zs (yM h) 84 (((yM h) 170 b.toNat).toNat) (w32 (((yM h) 84 (((yM h) 170 b.toNat).toNat)) - (max (yWask q (yM h) 1 a.toNat b.toNat c) 0)))) 92 a.toNat = (yM h) 92 a.toNat) rfl))))))
              refine zwW_p [(1, 3, 0)] (q := 134) (ls' := [(2, 37), (0, a), (0, b), (0, c), (0, v19)]) (st' := [(0, c), (0, v73), (0, a), (2, 92)]) (by decide +kernel) rfl ?_
              refine zwW_adw (nx := 135) (by decide +kernel) ?_
              intro v74 ev74 lv74 uv74
              have Ev74 : v74 = w32 (((yM h) 92 a.toNat) + c) := by rw [ev74, sv73]
              refine zwW_as Ih72 (a1 := 92) (a2 := 92) (n := 20) (lo := -2147483648) (hi := 2147483647) (nx := 136) (by decide +kernel) ⟨by decide, by decide⟩ ib13 ⟨by omega, by omega⟩ ?_
              intro h75 eh75 Ih75
              have jbh75 : 0 ≤ a.toNat ∧ a.toNat < 20 := ⟨Nat.zero_le _, zit ib13⟩
              have th75_37_0 : fld h75 37 0 = fld h72 37 0 := by rw [eh75]; exact fld_wr (Or.inl (by decide))
              have th75_37_1 : fld h75 37 1 = fld h72 37 1 := by rw [eh75]; exact fld_wr (Or.inl (by decide))
              have th75_37_2 : fld h75 37 2 = fld h72 37 2 := by rw [eh75]; exact fld_wr (Or.inl (by decide))
              have th75_37_64 : fld h75 37 64 = fld h72 37 64 := by rw [eh75]; exact fld_wr (Or.inl (by decide))
              have th75_37_78 : fld h75 37 78 = fld h72 37 78 := by rw [eh75]; exact fld_wr (Or.inl (by decide))
              have Vh75 : mRq q h75 := Vh72.fr (zMR.one (a1 := 92) (a2 := 92) (j1 := 0) (j2 := 20) ⟨by decide, by decide⟩ jbh75 eh75) (by decide +kernel)
              have Uh75 : yM h75 = (zs (zs (zs (zs (zs (yM h) 84 (((yM h) 170 b.toNat).toNat) (w32 (((yM h) 84 (((yM h) 170 b.toNat).toNat)) - (max (yWask q (yM h) 1 a.toNat b.toNat c) 0)))) 84 a.toNat (w32 (((zs (yM h) 84 (((yM h) 170 b.toNat).toNat) (w32 (((yM h) 84 (((yM h) 170 b.toNat).toNat)) - (max (yWask q (yM h) 1 a.toNat b.toNat c) 0)))) 84 a.toNat) + (max (yWask q (yM h) 1 a.toNat b.toNat c) 0)))) 175 b.toNat (w32 (((yM h) 175 b.toNat) - c))) 185 (((yM h) 37 78).toNat) 1) 92 a.toNat (w32 (((yM h) 92 a.toNat) + c))) := by rw [yM_w (a := 92) (n := 20) (i := a.toNat) (kd := 20) rfl (Ih72.s (a1 := 92) (a2 := 92) (by decide +kernel) (by decide) (by decide)) jbh75.2 eh75, Zh72, Ev74]
              have Zh75 : yM h75 = (zs (zs (zs (zs (zs (yM h) 84 (((yM h) 170 b.toNat).toNat) (w32 (((yM h) 84 (((yM h) 170 b.toNat).toNat)) - (max (yWask q (yM h) 1 a.toNat b.toNat c) 0)))) 84 a.toNat (w32 (((zs (yM h) 84 (((yM h) 170 b.toNat).toNat) (w32 (((yM h) 84 (((yM h) 170 b.toNat).toNat)) - (max (yWask q (yM h) 1 a.toNat b.toNat c) 0)))) 84 a.toNat) + (max (yWask q (yM h) 1 a.toNat b.toNat c) 0)))) 92 a.toNat (w32 (((yM h) 92 a.toNat) + c))) 175 b.toNat (w32 (((yM h) 175 b.toNat) - c))) 185 (((yM h) 37 78).toNat) 1) := by rw [Uh75, zs_sw (a := 185) (b := 92) (by decide), zs_sw (a := 175) (b := 92) (by decide)]
              have Rh75 : zMR ms42 h h75 := Rh72.w (a1 := 92) (a2 := 92) (j1 := 0) (j2 := 20) (by decide +kernel) ⟨by decide, by decide⟩ jbh75 eh75
              refine zwW_p [(1, 0, 2), (12, 0, 0)] (q := 138) (ls' := [(2, 37), (0, a), (0, b), (0, c), (0, v19)]) (st' := [(2, 37), (2, 37)]) (by decide +kernel) rfl ?_
              refine zwW_gs Ih75 (kd := 13) (bn := 70) (n := 97) (t := 0) (lo := -2147483648) (hi := 2147483647) (nx := 141) (by decide +kernel) ?_
              intro v76 ev76 lv76 uv76
              have sv76 : v76 = (yM h) 37 70 := Eq.trans ev76 (Eq.trans (Eq.symm (yM_s (h := h75) (i := 70) rfl)) (Eq.trans (congrFun (congrFun Zh75 37) 70) (Eq.trans (zs_na (by decide) : (zs (zs (zs (zs (zs (yM h) 84 (((yM h) 170 b.toNat).toNat) (w32 (((yM h) 84 (((yM h) 170 b.toNat).toNat)) - (max (yWask q (yM h) 1 a.toNat b.toNat c) 0)))) 84 a.toNat (w32 (((zs (yM h) 84 (((yM h) 170 b.toNat).toNat) (w32 (((yM h) 84 (((yM h) 170 b.toNat).toNat)) - (max (yWask q (yM h) 1 a.toNat b.toNat c) 0)))) 84 a.toNat) + (max (yWask q (yM h) 1 a.toNat b.toNat c) 0)))) 92 a.toNat (w32 (((yM h) 92 a.toNat) + c))) 175 b.toNat (w32 (((yM h) 175 b.toNat) - c))) 185 (((yM h) 37 78).toNat) 1) 37 70 = (zs (zs (zs (zs (yM h) 84 (((yM h) 170 b.toNat).toNat) (w32 (((yM h) 84 (((yM h) 170 b.toNat).toNat)) - (max (yWask q (yM h) 1 a.toNat b.toNat c) 0)))) 84 a.toNat (w32 (((zs (yM h) 84 (((yM h) 170 b.toNat).toNat) (w32 (((yM h) 84 (((yM h) 170 b.toNat).toNat)) - (max (yWask q (yM h) 1 a.toNat b.toNat c) 0)))) 84 a.toNat) + (max (yWask q (yM h) 1 a.toNat b.toNat c) 0)))) 92 a.toNat (w32 (((yM h) 92 a.toNat) + c))) 175 b.toNat (w32 (((yM h) 175 b.toNat) - c))) 37 70) (Eq.trans (zs_na (by decide) : (zs (zs (zs (zs (yM h) 84 (((yM h) 170 b.toNat).toNat) (w32 (((yM h) 84 (((yM h) 170 b.toNat).toNat)) - (max (yWask q (yM h) 1 a.toNat b.toNat c) 0)))) 84 a.toNat (w32 (((zs (yM h) 84 (((yM h) 170 b.toNat).toNat) (w32 (((yM h) 84 (((yM h) 170 b.toNat).toNat)) - (max (yWask q (yM h) 1 a.toNat b.toNat c) 0)))) 84 a.toNat) + (max (yWask q (yM h) 1 a.toNat b.toNat c) 0)))) 92 a.toNat (w32 (((yM h) 92 a.toNat) + c))) 175 b.toNat (w32 (((yM h) 175 b.toNat) - c))) 37 70 = (zs (zs (zs (yM h) 84 (((yM h) 170 b.toNat).toNat) (w32 (((yM h) 84 (((yM h) 170 b.toNat).toNat)) - (max (yWask q (yM h) 1 a.toNat b.toNat c) 0)))) 84 a.toNat (w32 (((zs (yM h) 84 (((yM h) 170 b.toNat).toNat) (w32 (((yM h) 84 (((yM h) 170 b.toNat).toNat)) - (max (yWask q (yM h) 1 a.toNat b.toNat c) 0)))) 84 a.toNat) + (max (yWask q (yM h) 1 a.toNat b.toNat c) 0)))) 92 a.toNat (w32 (((yM h) 92 a.toNat) + c))) 37 70) (Eq.trans (zs_na (by decide) : (zs (zs (zs (yM h) 84 (((yM h) 170 b.toNat).toNat) (w32 (((yM h) 84 (((yM h) 170 b.toNat).toNat)) - (max (yWask q (yM h) 1 a.toNat b.toNat c) 0)))) 84 a.toNat (w32 (((zs (yM h) 84 (((yM h) 170 b.toNat).toNat) (w32 (((yM h) 84 (((yM h) 170 b.toNat).toNat)) - (max (yWask q (yM h) 1 a.toNat b.toNat c) 0)))) 84 a.toNat) + (max (yWask q (yM h) 1 a.toNat b.toNat c) 0)))) 92 a.toNat (w32 (((yM h) 92 a.toNat) + c))) 37 70 = (zs (zs (yM h) 84 (((yM h) 170 b.toNat).toNat) (w32 (((yM h) 84 (((yM h) 170 b.toNat).toNat)) - (max (yWask q (yM h) 1 a.toNat b.toNat c) 0)))) 84 a.toNat (w32 (((zs (yM h) 84 (((yM h) 170 b.toNat).toNat) (w32 (((yM h) 84 (((yM h) 170 b.toNat).toNat)) - (max (yWask q (yM h) 1 a.toNat b.toNat c) 0)))) 84 a.toNat) + (max (yWask q (yM h) 1 a.toNat b.toNat c) 0)))) 37 70) (Eq.trans (zs_na (by decide) : (zs (zs (yM h) 84 (((yM h) 170 b.toNat).toNat) (w32 (((yM h) 84 (((yM h) 170 b.toNat).toNat)) - (max (yWask q (yM h) 1 a.toNat b.toNat c) 0)))) 84 a.toNat (w32 (((zs (yM h) 84 (((yM h) 170 b.toNat).toNat) (w32 (((yM h) 84 (((yM h) 170 b.toNat).toNat)) - (max (yWask q (yM h) 1 a.toNat b.toNat c) 0)))) 84 a.toNat) + (max (yWask q (yM h) 1 a.toNat b.toNat c) 0)))) 37 70 = (zs (yM h) 84 (((yM h) 170 b.toNat).toNat) (w32 (((yM h) 84 (((yM h) 170 b.toNat).toNat)) - (max (yWask q (yM h) 1 a.toNat b.toNat c) 0)))) 37 70) (Eq.trans (zs_na (by decide) : (zs (yM h) 84 (((yM h) 170 b.toNat).toNat) (w32 (((yM h) 84 (((yM h) 170 b.toNat).toNat)) - (max (yWask q (yM h) 1 a.toNat b.toNat c) 0)))) 37 70 = (yM h) 37 70) rfl)))))))
              refine zwW_p [(1, 3, 0)] (q := 142) (ls' := [(2, 37), (0, a), (0, b), (0, c), (0, v19)]) (st' := [(0, c), (0, v76), (2, 37)]) (by decide +kernel) rfl ?_
              refine zwW_adw (nx := 143) (by decide +kernel) ?_
              intro v77 ev77 lv77 uv77
              have Ev77 : v77 = w32 (((yM h) 37 70) + c) := by rw [ev77, sv76]
              refine zwW_ps Ih75 (kd := 13) (bn := 70) (n := 97) (lo := -2147483648) (hi := 2147483647) (nx := 146) (by decide +kernel) ⟨by omega, by omega⟩ ?_
              intro h78 eh78 Ih78
              have th78_37_0 : fld h78 37 0 = fld h75 37 0 := by rw [eh78]; exact fld_wr (by decide)
              have th78_37_1 : fld h78 37 1 = fld h75 37 1 := by rw [eh78]; exact fld_wr (by decide)
              have th78_37_2 : fld h78 37 2 = fld h75 37 2 := by rw [eh78]; exact fld_wr (by decide)
              have th78_37_64 : fld h78 37 64 = fld h75 37 64 := by rw [eh78]; exact fld_wr (by decide)
              have th78_37_78 : fld h78 37 78 = fld h75 37 78 := by rw [eh78]; exact fld_wr (by decide)
              have Vh78 : mRq q h78 := Vh75.fr (zMR.one (a1 := 37) (a2 := 37) (j1 := 70) (j2 := 71) ⟨by decide, by decide⟩ ⟨by decide, by decide⟩ eh78) (by decide +kernel)
              have Zh78 : yM h78 = (zs (zs (zs (zs (zs (zs (yM h) 84 (((yM h) 170 b.toNat).toNat) (w32 (((yM h) 84 (((yM h) 170 b.toNat).toNat)) - (max (yWask q (yM h) 1 a.toNat b.toNat c) 0)))) 84 a.toNat (w32 (((zs (yM h) 84 (((yM h) 170 b.toNat).toNat) (w32 (((yM h) 84 (((yM h) 170 b.toNat).toNat)) - (max (yWask q (yM h) 1 a.toNat b.toNat c) 0)))) 84 a.toNat) + (max (yWask q (yM h) 1 a.toNat b.toNat c) 0)))) 92 a.toNat (w32 (((yM h) 92 a.toNat) + c))) 175 b.toNat (w32 (((yM h) 175 b.toNat) - c))) 185 (((yM h) 37 78).toNat) 1) 37 70 (w32 (((yM h) 37 70) + c))) := by rw [yM_ws (i := 70) (kd := 13) (n := 97) rfl (Ih75.s (a1 := 37) (a2 := 37) (by decide +kernel) (by decide) (by decide)) (by decide) eh78, Zh75, Ev77]
              have Rh78 : zMR ms42 h h78 := Rh75.w (a1 := 37) (a2 := 37) (j1 := 70) (j2 := 71) (by decide +kernel) ⟨by decide, by decide⟩ ⟨by decide, by decide⟩ eh78
              refine zwW_p [(1, 0, 2)] (q := 147) (ls' := [(2, 37), (0, a), (0, b), (0, c), (0, v19)]) (st' := [(2, 37)]) (by decide +kernel) rfl ?_
              refine zwW_gc Ih78 (kd := 13) (bn := 72) (n := 97) (c := 180) (nx := 150) (by decide +kernel) ?_
              refine zwW_p [(1, 0, 2)] (q := 151) (ls' := [(2, 37), (0, a), (0, b), (0, c), (0, v19)]) (st' := [(2, 37), (2, 180)]) (by decide +kernel) rfl ?_
              refine zwW_gs Ih78 (kd := 13) (bn := 78) (n := 97) (t := 0) (lo := 0) (hi := 200) (nx := 154) (by decide +kernel) ?_
              intro v79 ev79 lv79 uv79
              have sv79 : v79 = (yM h) 37 78 := Eq.trans ev79 (Eq.trans (Eq.symm (yM_s (h := h78) (i := 78) rfl)) (Eq.trans (congrFun (congrFun Zh78 37) 78) (Eq.trans (zs_ni (by decide) : (zs (zs (zs (zs (zs (zs (yM h) 84 (((yM h) 170 b.toNat).toNat) (w32 (((yM h) 84 (((yM h) 170 b.toNat).toNat)) - (max (yWask q (yM h) 1 a.toNat b.toNat c) 0)))) 84 a.toNat (w32 (((zs (yM h) 84 (((yM h) 170 b.toNat).toNat) (w32 (((yM h) 84 (((yM h) 170 b.toNat).toNat)) - (max (yWask q (yM h) 1 a.toNat b.toNat c) 0)))) 84 a.toNat) + (max (yWask q (yM h) 1 a.toNat b.toNat c) 0)))) 92 a.toNat (w32 (((yM h) 92 a.toNat) + c))) 175 b.toNat (w32 (((yM h) 175 b.toNat) - c))) 185 (((yM h) 37 78).toNat) 1) 37 70 (w32 (((yM h) 37 70) + c))) 37 78 = (zs (zs (zs (zs (zs (yM h) 84 (((yM h) 170 b.toNat).toNat) (w32 (((yM h) 84 (((yM h) 170 b.toNat).toNat)) - (max (yWask q (yM h) 1 a.toNat b.toNat c) 0)))) 84 a.toNat (w32 (((zs (yM h) 84 (((yM h) 170 b.toNat).toNat) (w32 (((yM h) 84 (((yM h) 170 b.toNat).toNat)) - (max (yWask q (yM h) 1 a.toNat b.toNat c) 0)))) 84 a.toNat) + (max (yWask q (yM h) 1 a.toNat b.toNat c) 0)))) 92 a.toNat (w32 (((yM h) 92 a.toNat) + c))) 175 b.toNat (w32 (((yM h) 175 b.toNat) - c))) 185 (((yM h) 37 78).toNat) 1) 37 78) (Eq.trans (zs_na (by decide) : (zs (zs (zs (zs (zs (yM h) 84 (((yM h) 170 b.toNat).toNat) (w32 (((yM h) 84 (((yM h) 170 b.toNat).toNat)) - (max (yWask q (yM h) 1 a.toNat b.toNat c) 0)))) 84 a.toNat (w32 (((zs (yM h) 84 (((yM h) 170 b.toNat).toNat) (w32 (((yM h) 84 (((yM h) 170 b.toNat).toNat)) - (max (yWask q (yM h) 1 a.toNat b.toNat c) 0)))) 84 a.toNat) + (max (yWask q (yM h) 1 a.toNat b.toNat c) 0)))) 92 a.toNat (w32 (((yM h) 92 a.toNat) + c))) 175 b.toNat (w32 (((yM h) 175 b.toNat) - c))) 185 (((yM h) 37 78).toNat) 1) 37 78 = (zs (zs (zs (zs (yM h) 84 (((yM h) 170 b.toNat).toNat) (w32 (((yM h) 84 (((yM h) 170 b.toNat).toNat)) - (max (yWask q (yM h) 1 a.toNat b.toNat c) 0)))) 84 a.toNat (w32 (((zs (yM h) 84 (((yM h) 170 b.toNat).toNat) (w32 (((yM h) 84 (((yM h) 170 b.toNat).toNat)) - (max (yWask q (yM h) 1 a.toNat b.toNat c) 0)))) 84 a.toNat) + (max (yWask q (yM h) 1 a.toNat b.toNat c) 0)))) 92 a.toNat (w32 (((yM h) 92 a.toNat) + c))) 175 b.toNat (w32 (((yM h) 175 b.toNat) - c))) 37 78) (Eq.trans (zs_na (by decide) : (zs (zs (zs (zs (yM h) 84 (((yM h) 170 b.toNat).toNat) (w32 (((yM h) 84 (((yM h) 170 b.toNat).toNat)) - (max (yWask q (yM h) 1 a.toNat b.toNat c) 0)))) 84 a.toNat (w32 (((zs (yM h) 84 (((yM h) 170 b.toNat).toNat) (w32 (((yM h) 84 (((yM h) 170 b.toNat).toNat)) - (max (yWask q (yM h) 1 a.toNat b.toNat c) 0)))) 84 a.toNat) + (max (yWask q (yM h) 1 a.toNat b.toNat c) 0)))) 92 a.toNat (w32 (((yM h) 92 a.toNat) + c))) 175 b.toNat (w32 (((yM h) 175 b.toNat) - c))) 37 78 = (zs (zs (zs (yM h) 84 (((yM h) 170 b.toNat).toNat) (w32 (((yM h) 84 (((yM h) 170 b.toNat).toNat)) - (max (yWask q (yM h) 1 a.toNat b.toNat c) 0)))) 84 a.toNat (w32 (((zs (yM h) 84 (((yM h) 170 b.toNat).toNat) (w32 (((yM h) 84 (((yM h) 170 b.toNat).toNat)) - (max (yWask q (yM h) 1 a.toNat b.toNat c) 0)))) 84 a.toNat) + (max (yWask q (yM h) 1 a.toNat b.toNat c) 0)))) 92 a.toNat (w32 (((yM h) 92 a.toNat) + c))) 37 78) (Eq.trans (zs_na (by decide) : (zs (zs (zs (yM h) 84 (((yM h) 170 b.toNat).toNat) (w32 (((yM h) 84 (((yM h) 170 b.toNat).toNat)) - (max (yWask q (yM h) 1 a.toNat b.toNat c) 0)))) 84 a.toNat (w32 (((zs (yM h) 84 (((yM h) 170 b.toNat).toNat) (w32 (((yM h) 84 (((yM h) 170 b.toNat).toNat)) - (max (yWask q (yM h) 1 a.toNat b.toNat c) 0)))) 84 a.toNat) + (max (yWask q (yM h) 1 a.toNat b.toNat c) 0)))) 92 a.toNat (w32 (((yM h) 92 a.toNat) + c))) 37 78 = (zs (zs (yM h) 84 (((yM h) 170 b.toNat).toNat) (w32 (((yM h) 84 (((yM h) 170 b.toNat).toNat)) - (max (yWask q (yM h) 1 a.toNat b.toNat c) 0)))) 84 a.toNat (w32 (((zs (yM h) 84 (((yM h) 170 b.toNat).toNat) (w32 (((yM h) 84 (((yM h) 170 b.toNat).toNat)) - (max (yWask q (yM h) 1 a.toNat b.toNat c) 0)))) 84 a.toNat) + (max (yWask q (yM h) 1 a.toNat b.toNat c) 0)))) 37 78) (Eq.trans (zs_na (by decide) : (zs (zs (yM h) 84 (((yM h) 170 b.toNat).toNat) (w32 (((yM h) 84 (((yM h) 170 b.toNat).toNat)) - (max (yWask q (yM h) 1 a.toNat b.toNat c) 0)))) 84 a.toNat (w32 (((zs (yM h) 84 (((yM h) 170 b.toNat).toNat) (w32 (((yM h) 84 (((yM h) 170 b.toNat).toNat)) - (max (yWask q (yM h) 1 a.toNat b.toNat c) 0)))) 84 a.toNat) + (max (yWask q (yM h) 1 a.toNat b.toNat c) 0)))) 37 78 = (zs (yM h) 84 (((yM h) 170 b.toNat).toNat) (w32 (((yM h) 84 (((yM h) 170 b.toNat).toNat)) - (max (yWask q (yM h) 1 a.toNat b.toNat c) 0)))) 37 78) (Eq.trans (zs_na (by decide) : (zs (yM h) 84 (((yM h) 170 b.toNat).toNat) (w32 (((yM h) 84 (((yM h) 170 b.toNat).toNat)) - (max (yWask q (yM h) 1 a.toNat b.toNat c) 0)))) 37 78 = (yM h) 37 78) rfl))))))))
              refine zwW_p [(1, 2, 0)] (q := 155) (ls' := [(2, 37), (0, a), (0, b), (0, c), (0, v19)]) (st' := [(0, b), (0, v79), (2, 180)]) (by decide +kernel) rfl ?_
              have ib14 : 0 ≤ v79 ∧ v79 < ((200 : Nat) : Int) := ⟨by omega, by omega⟩
              refine zwW_as Ih78 (a1 := 180) (a2 := 180) (n := 200) (lo := 0) (hi := 299) (nx := 156) (by decide +kernel) ⟨by decide, by decide⟩ ib14 ⟨by omega, by omega⟩ ?_
              intro h80 eh80 Ih80
              have jbh80 : 0 ≤ v79.toNat ∧ v79.toNat < 200 := ⟨Nat.zero_le _, zit ib14⟩
              have th80_37_0 : fld h80 37 0 = fld h78 37 0 := by rw [eh80]; exact fld_wr (Or.inl (by decide))
              have th80_37_1 : fld h80 37 1 = fld h78 37 1 := by rw [eh80]; exact fld_wr (Or.inl (by decide))
              have th80_37_2 : fld h80 37 2 = fld h78 37 2 := by rw [eh80]; exact fld_wr (Or.inl (by decide))
              have th80_37_64 : fld h80 37 64 = fld h78 37 64 := by rw [eh80]; exact fld_wr (Or.inl (by decide))
              have th80_37_78 : fld h80 37 78 = fld h78 37 78 := by rw [eh80]; exact fld_wr (Or.inl (by decide))
              have Vh80 : mRq q h80 := Vh78.fr (zMR.one (a1 := 180) (a2 := 180) (j1 := 0) (j2 := 200) ⟨by decide, by decide⟩ jbh80 eh80) (by decide +kernel)
              have Uh80 : yM h80 = (zs (zs (zs (zs (zs (zs (zs (yM h) 84 (((yM h) 170 b.toNat).toNat) (w32 (((yM h) 84 (((yM h) 170 b.toNat).toNat)) - (max (yWask q (yM h) 1 a.toNat b.toNat c) 0)))) 84 a.toNat (w32 (((zs (yM h) 84 (((yM h) 170 b.toNat).toNat) (w32 (((yM h) 84 (((yM h) 170 b.toNat).toNat)) - (max (yWask q (yM h) 1 a.toNat b.toNat c) 0)))) 84 a.toNat) + (max (yWask q (yM h) 1 a.toNat b.toNat c) 0)))) 92 a.toNat (w32 (((yM h) 92 a.toNat) + c))) 175 b.toNat (w32 (((yM h) 175 b.toNat) - c))) 185 (((yM h) 37 78).toNat) 1) 37 70 (w32 (((yM h) 37 70) + c))) 180 (((yM h) 37 78).toNat) b) := by rw [yM_w (a := 180) (n := 200) (i := v79.toNat) (kd := 20) rfl (Ih78.s (a1 := 180) (a2 := 180) (by decide +kernel) (by decide) (by decide)) jbh80.2 eh80, Zh78, sv79]
              have Zh80 : yM h80 = (zs (zs (zs (zs (zs (zs (zs (yM h) 84 (((yM h) 170 b.toNat).toNat) (w32 (((yM h) 84 (((yM h) 170 b.toNat).toNat)) - (max (yWask q (yM h) 1 a.toNat b.toNat c) 0)))) 84 a.toNat (w32 (((zs (yM h) 84 (((yM h) 170 b.toNat).toNat) (w32 (((yM h) 84 (((yM h) 170 b.toNat).toNat)) - (max (yWask q (yM h) 1 a.toNat b.toNat c) 0)))) 84 a.toNat) + (max (yWask q (yM h) 1 a.toNat b.toNat c) 0)))) 92 a.toNat (w32 (((yM h) 92 a.toNat) + c))) 175 b.toNat (w32 (((yM h) 175 b.toNat) - c))) 180 (((yM h) 37 78).toNat) b) 185 (((yM h) 37 78).toNat) 1) 37 70 (w32 (((yM h) 37 70) + c))) := by rw [Uh80, zs_sw (a := 37) (b := 180) (by decide), zs_sw (a := 185) (b := 180) (by decide)]
              have Rh80 : zMR ms42 h h80 := Rh78.w (a1 := 180) (a2 := 180) (j1 := 0) (j2 := 200) (by decide +kernel) ⟨by decide, by decide⟩ jbh80 eh80
              refine zwW_p [(1, 0, 2)] (q := 157) (ls' := [(2, 37), (0, a), (0, b), (0, c), (0, v19)]) (st' := [(2, 37)]) (by decide +kernel) rfl ?_
              refine zwW_gc Ih80 (kd := 13) (bn := 73) (n := 97) (c := 181) (nx := 160) (by decide +kernel) ?_
              refine zwW_p [(1, 0, 2)] (q := 161) (ls' := [(2, 37), (0, a), (0, b), (0, c), (0, v19)]) (st' := [(2, 37), (2, 181)]) (by decide +kernel) rfl ?_
              refine zwW_gs Ih80 (kd := 13) (bn := 78) (n := 97) (t := 0) (lo := 0) (hi := 200) (nx := 164) (by decide +kernel) ?_
              intro v81 ev81 lv81 uv81
              have sv81 : v81 = (yM h) 37 78 := Eq.trans ev81 (Eq.trans (Eq.symm (yM_s (h := h80) (i := 78) rfl)) (Eq.trans (congrFun (congrFun Zh80 37) 78) (Eq.trans (zs_ni (by decide) : (zs (zs (zs (zs (zs (zs (zs (yM h) 84 (((yM h) 170 b.toNat).toNat) (w32 (((yM h) 84 (((yM h) 170 b.toNat).toNat)) - (max (yWask q (yM h) 1 a.toNat b.toNat c) 0)))) 84 a.toNat (w32 (((zs (yM h) 84 (((yM h) 170 b.toNat).toNat) (w32 (((yM h) 84 (((yM h) 170 b.toNat).toNat)) - (max (yWask q (yM h) 1 a.toNat b.toNat c) 0)))) 84 a.toNat) + (max (yWask q (yM h) 1 a.toNat b.toNat c) 0)))) 92 a.toNat (w32 (((yM h) 92 a.toNat) + c))) 175 b.toNat (w32 (((yM h) 175 b.toNat) - c))) 180 (((yM h) 37 78).toNat) b) 185 (((yM h) 37 78).toNat) 1) 37 70 (w32 (((yM h) 37 70) + c))) 37 78 = (zs (zs (zs (zs (zs (zs (yM h) 84 (((yM h) 170 b.toNat).toNat) (w32 (((yM h) 84 (((yM h) 170 b.toNat).toNat)) - (max (yWask q (yM h) 1 a.toNat b.toNat c) 0)))) 84 a.toNat (w32 (((zs (yM h) 84 (((yM h) 170 b.toNat).toNat) (w32 (((yM h) 84 (((yM h) 170 b.toNat).toNat)) - (max (yWask q (yM h) 1 a.toNat b.toNat c) 0)))) 84 a.toNat) + (max (yWask q (yM h) 1 a.toNat b.toNat c) 0)))) 92 a.toNat (w32 (((yM h) 92 a.toNat) + c))) 175 b.toNat (w32 (((yM h) 175 b.toNat) - c))) 180 (((yM h) 37 78).toNat) b) 185 (((yM h) 37 78).toNat) 1) 37 78) (Eq.trans (zs_na (by decide) : (zs (zs (zs (zs (zs (zs (yM h) 84 (((yM h) 170 b.toNat).toNat) (w32 (((yM h) 84 (((yM h) 170 b.toNat).toNat)) - (max (yWask q (yM h) 1 a.toNat b.toNat c) 0)))) 84 a.toNat (w32 (((zs (yM h) 84 (((yM h) 170 b.toNat).toNat) (w32 (((yM h) 84 (((yM h) 170 b.toNat).toNat)) - (max (yWask q (yM h) 1 a.toNat b.toNat c) 0)))) 84 a.toNat) + (max (yWask q (yM h) 1 a.toNat b.toNat c) 0)))) 92 a.toNat (w32 (((yM h) 92 a.toNat) + c))) 175 b.toNat (w32 (((yM h) 175 b.toNat) - c))) 180 (((yM h) 37 78).toNat) b) 185 (((yM h) 37 78).toNat) 1) 37 78 = (zs (zs (zs (zs (zs (yM h) 84 (((yM h) 170 b.toNat).toNat) (w32 (((yM h) 84 (((yM h) 170 b.toNat).toNat)) - (max (yWask q (yM h) 1 a.toNat b.toNat c) 0)))) 84 a.toNat (w32 (((zs (yM h) 84 (((yM h) 170 b.toNat).toNat) (w32 (((yM h) 84 (((yM h) 170 b.toNat).toNat)) - (max (yWask q (yM h) 1 a.toNat b.toNat c) 0)))) 84 a.toNat) + (max (yWask q (yM h) 1 a.toNat b.toNat c) 0)))) 92 a.toNat (w32 (((yM h) 92 a.toNat) + c))) 175 b.toNat (w32 (((yM h) 175 b.toNat) - c))) 180 (((yM h) 37 78).toNat) b) 37 78) (Eq.trans (zs_na (by decide) : (zs (zs (zs (zs (zs (yM h) 84 (((yM h) 170 b.toNat).toNat) (w32 (((yM h) 84 (((yM h) 170 b.toNat).toNat)) - (max (yWask q (yM h) 1 a.toNat b.toNat c) 0)))) 84 a.toNat (w32 (((zs (yM h) 84 (((yM h) 170 b.toNat).toNat) (w32 (((yM h) 84 (((yM h) 170 b.toNat).toNat)) - (max (yWask q (yM h) 1 a.toNat b.toNat c) 0)))) 84 a.toNat) + (max (yWask q (yM h) 1 a.toNat b.toNat c) 0)))) 92 a.toNat (w32 (((yM h) 92 a.toNat) + c))) 175 b.toNat (w32 (((yM h) 175 b.toNat) - c))) 180 (((yM h) 37 78).toNat) b) 37 78 = (zs (zs (zs (zs (yM h) 84 (((yM h) 170 b.toNat).toNat) (w32 (((yM h) 84 (((yM h) 170 b.toNat).toNat)) - (max (yWask q (yM h) 1 a.toNat b.toNat c) 0)))) 84 a.toNat (w32 (((zs (yM h) 84 (((yM h) 170 b.toNat).toNat) (w32 (((yM h) 84 (((yM h) 170 b.toNat).toNat)) - (max (yWask q (yM h) 1 a.toNat b.toNat c) 0)))) 84 a.toNat) + (max (yWask q (yM h) 1 a.toNat b.toNat c) 0)))) 92 a.toNat (w32 (((yM h) 92 a.toNat) + c))) 175 b.toNat (w32 (((yM h) 175 b.toNat) - c))) 37 78) (Eq.trans (zs_na (by decide) : (zs (zs (zs (zs (yM h) 84 (((yM h) 170 b.toNat).toNat) (w32 (((yM h) 84 (((yM h) 170 b.toNat).toNat)) - (max (yWask q (yM h) 1 a.toNat b.toNat c) 0)))) 84 a.toNat (w32 (((zs (yM h) 84 (((yM h) 170 b.toNat).toNat) (w32 (((yM h) 84 (((yM h) 170 b.toNat).toNat)) - (max (yWask q (yM h) 1 a.toNat b.toNat c) 0)))) 84 a.toNat) + (max (yWask q (yM h) 1 a.toNat b.toNat c) 0)))) 92 a.toNat (w32 (((yM h) 92 a.toNat) + c))) 175 b.toNat (w32 (((yM h) 175 b.toNat) - c))) 37 78 = (zs (zs (zs (yM h) 84 (((yM h) 170 b.toNat).toNat) (w32 (((yM h) 84 (((yM h) 170 b.toNat).toNat)) - (max (yWask q (yM h) 1 a.toNat b.toNat c) 0)))) 84 a.toNat (w32 (((zs (yM h) 84 (((yM h) 170 b.toNat).toNat) (w32 (((yM h) 84 (((yM h) 170 b.toNat).toNat)) - (max (yWask q (yM h) 1 a.toNat b.toNat c) 0)))) 84 a.toNat) + (max (yWask q (yM h) 1 a.toNat b.toNat c) 0)))) 92 a.toNat (w32 (((yM h) 92 a.toNat) + c))) 37 78) (Eq.trans (zs_na (by decide) : (zs (zs (zs (yM h) 84 (((yM h) 170 b.toNat).toNat) (w32 (((yM h) 84 (((yM h) 170 b.toNat).toNat)) - (max (yWask q (yM h) 1 a.toNat b.toNat c) 0)))) 84 a.toNat (w32 (((zs (yM h) 84 (((yM h) 170 b.toNat).toNat) (w32 (((yM h) 84 (((yM h) 170 b.toNat).toNat)) - (max (yWask q (yM h) 1 a.toNat b.toNat c) 0)))) 84 a.toNat) + (max (yWask q (yM h) 1 a.toNat b.toNat c) 0)))) 92 a.toNat (w32 (((yM h) 92 a.toNat) + c))) 37 78 = (zs (zs (yM h) 84 (((yM h) 170 b.toNat).toNat) (w32 (((yM h) 84 (((yM h) 170 b.toNat).toNat)) - (max (yWask q (yM h) 1 a.toNat b.toNat c) 0)))) 84 a.toNat (w32 (((zs (yM h) 84 (((yM h) 170 b.toNat).toNat) (w32 (((yM h) 84 (((yM h) 170 b.toNat).toNat)) - (max (yWask q (yM h) 1 a.toNat b.toNat c) 0)))) 84 a.toNat) + (max (yWask q (yM h) 1 a.toNat b.toNat c) 0)))) 37 78) (Eq.trans (zs_na (by decide) : (zs (zs (yM h) 84 (((yM h) 170 b.toNat).toNat) (w32 (((yM h) 84 (((yM h) 170 b.toNat).toNat)) - (max (yWask q (yM h) 1 a.toNat b.toNat c) 0)))) 84 a.toNat (w32 (((zs (yM h) 84 (((yM h) 170 b.toNat).toNat) (w32 (((yM h) 84 (((yM h) 170 b.toNat).toNat)) - (max (yWask q (yM h) 1 a.toNat b.toNat c) 0)))) 84 a.toNat) + (max (yWask q (yM h) 1 a.toNat b.toNat c) 0)))) 37 78 = (zs (yM h) 84 (((yM h) 170 b.toNat).toNat) (w32 (((yM h) 84 (((yM h) 170 b.toNat).toNat)) - (max (yWask q (yM h) 1 a.toNat b.toNat c) 0)))) 37 78) (Eq.trans (zs_na (by decide) : (zs (yM h) 84 (((yM h) 170 b.toNat).toNat) (w32 (((yM h) 84 (((yM h) 170 b.toNat).toNat)) - (max (yWask q (yM h) 1 a.toNat b.toNat c) 0)))) 37 78 = (yM h) 37 78) rfl)))))))))
              refine zwW_p [(1, 1, 0)] (q := 165) (ls' := [(2, 37), (0, a), (0, b), (0, c), (0, v19)]) (st' := [(0, a), (0, v81), (2, 181)]) (by decide +kernel) rfl ?_
              have ib15 : 0 ≤ v81 ∧ v81 < ((200 : Nat) : Int) := ⟨by omega, by omega⟩
              refine zwW_as Ih80 (a1 := 181) (a2 := 181) (n := 200) (lo := 0) (hi := 19) (nx := 166) (by decide +kernel) ⟨by decide, by decide⟩ ib15 ⟨by omega, by omega⟩ ?_
              intro h82 eh82 Ih82
              have jbh82 : 0 ≤ v81.toNat ∧ v81.toNat < 200 := ⟨Nat.zero_le _, zit ib15⟩
              have th82_37_0 : fld h82 37 0 = fld h80 37 0 := by rw [eh82]; exact fld_wr (Or.inl (by decide))
              have th82_37_1 : fld h82 37 1 = fld h80 37 1 := by rw [eh82]; exact fld_wr (Or.inl (by decide))
              have th82_37_2 : fld h82 37 2 = fld h80 37 2 := by rw [eh82]; exact fld_wr (Or.inl (by decide))
              have th82_37_64 : fld h82 37 64 = fld h80 37 64 := by rw [eh82]; exact fld_wr (Or.inl (by decide))
              have th82_37_78 : fld h82 37 78 = fld h80 37 78 := by rw [eh82]; exact fld_wr (Or.inl (by decide))
              have Vh82 : mRq q h82 := Vh80.fr (zMR.one (a1 := 181) (a2 := 181) (j1 := 0) (j2 := 200) ⟨by decide, by decide⟩ jbh82 eh82) (by decide +kernel)
              have Uh82 : yM h82 = (zs (zs (zs (zs (zs (zs (zs (zs (yM h) 84 (((yM h) 170 b.toNat).toNat) (w32 (((yM h) 84 (((yM h) 170 b.toNat).toNat)) - (max (yWask q (yM h) 1 a.toNat b.toNat c) 0)))) 84 a.toNat (w32 (((zs (yM h) 84 (((yM h) 170 b.toNat).toNat) (w32 (((yM h) 84 (((yM h) 170 b.toNat).toNat)) - (max (yWask q (yM h) 1 a.toNat b.toNat c) 0)))) 84 a.toNat) + (max (yWask q (yM h) 1 a.toNat b.toNat c) 0)))) 92 a.toNat (w32 (((yM h) 92 a.toNat) + c))) 175 b.toNat (w32 (((yM h) 175 b.toNat) - c))) 180 (((yM h) 37 78).toNat) b) 185 (((yM h) 37 78).toNat) 1) 37 70 (w32 (((yM h) 37 70) + c))) 181 (((yM h) 37 78).toNat) a) := by rw [yM_w (a := 181) (n := 200) (i := v81.toNat) (kd := 20) rfl (Ih80.s (a1 := 181) (a2 := 181) (by decide +kernel) (by decide) (by decide)) jbh82.2 eh82, Zh80, sv81]
              have Zh82 : yM h82 = (zs (zs (zs (zs (zs (zs (zs (zs (yM h) 84 (((yM h) 170 b.toNat).toNat) (w32 (((yM h) 84 (((yM h) 170 b.toNat).toNat)) - (max (yWask q (yM h) 1 a.toNat b.toNat c) 0)))) 84 a.toNat (w32 (((zs (yM h) 84 (((yM h) 170 b.toNat).toNat) (w32 (((yM h) 84 (((yM h) 170 b.toNat).toNat)) - (max (yWask q (yM h) 1 a.toNat b.toNat c) 0)))) 84 a.toNat) + (max (yWask q (yM h) 1 a.toNat b.toNat c) 0)))) 92 a.toNat (w32 (((yM h) 92 a.toNat) + c))) 175 b.toNat (w32 (((yM h) 175 b.toNat) - c))) 180 (((yM h) 37 78).toNat) b) 181 (((yM h) 37 78).toNat) a) 185 (((yM h) 37 78).toNat) 1) 37 70 (w32 (((yM h) 37 70) + c))) := by rw [Uh82, zs_sw (a := 37) (b := 181) (by decide), zs_sw (a := 185) (b := 181) (by decide)]
              have Rh82 : zMR ms42 h h82 := Rh80.w (a1 := 181) (a2 := 181) (j1 := 0) (j2 := 200) (by decide +kernel) ⟨by decide, by decide⟩ jbh82 eh82
              refine zwW_p [(1, 0, 2)] (q := 167) (ls' := [(2, 37), (0, a), (0, b), (0, c), (0, v19)]) (st' := [(2, 37)]) (by decide +kernel) rfl ?_
              refine zwW_gc Ih82 (kd := 13) (bn := 74) (n := 97) (c := 182) (nx := 170) (by decide +kernel) ?_
              refine zwW_p [(1, 0, 2)] (q := 171) (ls' := [(2, 37), (0, a), (0, b), (0, c), (0, v19)]) (st' := [(2, 37), (2, 182)]) (by decide +kernel) rfl ?_
              refine zwW_gs Ih82 (kd := 13) (bn := 78) (n := 97) (t := 0) (lo := 0) (hi := 200) (nx := 174) (by decide +kernel) ?_
              intro v83 ev83 lv83 uv83
              have sv83 : v83 = (yM h) 37 78 := Eq.trans ev83 (Eq.trans (Eq.symm (yM_s (h := h82) (i := 78) rfl)) (Eq.trans (congrFun (congrFun Zh82 37) 78) (Eq.trans (zs_ni (by decide) : (zs (zs (zs (zs (zs (zs (zs (zs (yM h) 84 (((yM h) 170 b.toNat).toNat) (w32 (((yM h) 84 (((yM h) 170 b.toNat).toNat)) - (max (yWask q (yM h) 1 a.toNat b.toNat c) 0)))) 84 a.toNat (w32 (((zs (yM h) 84 (((yM h) 170 b.toNat).toNat) (w32 (((yM h) 84 (((yM h) 170 b.toNat).toNat)) - (max (yWask q (yM h) 1 a.toNat b.toNat c) 0)))) 84 a.toNat) + (max (yWask q (yM h) 1 a.toNat b.toNat c) 0)))) 92 a.toNat (w32 (((yM h) 92 a.toNat) + c))) 175 b.toNat (w32 (((yM h) 175 b.toNat) - c))) 180 (((yM h) 37 78).toNat) b) 181 (((yM h) 37 78).toNat) a) 185 (((yM h) 37 78).toNat) 1) 37 70 (w32 (((yM h) 37 70) + c))) 37 78 = (zs (zs (zs (zs (zs (zs (zs (yM h) 84 (((yM h) 170 b.toNat).toNat) (w32 (((yM h) 84 (((yM h) 170 b.toNat).toNat)) - (max (yWask q (yM h) 1 a.toNat b.toNat c) 0)))) 84 a.toNat (w32 (((zs (yM h) 84 (((yM h) 170 b.toNat).toNat) (w32 (((yM h) 84 (((yM h) 170 b.toNat).toNat)) - (max (yWask q (yM h) 1 a.toNat b.toNat c) 0)))) 84 a.toNat) + (max (yWask q (yM h) 1 a.toNat b.toNat c) 0)))) 92 a.toNat (w32 (((yM h) 92 a.toNat) + c))) 175 b.toNat (w32 (((yM h) 175 b.toNat) - c))) 180 (((yM h) 37 78).toNat) b) 181 (((yM h) 37 78).toNat) a) 185 (((yM h) 37 78).toNat) 1) 37 78) (Eq.trans (zs_na (by decide) : (zs (zs (zs (zs (zs (zs (zs (yM h) 84 (((yM h) 170 b.toNat).toNat) (w32 (((yM h) 84 (((yM h) 170 b.toNat).toNat)) - (max (yWask q (yM h) 1 a.toNat b.toNat c) 0)))) 84 a.toNat (w32 (((zs (yM h) 84 (((yM h) 170 b.toNat).toNat) (w32 (((yM h) 84 (((yM h) 170 b.toNat).toNat)) - (max (yWask q (yM h) 1 a.toNat b.toNat c) 0)))) 84 a.toNat) + (max (yWask q (yM h) 1 a.toNat b.toNat c) 0)))) 92 a.toNat (w32 (((yM h) 92 a.toNat) + c))) 175 b.toNat (w32 (((yM h) 175 b.toNat) - c))) 180 (((yM h) 37 78).toNat) b) 181 (((yM h) 37 78).toNat) a) 185 (((yM h) 37 78).toNat) 1) 37 78 = (zs (zs (zs (zs (zs (zs (yM h) 84 (((yM h) 170 b.toNat).toNat) (w32 (((yM h) 84 (((yM h) 170 b.toNat).toNat)) - (max (yWask q (yM h) 1 a.toNat b.toNat c) 0)))) 84 a.toNat (w32 (((zs (yM h) 84 (((yM h) 170 b.toNat).toNat) (w32 (((yM h) 84 (((yM h) 170 b.toNat).toNat)) - (max (yWask q (yM h) 1 a.toNat b.toNat c) 0)))) 84 a.toNat) + (max (yWask q (yM h) 1 a.toNat b.toNat c) 0)))) 92 a.toNat (w32 (((yM h) 92 a.toNat) + c))) 175 b.toNat (w32 (((yM h) 175 b.toNat) - c))) 180 (((yM h) 37 78).toNat) b) 181 (((yM h) 37 78).toNat) a) 37 78) (Eq.trans (zs_na (by decide) : (zs (zs (zs (zs (zs (zs (yM h) 84 (((yM h) 170 b.toNat).toNat) (w32 (((yM h) 84 (((yM h) 170 b.toNat).toNat)) - (max (yWask q (yM h) 1 a.toNat b.toNat c) 0)))) 84 a.toNat (w32 (((zs (yM h) 84 (((yM h) 170 b.toNat).toNat) (w32 (((yM h) 84 (((yM h) 170 b.toNat).toNat)) - (max (yWask q (yM h) 1 a.toNat b.toNat c) 0)))) 84 a.toNat) + (max (yWask q (yM h) 1 a.toNat b.toNat c) 0)))) 92 a.toNat (w32 (((yM h) 92 a.toNat) + c))) 175 b.toNat (w32 (((yM h) 175 b.toNat) - c))) 180 (((yM h) 37 78).toNat) b) 181 (((yM h) 37 78).toNat) a) 37 78 = (zs (zs (zs (zs (zs (yM h) 84 (((yM h) 170 b.toNat).toNat) (w32 (((yM h) 84 (((yM h) 170 b.toNat).toNat)) - (max (yWask q (yM h) 1 a.toNat b.toNat c) 0)))) 84 a.toNat (w32 (((zs (yM h) 84 (((yM h) 170 b.toNat).toNat) (w32 (((yM h) 84 (((yM h) 170 b.toNat).toNat)) - (max (yWask q (yM h) 1 a.toNat b.toNat c) 0)))) 84 a.toNat) + (max (yWask q (yM h) 1 a.toNat b.toNat c) 0)))) 92 a.toNat (w32 (((yM h) 92 a.toNat) + c))) 175 b.toNat (w32 (((yM h) 175 b.toNat) - c))) 180 (((yM h) 37 78).toNat) b) 37 78) (Eq.trans (zs_na (by decide) : (zs (zs (zs (zs (zs (yM h) 84 (((yM h) 170 b.toNat).toNat) (w32 (((yM h) 84 (((yM h) 170 b.toNat).toNat)) - (max (yWask q (yM h) 1 a.toNat b.toNat c) 0)))) 84 a.toNat (w32 (((zs (yM h) 84 (((yM h) 170 b.toNat).toNat) (w32 (((yM h) 84 (((yM h) 170 b.toNat).toNat)) - (max (yWask q (yM h) 1 a.toNat b.toNat c) 0)))) 84 a.toNat) + (max (yWask q (yM h) 1 a.toNat b.toNat c) 0)))) 92 a.toNat (w32 (((yM h) 92 a.toNat) + c))) 175 b.toNat (w32 (((yM h) 175 b.toNat) - c))) 180 (((yM h) 37 78).toNat) b) 37 78 = (zs (zs (zs (zs (yM h) 84 (((yM h) 170 b.toNat).toNat) (w32 (((yM h) 84 (((yM h) 170 b.toNat).toNat)) - (max (yWask q (yM h) 1 a.toNat b.toNat c) 0)))) 84 a.toNat (w32 (((zs (yM h) 84 (((yM h) 170 b.toNat).toNat) (w32 (((yM h) 84 (((yM h) 170 b.toNat).toNat)) - (max (yWask q (yM h) 1 a.toNat b.toNat c) 0)))) 84 a.toNat) + (max (yWask q (yM h) 1 a.toNat b.toNat c) 0)))) 92 a.toNat (w32 (((yM h) 92 a.toNat) + c))) 175 b.toNat (w32 (((yM h) 175 b.toNat) - c))) 37 78) (Eq.trans (zs_na (by decide) : (zs (zs (zs (zs (yM h) 84 (((yM h) 170 b.toNat).toNat) (w32 (((yM h) 84 (((yM h) 170 b.toNat).toNat)) - (max (yWask q (yM h) 1 a.toNat b.toNat c) 0)))) 84 a.toNat (w32 (((zs (yM h) 84 (((yM h) 170 b.toNat).toNat) (w32 (((yM h) 84 (((yM h) 170 b.toNat).toNat)) - (max (yWask q (yM h) 1 a.toNat b.toNat c) 0)))) 84 a.toNat) + (max (yWask q (yM h) 1 a.toNat b.toNat c) 0)))) 92 a.toNat (w32 (((yM h) 92 a.toNat) + c))) 175 b.toNat (w32 (((yM h) 175 b.toNat) - c))) 37 78 = (zs (zs (zs (yM h) 84 (((yM h) 170 b.toNat).toNat) (w32 (((yM h) 84 (((yM h) 170 b.toNat).toNat)) - (max (yWask q (yM h) 1 a.toNat b.toNat c) 0)))) 84 a.toNat (w32 (((zs (yM h) 84 (((yM h) 170 b.toNat).toNat) (w32 (((yM h) 84 (((yM h) 170 b.toNat).toNat)) - (max (yWask q (yM h) 1 a.toNat b.toNat c) 0)))) 84 a.toNat) + (max (yWask q (yM h) 1 a.toNat b.toNat c) 0)))) 92 a.toNat (w32 (((yM h) 92 a.toNat) + c))) 37 78) (Eq.trans (zs_na (by decide) : (zs (zs (zs (yM h) 84 (((yM h) 170 b.toNat).toNat) (w32 (((yM h) 84 (((yM h) 170 b.toNat).toNat)) - (max (yWask q (yM h) 1 a.toNat b.toNat c) 0)))) 84 a.toNat (w32 (((zs (yM h) 84 (((yM h) 170 b.toNat).toNat) (w32 (((yM h) 84 (((yM h) 170 b.toNat).toNat)) - (max (yWask q (yM h) 1 a.toNat b.toNat c) 0)))) 84 a.toNat) + (max (yWask q (yM h) 1 a.toNat b.toNat c) 0)))) 92 a.toNat (w32 (((yM h) 92 a.toNat) + c))) 37 78 = (zs (zs (yM h) 84 (((yM h) 170 b.toNat).toNat) (w32 (((yM h) 84 (((yM h) 170 b.toNat).toNat)) - (max (yWask q (yM h) 1 a.toNat b.toNat c) 0)))) 84 a.toNat (w32 (((zs (yM h) 84 (((yM h) 170 b.toNat).toNat) (w32 (((yM h) 84 (((yM h) 170 b.toNat).toNat)) - (max (yWask q (yM h) 1 a.toNat b.toNat c) 0)))) 84 a.toNat) + (max (yWask q (yM h) 1 a.toNat b.toNat c) 0)))) 37 78) (Eq.trans (zs_na (by decide) : (zs (zs (yM h) 84 (((yM h) 170 b.toNat).toNat) (w32 (((yM h) 84 (((yM h) 170 b.toNat).toNat)) - (max (yWask q (yM h) 1 a.toNat b.toNat c) 0)))) 84 a.toNat (w32 (((zs (yM h) 84 (((yM h) 170 b.toNat).toNat) (w32 (((yM h) 84 (((yM h) 170 b.toNat).toNat)) - (max (yWask q (yM h) 1 a.toNat b.toNat c) 0)))) 84 a.toNat) + (max (yWask q (yM h) 1 a.toNat b.toNat c) 0)))) 37 78 = (zs (yM h) 84 (((yM h) 170 b.toNat).toNat) (w32 (((yM h) 84 (((yM h) 170 b.toNat).toNat)) - (max (yWask q (yM h) 1 a.toNat b.toNat c) 0)))) 37 78) (Eq.trans (zs_na (by decide) : (zs (yM h) 84 (((yM h) 170 b.toNat).toNat) (w32 (((yM h) 84 (((yM h) 170 b.toNat).toNat)) - (max (yWask q (yM h) 1 a.toNat b.toNat c) 0)))) 37 78 = (yM h) 37 78) rfl))))))))))
              refine zwW_p [(1, 0, 2)] (q := 175) (ls' := [(2, 37), (0, a), (0, b), (0, c), (0, v19)]) (st' := [(2, 37), (0, v83), (2, 182)]) (by decide +kernel) rfl ?_
              refine zwW_gs Ih82 (kd := 13) (bn := 0) (n := 97) (t := 0) (lo := 0) (hi := 156) (nx := 178) (by decide +kernel) ?_
              intro v84 ev84 lv84 uv84
              have sv84 : v84 = (yM h) 37 0 := Eq.trans ev84 (Eq.trans (Eq.symm (yM_s (h := h82) (i := 0) rfl)) (Eq.trans (congrFun (congrFun Zh82 37) 0) (Eq.trans (zs_ni (by decide) : (zs (zs (zs (zs (zs (zs (zs (zs (yM h) 84 (((yM h) 170 b.toNat).toNat) (w32 (((yM h) 84 (((yM h) 170 b.toNat).toNat)) - (max (yWask q (yM h) 1 a.toNat b.toNat c) 0)))) 84 a.toNat (w32 (((zs (yM h) 84 (((yM h) 170 b.toNat).toNat) (w32 (((yM h) 84 (((yM h) 170 b.toNat).toNat)) - (max (yWask q (yM h) 1 a.toNat b.toNat c) 0)))) 84 a.toNat) + (max (yWask q (yM h) 1 a.toNat b.toNat c) 0)))) 92 a.toNat (w32 (((yM h) 92 a.toNat) + c))) 175 b.toNat (w32 (((yM h) 175 b.toNat) - c))) 180 (((yM h) 37 78).toNat) b) 181 (((yM h) 37 78).toNat) a) 185 (((yM h) 37 78).toNat) 1) 37 70 (w32 (((yM h) 37 70) + c))) 37 0 = (zs (zs (zs (zs (zs (zs (zs (yM h) 84 (((yM h) 170 b.toNat).toNat) (w32 (((yM h) 84 (((yM h) 170 b.toNat).toNat)) - (max (yWask q (yM h) 1 a.toNat b.toNat c) 0)))) 84 a.toNat (w32 (((zs (yM h) 84 (((yM h) 170 b.toNat).toNat) (w32 (((yM h) 84 (((yM h) 170 b.toNat).toNat)) - (max (yWask q (yM h) 1 a.toNat b.toNat c) 0)))) 84 a.toNat) + (max (yWask q (yM h) 1 a.toNat b.toNat c) 0)))) 92 a.toNat (w32 (((yM h) 92 a.toNat) + c))) 175 b.toNat (w32 (((yM h) 175 b.toNat) - c))) 180 (((yM h) 37 78).toNat) b) 181 (((yM h) 37 78).toNat) a) 185 (((yM h) 37 78).toNat) 1) 37 0) (Eq.trans (zs_na (by decide) : (zs (zs (zs (zs (zs (zs (zs (yM h) 84 (((yM h) 170 b.toNat).toNat) (w32 (((yM h) 84 (((yM h) 170 b.toNat).toNat)) - (max (yWask q (yM h) 1 a.toNat b.toNat c) 0)))) 84 a.toNat (w32 (((zs (yM h) 84 (((yM h) 170 b.toNat).toNat) (w32 (((yM h) 84 (((yM h) 170 b.toNat).toNat)) - (max (yWask q (yM h) 1 a.toNat b.toNat c) 0)))) 84 a.toNat) + (max (yWask q (yM h) 1 a.toNat b.toNat c) 0)))) 92 a.toNat (w32 (((yM h) 92 a.toNat) + c))) 175 b.toNat (w32 (((yM h) 175 b.toNat) - c))) 180 (((yM h) 37 78).toNat) b) 181 (((yM h) 37 78).toNat) a) 185 (((yM h) 37 78).toNat) 1) 37 0 = (zs (zs (zs (zs (zs (zs (yM h) 84 (((yM h) 170 b.toNat).toNat) (w32 (((yM h) 84 (((yM h) 170 b.toNat).toNat)) - (max (yWask q (yM h) 1 a.toNat b.toNat c) 0)))) 84 a.toNat (w32 (((zs (yM h) 84 (((yM h) 170 b.toNat).toNat) (w32 (((yM h) 84 (((yM h) 170 b.toNat).toNat)) - (max (yWask q (yM h) 1 a.toNat b.toNat c) 0)))) 84 a.toNat) + (max (yWask q (yM h) 1 a.toNat b.toNat c) 0)))) 92 a.toNat (w32 (((yM h) 92 a.toNat) + c))) 175 b.toNat (w32 (((yM h) 175 b.toNat) - c))) 180 (((yM h) 37 78).toNat) b) 181 (((yM h) 37 78).toNat) a) 37 0) (Eq.trans (zs_na (by decide) : (zs (zs (zs (zs (zs (zs (yM h) 84 (((yM h) 170 b.toNat).toNat) (w32 (((yM h) 84 (((yM h) 170 b.toNat).toNat)) - (max (yWask q (yM h) 1 a.toNat b.toNat c) 0)))) 84 a.toNat (w32 (((zs (yM h) 84 (((yM h) 170 b.toNat).toNat) (w32 (((yM h) 84 (((yM h) 170 b.toNat).toNat)) - (max (yWask q (yM h) 1 a.toNat b.toNat c) 0)))) 84 a.toNat) + (max (yWask q (yM h) 1 a.toNat b.toNat c) 0)))) 92 a.toNat (w32 (((yM h) 92 a.toNat) + c))) 175 b.toNat (w32 (((yM h) 175 b.toNat) - c))) 180 (((yM h) 37 78).toNat) b) 181 (((yM h) 37 78).toNat) a) 37 0 = (zs (zs (zs (zs (zs (yM h) 84 (((yM h) 170 b.toNat).toNat) (w32 (((yM h) 84 (((yM h) 170 b.toNat).toNat)) - (max (yWask q (yM h) 1 a.toNat b.toNat c) 0)))) 84 a.toNat (w32 (((zs (yM h) 84 (((yM h) 170 b.toNat).toNat) (w32 (((yM h) 84 (((yM h) 170 b.toNat).toNat)) - (max (yWask q (yM h) 1 a.toNat b.toNat c) 0)))) 84 a.toNat) + (max (yWask q (yM h) 1 a.toNat b.toNat c) 0)))) 92 a.toNat (w32 (((yM h) 92 a.toNat) + c))) 175 b.toNat (w32 (((yM h) 175 b.toNat) - c))) 180 (((yM h) 37 78).toNat) b) 37 0) (Eq.trans (zs_na (by decide) : (zs (zs (zs (zs (zs (yM h) 84 (((yM h) 170 b.toNat).toNat) (w32 (((yM h) 84 (((yM h) 170 b.toNat).toNat)) - (max (yWask q (yM h) 1 a.toNat b.toNat c) 0)))) 84 a.toNat (w32 (((zs (yM h) 84 (((yM h) 170 b.toNat).toNat) (w32 (((yM h) 84 (((yM h) 170 b.toNat).toNat)) - (max (yWask q (yM h) 1 a.toNat b.toNat c) 0)))) 84 a.toNat) + (max (yWask q (yM h) 1 a.toNat b.toNat c) 0)))) 92 a.toNat (w32 (((yM h) 92 a.toNat) + c))) 175 b.toNat (w32 (((yM h) 175 b.toNat) - c))) 180 (((yM h) 37 78).toNat) b) 37 0 = (zs (zs (zs (zs (yM h) 84 (((yM h) 170 b.toNat).toNat) (w32 (((yM h) 84 (((yM h) 170 b.toNat).toNat)) - (max (yWask q (yM h) 1 a.toNat b.toNat c) 0)))) 84 a.toNat (w32 (((zs (yM h) 84 (((yM h) 170 b.toNat).toNat) (w32 (((yM h) 84 (((yM h) 170 b.toNat).toNat)) - (max (yWask q (yM h) 1 a.toNat b.toNat c) 0)))) 84 a.toNat) + (max (yWask q (yM h) 1 a.toNat b.toNat c) 0)))) 92 a.toNat (w32 (((yM h) 92 a.toNat) + c))) 175 b.toNat (w32 (((yM h) 175 b.toNat) - c))) 37 0) (Eq.trans (zs_na (by decide) : (zs (zs (zs (zs (yM h) 84 (((yM h) 170 b.toNat).toNat) (w32 (((yM h) 84 (((yM h) 170 b.toNat).toNat)) - (max (yWask q (yM h) 1 a.toNat b.toNat c) 0)))) 84 a.toNat (w32 (((zs (yM h) 84 (((yM h) 170 b.toNat).toNat) (w32 (((yM h) 84 (((yM h) 170 b.toNat).toNat)) - (max (yWask q (yM h) 1 a.toNat b.toNat c) 0)))) 84 a.toNat) + (max (yWask q (yM h) 1 a.toNat b.toNat c) 0)))) 92 a.toNat (w32 (((yM h) 92 a.toNat) + c))) 175 b.toNat (w32 (((yM h) 175 b.toNat) - c))) 37 0 = (zs (zs (zs (yM h) 84 (((yM h) 170 b.toNat).toNat) (w32 (((yM h) 84 (((yM h) 170 b.toNat).toNat)) - (max (yWask q (yM h) 1 a.toNat b.toNat c) 0)))) 84 a.toNat (w32 (((zs (yM h) 84 (((yM h) 170 b.toNat).toNat) (w32 (((yM h) 84 (((yM h) 170 b.toNat).toNat)) - (max (yWask q (yM h) 1 a.toNat b.toNat c) 0)))) 84 a.toNat) + (max (yWask q (yM h) 1 a.toNat b.toNat c) 0)))) 92 a.toNat (w32 (((yM h) 92 a.toNat) + c))) 37 0) (Eq.trans (zs_na (by decide) : (zs (zs (zs (yM h) 84 (((yM h) 170 b.toNat).toNat) (w32 (((yM h) 84 (((yM h) 170 b.toNat).toNat)) - (max (yWask q (yM h) 1 a.toNat b.toNat c) 0)))) 84 a.toNat (w32 (((zs (yM h) 84 (((yM h) 170 b.toNat).toNat) (w32 (((yM h) 84 (((yM h) 170 b.toNat).toNat)) - (max (yWask q (yM h) 1 a.toNat b.toNat c) 0)))) 84 a.toNat) + (max (yWask q (yM h) 1 a.toNat b.toNat c) 0)))) 92 a.toNat (w32 (((yM h) 92 a.toNat) + c))) 37 0 = (zs (zs (yM h) 84 (((yM h) 170 b.toNat).toNat) (w32 (((yM h) 84 (((yM h) 170 b.toNat).toNat)) - (max (yWask q (yM h) 1 a.toNat b.toNat c) 0)))) 84 a.toNat (w32 (((zs (yM h) 84 (((yM h) 170 b.toNat).toNat) (w32 (((yM h) 84 (((yM h) 170 b.toNat).toNat)) - (max (yWask q (yM h) 1 a.toNat b.toNat c) 0)))) 84 a.toNat) + (max (yWask q (yM h) 1 a.toNat b.toNat c) 0)))) 37 0) (Eq.trans (zs_na (by decide) : (zs (zs (yM h) 84 (((yM h) 170 b.toNat).toNat) (w32 (((yM h) 84 (((yM h) 170 b.toNat).toNat)) - (max (yWask q (yM h) 1 a.toNat b.toNat c) 0)))) 84 a.toNat (w32 (((zs (yM h) 84 (((yM h) 170 b.toNat).toNat) (w32 (((yM h) 84 (((yM h) 170 b.toNat).toNat)) - (max (yWask q (yM h) 1 a.toNat b.toNat c) 0)))) 84 a.toNat) + (max (yWask q (yM h) 1 a.toNat b.toNat c) 0)))) 37 0 = (zs (yM h) 84 (((yM h) 170 b.toNat).toNat) (w32 (((yM h) 84 (((yM h) 170 b.toNat).toNat)) - (max (yWask q (yM h) 1 a.toNat b.toNat c) 0)))) 37 0) (Eq.trans (zs_na (by decide) : (zs (yM h) 84 (((yM h) 170 b.toNat).toNat) (w32 (((yM h) 84 (((yM h) 170 b.toNat).toNat)) - (max (yWask q (yM h) 1 a.toNat b.toNat c) 0)))) 37 0 = (yM h) 37 0) rfl))))))))))
              have ib16 : 0 ≤ v83 ∧ v83 < ((200 : Nat) : Int) := ⟨by omega, by omega⟩
              refine zwW_as Ih82 (a1 := 182) (a2 := 182) (n := 200) (lo := -2147483648) (hi := 2147483647) (nx := 179) (by decide +kernel) ⟨by decide, by decide⟩ ib16 ⟨by omega, by omega⟩ ?_
              intro h85 eh85 Ih85
              have jbh85 : 0 ≤ v83.toNat ∧ v83.toNat < 200 := ⟨Nat.zero_le _, zit ib16⟩
              have th85_37_0 : fld h85 37 0 = fld h82 37 0 := by rw [eh85]; exact fld_wr (Or.inl (by decide))
              have th85_37_1 : fld h85 37 1 = fld h82 37 1 := by rw [eh85]; exact fld_wr (Or.inl (by decide))
              have th85_37_2 : fld h85 37 2 = fld h82 37 2 := by rw [eh85]; exact fld_wr (Or.inl (by decide))
              have th85_37_64 : fld h85 37 64 = fld h82 37 64 := by rw [eh85]; exact fld_wr (Or.inl (by decide))
              have th85_37_78 : fld h85 37 78 = fld h82 37 78 := by rw [eh85]; exact fld_wr (Or.inl (by decide))
              have Vh85 : mRq q h85 := Vh82.fr (zMR.one (a1 := 182) (a2 := 182) (j1 := 0) (j2 := 200) ⟨by decide, by decide⟩ jbh85 eh85) (by decide +kernel)
              have Uh85 : yM h85 = (zs (zs (zs (zs (zs (zs (zs (zs (zs (yM h) 84 (((yM h) 170 b.toNat).toNat) (w32 (((yM h) 84 (((yM h) 170 b.toNat).toNat)) - (max (yWask q (yM h) 1 a.toNat b.toNat c) 0)))) 84 a.toNat (w32 (((zs (yM h) 84 (((yM h) 170 b.toNat).toNat) (w32 (((yM h) 84 (((yM h) 170 b.toNat).toNat)) - (max (yWask q (yM h) 1 a.toNat b.toNat c) 0)))) 84 a.toNat) + (max (yWask q (yM h) 1 a.toNat b.toNat c) 0)))) 92 a.toNat (w32 (((yM h) 92 a.toNat) + c))) 175 b.toNat (w32 (((yM h) 175 b.toNat) - c))) 180 (((yM h) 37 78).toNat) b) 181 (((yM h) 37 78).toNat) a) 185 (((yM h) 37 78).toNat) 1) 37 70 (w32 (((yM h) 37 70) + c))) 182 (((yM h) 37 78).toNat) ((yM h) 37 0)) := by rw [yM_w (a := 182) (n := 200) (i := v83.toNat) (kd := 20) rfl (Ih82.s (a1 := 182) (a2 := 182) (by decide +kernel) (by decide) (by decide)) jbh85.2 eh85, Zh82, sv84, sv83]
              have Zh85 : yM h85 = (zs (zs (zs (zs (zs (zs (zs (zs (zs (yM h) 84 (((yM h) 170 b.toNat).toNat) (w32 (((yM h) 84 (((yM h) 170 b.toNat).toNat)) - (max (yWask q (yM h) 1 a.toNat b.toNat c) 0)))) 84 a.toNat (w32 (((zs (yM h) 84 (((yM h) 170 b.toNat).toNat) (w32 (((yM h) 84 (((yM h) 170 b.toNat).toNat)) - (max (yWask q (yM h) 1 a.toNat b.toNat c) 0)))) 84 a.toNat) + (max (yWask q (yM h) 1 a.toNat b.toNat c) 0)))) 92 a.toNat (w32 (((yM h) 92 a.toNat) + c))) 175 b.toNat (w32 (((yM h) 175 b.toNat) - c))) 180 (((yM h) 37 78).toNat) b) 181 (((yM h) 37 78).toNat) a) 182 (((yM h) 37 78).toNat) ((yM h) 37 0)) 185 (((yM h) 37 78).toNat) 1) 37 70 (w32 (((yM h) 37 70) + c))) := by rw [Uh85, zs_sw (a := 37) (b := 182) (by decide), zs_sw (a := 185) (b := 182) (by decide)]
              have Rh85 : zMR ms42 h h85 := Rh82.w (a1 := 182) (a2 := 182) (j1 := 0) (j2 := 200) (by decide +kernel) ⟨by decide, by decide⟩ jbh85 eh85
              refine zwW_p [(1, 0, 2)] (q := 180) (ls' := [(2, 37), (0, a), (0, b), (0, c), (0, v19)]) (st' := [(2, 37)]) (by decide +kernel) rfl ?_
              refine zwW_gc Ih85 (kd := 13) (bn := 75) (n := 97) (c := 183) (nx := 183) (by decide +kernel) ?_
              refine zwW_p [(1, 0, 2)] (q := 184) (ls' := [(2, 37), (0, a), (0, b), (0, c), (0, v19)]) (st' := [(2, 37), (2, 183)]) (by decide +kernel) rfl ?_
              refine zwW_gs Ih85 (kd := 13) (bn := 78) (n := 97) (t := 0) (lo := 0) (hi := 200) (nx := 187) (by decide +kernel) ?_
              intro v86 ev86 lv86 uv86
              have sv86 : v86 = (yM h) 37 78 := Eq.trans ev86 (Eq.trans (Eq.symm (yM_s (h := h85) (i := 78) rfl)) (Eq.trans (congrFun (congrFun Zh85 37) 78) (Eq.trans (zs_ni (by decide) : (zs (zs (zs (zs (zs (zs (zs (zs (zs (yM h) 84 (((yM h) 170 b.toNat).toNat) (w32 (((yM h) 84 (((yM h) 170 b.toNat).toNat)) - (max (yWask q (yM h) 1 a.toNat b.toNat c) 0)))) 84 a.toNat (w32 (((zs (yM h) 84 (((yM h) 170 b.toNat).toNat) (w32 (((yM h) 84 (((yM h) 170 b.toNat).toNat)) - (max (yWask q (yM h) 1 a.toNat b.toNat c) 0)))) 84 a.toNat) + (max (yWask q (yM h) 1 a.toNat b.toNat c) 0)))) 92 a.toNat (w32 (((yM h) 92 a.toNat) + c))) 175 b.toNat (w32 (((yM h) 175 b.toNat) - c))) 180 (((yM h) 37 78).toNat) b) 181 (((yM h) 37 78).toNat) a) 182 (((yM h) 37 78).toNat) ((yM h) 37 0)) 185 (((yM h) 37 78).toNat) 1) 37 70 (w32 (((yM h) 37 70) + c))) 37 78 = (zs (zs (zs (zs (zs (zs (zs (zs (yM h) 84 (((yM h) 170 b.toNat).toNat) (w32 (((yM h) 84 (((yM h) 170 b.toNat).toNat)) - (max (yWask q (yM h) 1 a.toNat b.toNat c) 0)))) 84 a.toNat (w32 (((zs (yM h) 84 (((yM h) 170 b.toNat).toNat) (w32 (((yM h) 84 (((yM h) 170 b.toNat).toNat)) - (max (yWask q (yM h) 1 a.toNat b.toNat c) 0)))) 84 a.toNat) + (max (yWask q (yM h) 1 a.toNat b.toNat c) 0)))) 92 a.toNat (w32 (((yM h) 92 a.toNat) + c))) 175 b.toNat (w32 (((yM h) 175 b.toNat) - c))) 180 (((yM h) 37 78).toNat) b) 181 (((yM h) 37 78).toNat) a) 182 (((yM h) 37 78).toNat) ((yM h) 37 0)) 185 (((yM h) 37 78).toNat) 1) 37 78) (Eq.trans (zs_na (by decide) : (zs (zs (zs (zs (zs (zs (zs (zs (yM h) 84 (((yM h) 170 b.toNat).toNat) (w32 (((yM h) 84 (((yM h) 170 b.toNat).toNat)) - (max (yWask q (yM h) 1 a.toNat b.toNat c) 0)))) 84 a.toNat (w32 (((zs (yM h) 84 (((yM h) 170 b.toNat).toNat) (w32 (((yM h) 84 (((yM h) 170 b.toNat).toNat)) - (max (yWask q (yM h) 1 a.toNat b.toNat c) 0)))) 84 a.toNat) + (max (yWask q (yM h) 1 a.toNat b.toNat c) 0)))) 92 a.toNat (w32 (((yM h) 92 a.toNat) + c))) 175 b.toNat (w32 (((yM h) 175 b.toNat) - c))) 180 (((yM h) 37 78).toNat) b) 181 (((yM h) 37 78).toNat) a) 182 (((yM h) 37 78).toNat) ((yM h) 37 0)) 185 (((yM h) 37 78).toNat) 1) 37 78 = (zs (zs (zs (zs (zs (zs (zs (yM h) 84 (((yM h) 170 b.toNat).toNat) (w32 (((yM h) 84 (((yM h) 170 b.toNat).toNat)) - (max (yWask q (yM h) 1 a.toNat b.toNat c) 0)))) 84 a.toNat (w32 (((zs (yM h) 84 (((yM h) 170 b.toNat).toNat) (w32 (((yM h) 84 (((yM h) 170 b.toNat).toNat)) - (max (yWask q (yM h) 1 a.toNat b.toNat c) 0)))) 84 a.toNat) + (max (yWask q (yM h) 1 a.toNat b.toNat c) 0)))) 92 a.toNat (w32 (((yM h) 92 a.toNat) + c))) 175 b.toNat (w32 (((yM h) 175 b.toNat) - c))) 180 (((yM h) 37 78).toNat) b) 181 (((yM h) 37 78).toNat) a) 182 (((yM h) 37 78).toNat) ((yM h) 37 0)) 37 78) (Eq.trans (zs_na (by decide) : (zs (zs (zs (zs (zs (zs (zs (yM h) 84 (((yM h) 170 b.toNat).toNat) (w32 (((yM h) 84 (((yM h) 170 b.toNat).toNat)) - (max (yWask q (yM h) 1 a.toNat b.toNat c) 0)))) 84 a.toNat (w32 (((zs (yM h) 84 (((yM h) 170 b.toNat).toNat) (w32 (((yM h) 84 (((yM h) 170 b.toNat).toNat)) - (max (yWask q (yM h) 1 a.toNat b.toNat c) 0)))) 84 a.toNat) + (max (yWask q (yM h) 1 a.toNat b.toNat c) 0)))) 92 a.toNat (w32 (((yM h) 92 a.toNat) + c))) 175 b.toNat (w32 (((yM h) 175 b.toNat) - c))) 180 (((yM h) 37 78).toNat) b) 181 (((yM h) 37 78).toNat) a) 182 (((yM h) 37 78).toNat) ((yM h) 37 0)) 37 78 = (zs (zs (zs (zs (zs (zs (yM h) 84 (((yM h) 170 b.toNat).toNat) (w32 (((yM h) 84 (((yM h) 170 b.toNat).toNat)) - (max (yWask q (yM h) 1 a.toNat b.toNat c) 0)))) 84 a.toNat (w32 (((zs (yM h) 84 (((yM h) 170 b.toNat).toNat) (w32 (((yM h) 84 (((yM h) 170 b.toNat).toNat)) - (max (yWask q (yM h) 1 a.toNat b.toNat c) 0)))) 84 a.toNat) + (max (yWask q (yM h) 1 a.toNat b.toNat c) 0)))) 92 a.toNat (w32 (((yM h) 92 a.toNat) + c))) 175 b.toNat (w32 (((yM h) 175 b.toNat) - c))) 180 (((yM h) 37 78).toNat) b) 181 (((yM h) 37 78).toNat) a) 37 78) (Eq.trans (zs_na (by decide) : (zs (zs (zs (zs (zs (zs (yM h) 84 (((yM h) 170 b.toNat).toNat) (w32 (((yM h) 84 (((yM h) 170 b.toNat).toNat)) - (max (yWask q (yM h) 1 a.toNat b.toNat c) 0)))) 84 a.toNat (w32 (((zs (yM h) 84 (((yM h) 170 b.toNat).toNat) (w32 (((yM h) 84 (((yM h) 170 b.toNat).toNat)) - (max (yWask q (yM h) 1 a.toNat b.toNat c) 0)))) 84 a.toNat) + (max (yWask q (yM h) 1 a.toNat b.toNat c) 0)))) 92 a.toNat (w32 (((yM h) 92 a.toNat) + c))) 175 b.toNat (w32 (((yM h) 175 b.toNat) - c))) 180 (((yM h) 37 78).toNat) b) 181 (((yM h) 37 78).toNat) a) 37 78 = (zs (zs (zs (zs (zs (yM h) 84 (((yM h) 170 b.toNat).toNat) (w32 (((yM h) 84 (((yM h) 170 b.toNat).toNat)) - (max (yWask q (yM h) 1 a.toNat b.toNat c) 0)))) 84 a.toNat (w32 (((zs (yM h) 84 (((yM h) 170 b.toNat).toNat) (w32 (((yM h) 84 (((yM h) 170 b.toNat).toNat)) - (max (yWask q (yM h) 1 a.toNat b.toNat c) 0)))) 84 a.toNat) + (max (yWask q (yM h) 1 a.toNat b.toNat c) 0)))) 92 a.toNat (w32 (((yM h) 92 a.toNat) + c))) 175 b.toNat (w32 (((yM h) 175 b.toNat) - c))) 180 (((yM h) 37 78).toNat) b) 37 78) (Eq.trans (zs_na (by decide) : (zs (zs (zs (zs (zs (yM h) 84 (((yM h) 170 b.toNat).toNat) (w32 (((yM h) 84 (((yM h) 170 b.toNat).toNat)) - (max (yWask q (yM h) 1 a.toNat b.toNat c) 0)))) 84 a.toNat (w32 (((zs (yM h) 84 (((yM h) 170 b.toNat).toNat) (w32 (((yM h) 84 (((yM h) 170 b.toNat).toNat)) - (max (yWask q (yM h) 1 a.toNat b.toNat c) 0)))) 84 a.toNat) + (max (yWask q (yM h) 1 a.toNat b.toNat c) 0)))) 92 a.toNat (w32 (((yM h) 92 a.toNat) + c))) 175 b.toNat (w32 (((yM h) 175 b.toNat) - c))) 180 (((yM h) 37 78).toNat) b) 37 78 = (zs (zs (zs (zs (yM h) 84 (((yM h) 170 b.toNat).toNat) (w32 (((yM h) 84 (((yM h) 170 b.toNat).toNat)) - (max (yWask q (yM h) 1 a.toNat b.toNat c) 0)))) 84 a.toNat (w32 (((zs (yM h) 84 (((yM h) 170 b.toNat).toNat) (w32 (((yM h) 84 (((yM h) 170 b.toNat).toNat)) - (max (yWask q (yM h) 1 a.toNat b.toNat c) 0)))) 84 a.toNat) + (max (yWask q (yM h) 1 a.toNat b.toNat c) 0)))) 92 a.toNat (w32 (((yM h) 92 a.toNat) + c))) 175 b.toNat (w32 (((yM h) 175 b.toNat) - c))) 37 78) (Eq.trans (zs_na (by decide) : (zs (zs (zs (zs (yM h) 84 (((yM h) 170 b.toNat).toNat) (w32 (((yM h) 84 (((yM h) 170 b.toNat).toNat)) - (max (yWask q (yM h) 1 a.toNat b.toNat c) 0)))) 84 a.toNat (w32 (((zs (yM h) 84 (((yM h) 170 b.toNat).toNat) (w32 (((yM h) 84 (((yM h) 170 b.toNat).toNat)) - (max (yWask q (yM h) 1 a.toNat b.toNat c) 0)))) 84 a.toNat) + (max (yWask q (yM h) 1 a.toNat b.toNat c) 0)))) 92 a.toNat (w32 (((yM h) 92 a.toNat) + c))) 175 b.toNat (w32 (((yM h) 175 b.toNat) - c))) 37 78 = (zs (zs (zs (yM h) 84 (((yM h) 170 b.toNat).toNat) (w32 (((yM h) 84 (((yM h) 170 b.toNat).toNat)) - (max (yWask q (yM h) 1 a.toNat b.toNat c) 0)))) 84 a.toNat (w32 (((zs (yM h) 84 (((yM h) 170 b.toNat).toNat) (w32 (((yM h) 84 (((yM h) 170 b.toNat).toNat)) - (max (yWask q (yM h) 1 a.toNat b.toNat c) 0)))) 84 a.toNat) + (max (yWask q (yM h) 1 a.toNat b.toNat c) 0)))) 92 a.toNat (w32 (((yM h) 92 a.toNat) + c))) 37 78) (Eq.trans (zs_na (by decide) : (zs (zs (zs (yM h) 84 (((yM h) 170 b.toNat).toNat) (w32 (((yM h) 84 (((yM h) 170 b.toNat).toNat)) - (max (yWask q (yM h) 1 a.toNat b.toNat c) 0)))) 84 a.toNat (w32 (((zs (yM h) 84 (((yM h) 170 b.toNat).toNat) (w32 (((yM h) 84 (((yM h) 170 b.toNat).toNat)) - (max (yWask q (yM h) 1 a.toNat b.toNat c) 0)))) 84 a.toNat) + (max (yWask q (yM h) 1 a.toNat b.toNat c) 0)))) 92 a.toNat (w32 (((yM h) 92 a.toNat) + c))) 37 78 = (zs (zs (yM h) 84 (((yM h) 170 b.toNat).toNat) (w32 (((yM h) 84 (((yM h) 170 b.toNat).toNat)) - (max (yWask q (yM h) 1 a.toNat b.toNat c) 0)))) 84 a.toNat (w32 (((zs (yM h) 84 (((yM h) 170 b.toNat).toNat) (w32 (((yM h) 84 (((yM h) 170 b.toNat).toNat)) - (max (yWask q (yM h) 1 a.toNat b.toNat c) 0)))) 84 a.toNat) + (max (yWask q (yM h) 1 a.toNat b.toNat c) 0)))) 37 78) (Eq.trans (zs_na (by decide) : (zs (zs (yM h) 84 (((yM h) 170 b.toNat).toNat) (w32 (((yM h) 84 (((yM h) 170 b.toNat).toNat)) - (max (yWask q (yM h) 1 a.toNat b.toNat c) 0)))) 84 a.toNat (w32 (((zs (yM h) 84 (((yM h) 170 b.toNat).toNat) (w32 (((yM h) 84 (((yM h) 170 b.toNat).toNat)) - (max (yWask q (yM h) 1 a.toNat b.toNat c) 0)))) 84 a.toNat) + (max (yWask q (yM h) 1 a.toNat b.toNat c) 0)))) 37 78 = (zs (yM h) 84 (((yM h) 170 b.toNat).toNat) (w32 (((yM h) 84 (((yM h) 170 b.toNat).toNat)) - (max (yWask q (yM h) 1 a.toNat b.toNat c) 0)))) 37 78) (Eq.trans (zs_na (by decide) : (zs (yM h) 84 (((yM h) 170 b.toNat).toNat) (w32 (((yM h) 84 (((yM h) 170 b.toNat).toNat)) - (max (yWask q (yM h) 1 a.toNat b.toNat c) 0)))) 37 78 = (yM h) 37 78) rfl)))))))))))
              refine zwW_p [(1, 3, 0), (0, 2, 0)] (q := 189) (ls' := [(2, 37), (0, a), (0, b), (0, c), (0, v19)]) (st' := [(0, 2), (0, c), (0, v86), (2, 183)]) (by decide +kernel) rfl ?_
              refine zwW_div (nx := 190) (by decide +kernel) (by omega) (by omega) (by omega) ?_
              have ib17 : 0 ≤ v86 ∧ v86 < ((200 : Nat) : Int) := ⟨by omega, by omega⟩
              refine zwW_as Ih85 (a1 := 183) (a2 := 183) (n := 200) (lo := -2147483648) (hi := 2147483647) (nx := 191) (by decide +kernel) ⟨by decide, by decide⟩ ib17 ⟨by omega, by omega⟩ ?_
              intro h87 eh87 Ih87
              have jbh87 : 0 ≤ v86.toNat ∧ v86.toNat < 200 := ⟨Nat.zero_le _, zit ib17⟩
              have th87_37_0 : fld h87 37 0 = fld h85 37 0 := by rw [eh87]; exact fld_wr (Or.inl (by decide))
              have th87_37_1 : fld h87 37 1 = fld h85 37 1 := by rw [eh87]; exact fld_wr (Or.inl (by decide))
              have th87_37_2 : fld h87 37 2 = fld h85 37 2 := by rw [eh87]; exact fld_wr (Or.inl (by decide))
              have th87_37_64 : fld h87 37 64 = fld h85 37 64 := by rw [eh87]; exact fld_wr (Or.inl (by decide))
              have th87_37_78 : fld h87 37 78 = fld h85 37 78 := by rw [eh87]; exact fld_wr (Or.inl (by decide))
              have Vh87 : mRq q h87 := Vh85.fr (zMR.one (a1 := 183) (a2 := 183) (j1 := 0) (j2 := 200) ⟨by decide, by decide⟩ jbh87 eh87) (by decide +kernel)
              have Uh87 : yM h87 = (zs (zs (zs (zs (zs (zs (zs (zs (zs (zs (yM h) 84 (((yM h) 170 b.toNat).toNat) (w32 (((yM h) 84 (((yM h) 170 b.toNat).toNat)) - (max (yWask q (yM h) 1 a.toNat b.toNat c) 0)))) 84 a.toNat (w32 (((zs (yM h) 84 (((yM h) 170 b.toNat).toNat) (w32 (((yM h) 84 (((yM h) 170 b.toNat).toNat)) - (max (yWask q (yM h) 1 a.toNat b.toNat c) 0)))) 84 a.toNat) + (max (yWask q (yM h) 1 a.toNat b.toNat c) 0)))) 92 a.toNat (w32 (((yM h) 92 a.toNat) + c))) 175 b.toNat (w32 (((yM h) 175 b.toNat) - c))) 180 (((yM h) 37 78).toNat) b) 181 (((yM h) 37 78).toNat) a) 182 (((yM h) 37 78).toNat) ((yM h) 37 0)) 185 (((yM h) 37 78).toNat) 1) 37 70 (w32 (((yM h) 37 70) + c))) 183 (((yM h) 37 78).toNat) (c / 2)) := by rw [yM_w (a := 183) (n := 200) (i := v86.toNat) (kd := 20) rfl (Ih85.s (a1 := 183) (a2 := 183) (by decide +kernel) (by decide) (by decide)) jbh87.2 eh87, Zh85, sv86]
              have Zh87 : yM h87 = (zs (zs (zs (zs (zs (zs (zs (zs (zs (zs (yM h) 84 (((yM h) 170 b.toNat).toNat) (w32 (((yM h) 84 (((yM h) 170 b.toNat).toNat)) - (max (yWask q (yM h) 1 a.toNat b.toNat c) 0)))) 84 a.toNat (w32 (((zs (yM h) 84 (((yM h) 170 b.toNat).toNat) (w32 (((yM h) 84 (((yM h) 170 b.toNat).toNat)) - (max (yWask q (yM h) 1 a.toNat b.toNat c) 0)))) 84 a.toNat) + (max (yWask q (yM h) 1 a.toNat b.toNat c) 0)))) 92 a.toNat (w32 (((yM h) 92 a.toNat) + c))) 175 b.toNat (w32 (((yM h) 175 b.toNat) - c))) 180 (((yM h) 37 78).toNat) b) 181 (((yM h) 37 78).toNat) a) 182 (((yM h) 37 78).toNat) ((yM h) 37 0)) 183 (((yM h) 37 78).toNat) (c / 2)) 185 (((yM h) 37 78).toNat) 1) 37 70 (w32 (((yM h) 37 70) + c))) := by rw [Uh87, zs_sw (a := 37) (b := 183) (by decide), zs_sw (a := 185) (b := 183) (by decide)]
              have Rh87 : zMR ms42 h h87 := Rh85.w (a1 := 183) (a2 := 183) (j1 := 0) (j2 := 200) (by decide +kernel) ⟨by decide, by decide⟩ jbh87 eh87
              refine zwW_p [(1, 0, 2)] (q := 192) (ls' := [(2, 37), (0, a), (0, b), (0, c), (0, v19)]) (st' := [(2, 37)]) (by decide +kernel) rfl ?_
              refine zwW_gc Ih87 (kd := 13) (bn := 76) (n := 97) (c := 184) (nx := 195) (by decide +kernel) ?_
              refine zwW_p [(1, 0, 2)] (q := 196) (ls' := [(2, 37), (0, a), (0, b), (0, c), (0, v19)]) (st' := [(2, 37), (2, 184)]) (by decide +kernel) rfl ?_
              refine zwW_gs Ih87 (kd := 13) (bn := 78) (n := 97) (t := 0) (lo := 0) (hi := 200) (nx := 199) (by decide +kernel) ?_
              intro v88 ev88 lv88 uv88
              have sv88 : v88 = (yM h) 37 78 := Eq.trans ev88 (Eq.trans (Eq.symm (yM_s (h := h87) (i := 78) rfl)) (Eq.trans (congrFun (congrFun Zh87 37) 78) (Eq.trans (zs_ni (by decide) : (zs (zs (zs (zs (zs (zs (zs (zs (zs (zs (yM h) 84 (((yM h) 170 b.toNat).toNat) (w32 (((yM h) 84 (((yM h) 170 b.toNat).toNat)) - (max (yWask q (yM h) 1 a.toNat b.toNat c) 0)))) 84 a.toNat (w32 (((zs (yM h) 84 (((yM h) 170 b.toNat).toNat) (w32 (((yM h) 84 (((yM h) 170 b.toNat).toNat)) - (max (yWask q (yM h) 1 a.toNat b.toNat c) 0)))) 84 a.toNat) + (max (yWask q (yM h) 1 a.toNat b.toNat c) 0)))) 92 a.toNat (w32 (((yM h) 92 a.toNat) + c))) 175 b.toNat (w32 (((yM h) 175 b.toNat) - c))) 180 (((yM h) 37 78).toNat) b) 181 (((yM h) 37 78).toNat) a) 182 (((yM h) 37 78).toNat) ((yM h) 37 0)) 183 (((yM h) 37 78).toNat) (c / 2)) 185 (((yM h) 37 78).toNat) 1) 37 70 (w32 (((yM h) 37 70) + c))) 37 78 = (zs (zs (zs (zs (zs (zs (zs (zs (zs (yM h) 84 (((yM h) 170 b.toNat).toNat) (w32 (((yM h) 84 (((yM h) 170 b.toNat).toNat)) - (max (yWask q (yM h) 1 a.toNat b.toNat c) 0)))) 84 a.toNat (w32 (((zs (yM h) 84 (((yM h) 170 b.toNat).toNat) (w32 (((yM h) 84 (((yM h) 170 b.toNat).toNat)) - (max (yWask q (yM h) 1 a.toNat b.toNat c) 0)))) 84 a.toNat) + (max (yWask q (yM h) 1 a.toNat b.toNat c) 0)))) 92 a.toNat (w32 (((yM h) 92 a.toNat) + c))) 175 b.toNat (w32 (((yM h) 175 b.toNat) - c))) 180 (((yM h) 37 78).toNat) b) 181 (((yM h) 37 78).toNat) a) 182 (((yM h) 37 78).toNat) ((yM h) 37 0)) 183 (((yM h) 37 78).toNat) (c / 2)) 185 (((yM h) 37 78).toNat) 1) 37 78) (Eq.trans (zs_na (by decide) : (zs (zs (zs (zs (zs (zs (zs (zs (zs (yM h) 84 (((yM h) 170 b.toNat).toNat) (w32 (((yM h) 84 (((yM h) 170 b.toNat).toNat)) - (max (yWask q (yM h) 1 a.toNat b.toNat c) 0)))) 84 a.toNat (w32 (((zs (yM h) 84 (((yM h) 170 b.toNat).toNat) (w32 (((yM h) 84 (((yM h) 170 b.toNat).toNat)) - (max (yWask q (yM h) 1 a.toNat b.toNat c) 0)))) 84 a.toNat) + (max (yWask q (yM h) 1 a.toNat b.toNat c) 0)))) 92 a.toNat (w32 (((yM h) 92 a.toNat) + c))) 175 b.toNat (w32 (((yM h) 175 b.toNat) - c))) 180 (((yM h) 37 78).toNat) b) 181 (((yM h) 37 78).toNat) a) 182 (((yM h) 37 78).toNat) ((yM h) 37 0)) 183 (((yM h) 37 78).toNat) (c / 2)) 185 (((yM h) 37 78).toNat) 1) 37 78 = (zs (zs (zs (zs (zs (zs (zs (zs (yM h) 84 (((yM h) 170 b.toNat).toNat) (w32 (((yM h) 84 (((yM h) 170 b.toNat).toNat)) - (max (yWask q (yM h) 1 a.toNat b.toNat c) 0)))) 84 a.toNat (w32 (((zs (yM h) 84 (((yM h) 170 b.toNat).toNat) (w32 (((yM h) 84 (((yM h) 170 b.toNat).toNat)) - (max (yWask q (yM h) 1 a.toNat b.toNat c) 0)))) 84 a.toNat) + (max (yWask q (yM h) 1 a.toNat b.toNat c) 0)))) 92 a.toNat (w32 (((yM h) 92 a.toNat) + c))) 175 b.toNat (w32 (((yM h) 175 b.toNat) - c))) 180 (((yM h) 37 78).toNat) b) 181 (((yM h) 37 78).toNat) a) 182 (((yM h) 37 78).toNat) ((yM h) 37 0)) 183 (((yM h) 37 78).toNat) (c / 2)) 37 78) (Eq.trans (zs_na (by decide) : (zs (zs (zs (zs (zs (zs (zs (zs (yM h) 84 (((yM h) 170 b.toNat).toNat) (w32 (((yM h) 84 (((yM h) 170 b.toNat).toNat)) - (max (yWask q (yM h) 1 a.toNat b.toNat c) 0)))) 84 a.toNat (w32 (((zs (yM h) 84 (((yM h) 170 b.toNat).toNat) (w32 (((yM h) 84 (((yM h) 170 b.toNat).toNat)) - (max (yWask q (yM h) 1 a.toNat b.toNat c) 0)))) 84 a.toNat) + (max (yWask q (yM h) 1 a.toNat b.toNat c) 0)))) 92 a.toNat (w32 (((yM h) 92 a.toNat) + c))) 175 b.toNat (w32 (((yM h) 175 b.toNat) - c))) 180 (((yM h) 37 78).toNat) b) 181 (((yM h) 37 78).toNat) a) 182 (((yM h) 37 78).toNat) ((yM h) 37 0)) 183 (((yM h) 37 78).toNat) (c / 2)) 37 78 = (zs (zs (zs (zs (zs (zs (zs (yM h) 84 (((yM h) 170 b.toNat).toNat) (w32 (((yM h) 84 (((yM h) 170 b.toNat).toNat)) - (max (yWask q (yM h) 1 a.toNat b.toNat c) 0)))) 84 a.toNat (w32 (((zs (yM h) 84 (((yM h) 170 b.toNat).toNat) (w32 (((yM h) 84 (((yM h) 170 b.toNat).toNat)) - (max (yWask q (yM h) 1 a.toNat b.toNat c) 0)))) 84 a.toNat) + (max (yWask q (yM h) 1 a.toNat b.toNat c) 0)))) 92 a.toNat (w32 (((yM h) 92 a.toNat) + c))) 175 b.toNat (w32 (((yM h) 175 b.toNat) - c))) 180 (((yM h) 37 78).toNat) b) 181 (((yM h) 37 78).toNat) a) 182 (((yM h) 37 78).toNat) ((yM h) 37 0)) 37 78) (Eq.trans (zs_na (by decide) : (zs (zs (zs (zs (zs (zs (zs (yM h) 84 (((yM h) 170 b.toNat).toNat) (w32 (((yM h) 84 (((yM h) 170 b.toNat).toNat)) - (max (yWask q (yM h) 1 a.toNat b.toNat c) 0)))) 84 a.toNat (w32 (((zs (yM h) 84 (((yM h) 170 b.toNat).toNat) (w32 (((yM h) 84 (((yM h) 170 b.toNat).toNat)) - (max (yWask q (yM h) 1 a.toNat b.toNat c) 0)))) 84 a.toNat) + (max (yWask q (yM h) 1 a.toNat b.toNat c) 0)))) 92 a.toNat (w32 (((yM h) 92 a.toNat) + c))) 175 b.toNat (w32 (((yM h) 175 b.toNat) - c))) 180 (((yM h) 37 78).toNat) b) 181 (((yM h) 37 78).toNat) a) 182 (((yM h) 37 78).toNat) ((yM h) 37 0)) 37 78 = (zs (zs (zs (zs (zs (zs (yM h) 84 (((yM h) 170 b.toNat).toNat) (w32 (((yM h) 84 (((yM h) 170 b.toNat).toNat)) - (max (yWask q (yM h) 1 a.toNat b.toNat c) 0)))) 84 a.toNat (w32 (((zs (yM h) 84 (((yM h) 170 b.toNat).toNat) (w32 (((yM h) 84 (((yM h) 170 b.toNat).toNat)) - (max (yWask q (yM h) 1 a.toNat b.toNat c) 0)))) 84 a.toNat) + (max (yWask q (yM h) 1 a.toNat b.toNat c) 0)))) 92 a.toNat (w32 (((yM h) 92 a.toNat) + c))) 175 b.toNat (w32 (((yM h) 175 b.toNat) - c))) 180 (((yM h) 37 78).toNat) b) 181 (((yM h) 37 78).toNat) a) 37 78) (Eq.trans (zs_na (by decide) : (zs (zs (zs (zs (zs (zs (yM h) 84 (((yM h) 170 b.toNat).toNat) (w32 (((yM h) 84 (((yM h) 170 b.toNat).toNat)) - (max (yWask q (yM h) 1 a.toNat b.toNat c) 0)))) 84 a.toNat (w32 (((zs (yM h) 84 (((yM h) 170 b.toNat).toNat) (w32 (((yM h) 84 (((yM h) 170 b.toNat).toNat)) - (max (yWask q (yM h) 1 a.toNat b.toNat c) 0)))) 84 a.toNat) + (max (yWask q (yM h) 1 a.toNat b.toNat c) 0)))) 92 a.toNat (w32 (((yM h) 92 a.toNat) + c))) 175 b.toNat (w32 (((yM h) 175 b.toNat) - c))) 180 (((yM h) 37 78).toNat) b) 181 (((yM h) 37 78).toNat) a) 37 78 = (zs (zs (zs (zs (zs (yM h) 84 (((yM h) 170 b.toNat).toNat) (w32 (((yM h) 84 (((yM h) 170 b.toNat).toNat)) - (max (yWask q (yM h) 1 a.toNat b.toNat c) 0)))) 84 a.toNat (w32 (((zs (yM h) 84 (((yM h) 170 b.toNat).toNat) (w32 (((yM h) 84 (((yM h) 170 b.toNat).toNat)) - (max (yWask q (yM h) 1 a.toNat b.toNat c) 0)))) 84 a.toNat) + (max (yWask q (yM h) 1 a.toNat b.toNat c) 0)))) 92 a.toNat (w32 (((yM h) 92 a.toNat) + c))) 175 b.toNat (w32 (((yM h) 175 b.toNat) - c))) 180 (((yM h) 37 78).toNat) b) 37 78) (Eq.trans (zs_na (by decide) : (zs (zs (zs (zs (zs (yM h) 84 (((yM h) 170 b.toNat).toNat) (w32 (((yM h) 84 (((yM h) 170 b.toNat).toNat)) - (max (yWask q (yM h) 1 a.toNat b.toNat c) 0)))) 84 a.toNat (w32 (((zs (yM h) 84 (((yM h) 170 b.toNat).toNat) (w32 (((yM h) 84 (((yM h) 170 b.toNat).toNat)) - (max (yWask q (yM h) 1 a.toNat b.toNat c) 0)))) 84 a.toNat) + (max (yWask q (yM h) 1 a.toNat b.toNat c) 0)))) 92 a.toNat (w32 (((yM h) 92 a.toNat) + c))) 175 b.toNat (w32 (((yM h) 175 b.toNat) - c))) 180 (((yM h) 37 78).toNat) b) 37 78 = (zs (zs (zs (zs (yM h) 84 (((yM h) 170 b.toNat).toNat) (w32 (((yM h) 84 (((yM h) 170 b.toNat).toNat)) - (max (yWask q (yM h) 1 a.toNat b.toNat c) 0)))) 84 a.toNat (w32 (((zs (yM h) 84 (((yM h) 170 b.toNat).toNat) (w32 (((yM h) 84 (((yM h) 170 b.toNat).toNat)) - (max (yWask q (yM h) 1 a.toNat b.toNat c) 0)))) 84 a.toNat) + (max (yWask q (yM h) 1 a.toNat b.toNat c) 0)))) 92 a.toNat (w32 (((yM h) 92 a.toNat) + c))) 175 b.toNat (w32 (((yM h) 175 b.toNat) - c))) 37 78) (Eq.trans (zs_na (by decide) : (zs (zs (zs (zs (yM h) 84 (((yM h) 170 b.toNat).toNat) (w32 (((yM h) 84 (((yM h) 170 b.toNat).toNat)) - (max (yWask q (yM h) 1 a.toNat b.toNat c) 0)))) 84 a.toNat (w32 (((zs (yM h) 84 (((yM h) 170 b.toNat).toNat) (w32 (((yM h) 84 (((yM h) 170 b.toNat).toNat)) - (max (yWask q (yM h) 1 a.toNat b.toNat c) 0)))) 84 a.toNat) + (max (yWask q (yM h) 1 a.toNat b.toNat c) 0)))) 92 a.toNat (w32 (((yM h) 92 a.toNat) + c))) 175 b.toNat (w32 (((yM h) 175 b.toNat) - c))) 37 78 = (zs (zs (zs (yM h) 84 (((yM h) 170 b.toNat).toNat) (w32 (((yM h) 84 (((yM h) 170 b.toNat).toNat)) - (max (yWask q (yM h) 1 a.toNat b.toNat c) 0)))) 84 a.toNat (w32 (((zs (yM h) 84 (((yM h) 170 b.toNat).toNat) (w32 (((yM h) 84 (((yM h) 170 b.toNat).toNat)) - (max (yWask q (yM h) 1 a.toNat b.toNat c) 0)))) 84 a.toNat) + (max (yWask q (yM h) 1 a.toNat b.toNat c) 0)))) 92 a.toNat (w32 (((yM h) 92 a.toNat) + c))) 37 78) (Eq.trans (zs_na (by decide) : (zs (zs (zs (yM h) 84 (((yM h) 170 b.toNat).toNat) (w32 (((yM h) 84 (((yM h) 170 b.toNat).toNat)) - (max (yWask q (yM h) 1 a.toNat b.toNat c) 0)))) 84 a.toNat (w32 (((zs (yM h) 84 (((yM h) 170 b.toNat).toNat) (w32 (((yM h) 84 (((yM h) 170 b.toNat).toNat)) - (max (yWask q (yM h) 1 a.toNat b.toNat c) 0)))) 84 a.toNat) + (max (yWask q (yM h) 1 a.toNat b.toNat c) 0)))) 92 a.toNat (w32 (((yM h) 92 a.toNat) + c))) 37 78 = (zs (zs (yM h) 84 (((yM h) 170 b.toNat).toNat) (w32 (((yM h) 84 (((yM h) 170 b.toNat).toNat)) - (max (yWask q (yM h) 1 a.toNat b.toNat c) 0)))) 84 a.toNat (w32 (((zs (yM h) 84 (((yM h) 170 b.toNat).toNat) (w32 (((yM h) 84 (((yM h) 170 b.toNat).toNat)) - (max (yWask q (yM h) 1 a.toNat b.toNat c) 0)))) 84 a.toNat) + (max (yWask q (yM h) 1 a.toNat b.toNat c) 0)))) 37 78) (Eq.trans (zs_na (by decide) : (zs (zs (yM h) 84 (((yM h) 170 b.toNat).toNat) (w32 (((yM h) 84 (((yM h) 170 b.toNat).toNat)) - (max (yWask q (yM h) 1 a.toNat b.toNat c) 0)))) 84 a.toNat (w32 (((zs (yM h) 84 (((yM h) 170 b.toNat).toNat) (w32 (((yM h) 84 (((yM h) 170 b.toNat).toNat)) - (max (yWask q (yM h) 1 a.toNat b.toNat c) 0)))) 84 a.toNat) + (max (yWask q (yM h) 1 a.toNat b.toNat c) 0)))) 37 78 = (zs (yM h) 84 (((yM h) 170 b.toNat).toNat) (w32 (((yM h) 84 (((yM h) 170 b.toNat).toNat)) - (max (yWask q (yM h) 1 a.toNat b.toNat c) 0)))) 37 78) (Eq.trans (zs_na (by decide) : (zs (yM h) 84 (((yM h) 170 b.toNat).toNat) (w32 (((yM h) 84 (((yM h) 170 b.toNat).toNat)) - (max (yWask q (yM h) 1 a.toNat b.toNat c) 0)))) 37 78 = (yM h) 37 78) rfl))))))))))))
              refine zwW_p [(0, -1, 0)] (q := 200) (ls' := [(2, 37), (0, a), (0, b), (0, c), (0, v19)]) (st' := [(0, -1), (0, v88), (2, 184)]) (by decide +kernel) rfl ?_
              have ib18 : 0 ≤ v88 ∧ v88 < ((200 : Nat) : Int) := ⟨by omega, by omega⟩
              refine zwW_as Ih87 (a1 := 184) (a2 := 184) (n := 200) (lo := -1) (hi := 7) (nx := 201) (by decide +kernel) ⟨by decide, by decide⟩ ib18 ⟨by decide, by decide⟩ ?_
              intro h89 eh89 Ih89
              have jbh89 : 0 ≤ v88.toNat ∧ v88.toNat < 200 := ⟨Nat.zero_le _, zit ib18⟩
              have th89_37_0 : fld h89 37 0 = fld h87 37 0 := by rw [eh89]; exact fld_wr (Or.inl (by decide))
              have th89_37_1 : fld h89 37 1 = fld h87 37 1 := by rw [eh89]; exact fld_wr (Or.inl (by decide))
              have th89_37_2 : fld h89 37 2 = fld h87 37 2 := by rw [eh89]; exact fld_wr (Or.inl (by decide))
              have th89_37_64 : fld h89 37 64 = fld h87 37 64 := by rw [eh89]; exact fld_wr (Or.inl (by decide))
              have th89_37_78 : fld h89 37 78 = fld h87 37 78 := by rw [eh89]; exact fld_wr (Or.inl (by decide))
              have Vh89 : mRq q h89 := Vh87.fr (zMR.one (a1 := 184) (a2 := 184) (j1 := 0) (j2 := 200) ⟨by decide, by decide⟩ jbh89 eh89) (by decide +kernel)
              have Uh89 : yM h89 = (zs (zs (zs (zs (zs (zs (zs (zs (zs (zs (zs (yM h) 84 (((yM h) 170 b.toNat).toNat) (w32 (((yM h) 84 (((yM h) 170 b.toNat).toNat)) - (max (yWask q (yM h) 1 a.toNat b.toNat c) 0)))) 84 a.toNat (w32 (((zs (yM h) 84 (((yM h) 170 b.toNat).toNat) (w32 (((yM h) 84 (((yM h) 170 b.toNat).toNat)) - (max (yWask q (yM h) 1 a.toNat b.toNat c) 0)))) 84 a.toNat) + (max (yWask q (yM h) 1 a.toNat b.toNat c) 0)))) 92 a.toNat (w32 (((yM h) 92 a.toNat) + c))) 175 b.toNat (w32 (((yM h) 175 b.toNat) - c))) 180 (((yM h) 37 78).toNat) b) 181 (((yM h) 37 78).toNat) a) 182 (((yM h) 37 78).toNat) ((yM h) 37 0)) 183 (((yM h) 37 78).toNat) (c / 2)) 185 (((yM h) 37 78).toNat) 1) 37 70 (w32 (((yM h) 37 70) + c))) 184 (((yM h) 37 78).toNat) (-1)) := by rw [yM_w (a := 184) (n := 200) (i := v88.toNat) (kd := 20) rfl (Ih87.s (a1 := 184) (a2 := 184) (by decide +kernel) (by decide) (by decide)) jbh89.2 eh89, Zh87, sv88]
              have Zh89 : yM h89 = (zs (zs (zs (zs (zs (zs (zs (zs (zs (zs (zs (yM h) 84 (((yM h) 170 b.toNat).toNat) (w32 (((yM h) 84 (((yM h) 170 b.toNat).toNat)) - (max (yWask q (yM h) 1 a.toNat b.toNat c) 0)))) 84 a.toNat (w32 (((zs (yM h) 84 (((yM h) 170 b.toNat).toNat) (w32 (((yM h) 84 (((yM h) 170 b.toNat).toNat)) - (max (yWask q (yM h) 1 a.toNat b.toNat c) 0)))) 84 a.toNat) + (max (yWask q (yM h) 1 a.toNat b.toNat c) 0)))) 92 a.toNat (w32 (((yM h) 92 a.toNat) + c))) 175 b.toNat (w32 (((yM h) 175 b.toNat) - c))) 180 (((yM h) 37 78).toNat) b) 181 (((yM h) 37 78).toNat) a) 182 (((yM h) 37 78).toNat) ((yM h) 37 0)) 183 (((yM h) 37 78).toNat) (c / 2)) 184 (((yM h) 37 78).toNat) (-1)) 185 (((yM h) 37 78).toNat) 1) 37 70 (w32 (((yM h) 37 70) + c))) := by rw [Uh89, zs_sw (a := 37) (b := 184) (by decide), zs_sw (a := 185) (b := 184) (by decide)]
              have Rh89 : zMR ms42 h h89 := Rh87.w (a1 := 184) (a2 := 184) (j1 := 0) (j2 := 200) (by decide +kernel) ⟨by decide, by decide⟩ jbh89 eh89
              refine zwW_p [(1, 0, 2), (12, 0, 0)] (q := 203) (ls' := [(2, 37), (0, a), (0, b), (0, c), (0, v19)]) (st' := [(2, 37), (2, 37)]) (by decide +kernel) rfl ?_
              refine zwW_gs Ih89 (kd := 13) (bn := 78) (n := 97) (t := 0) (lo := 0) (hi := 200) (nx := 206) (by decide +kernel) ?_
              intro v90 ev90 lv90 uv90
              have sv90 : v90 = (yM h) 37 78 := Eq.trans ev90 (Eq.trans (Eq.symm (yM_s (h := h89) (i := 78) rfl)) (Eq.trans (congrFun (congrFun Zh89 37) 78) (Eq.trans (zs_ni (by decide) : (zs (zs (zs (zs (zs (zs (zs (zs (zs (zs (zs (yM h) 84 (((yM h) 170 b.toNat).toNat) (w32 (((yM h) 84 (((yM h) 170 b.toNat).toNat)) - (max (yWask q (yM h) 1 a.toNat b.toNat c) 0)))) 84 a.toNat (w32 (((zs (yM h) 84 (((yM h) 170 b.toNat).toNat) (w32 (((yM h) 84 (((yM h) 170 b.toNat).toNat)) - (max (yWask q (yM h) 1 a.toNat b.toNat c) 0)))) 84 a.toNat) + (max (yWask q (yM h) 1 a.toNat b.toNat c) 0)))) 92 a.toNat (w32 (((yM h) 92 a.toNat) + c))) 175 b.toNat (w32 (((yM h) 175 b.toNat) - c))) 180 (((yM h) 37 78).toNat) b) 181 (((yM h) 37 78).toNat) a) 182 (((yM h) 37 78).toNat) ((yM h) 37 0)) 183 (((yM h) 37 78).toNat) (c / 2)) 184 (((yM h) 37 78).toNat) (-1)) 185 (((yM h) 37 78).toNat) 1) 37 70 (w32 (((yM h) 37 70) + c))) 37 78 = (zs (zs (zs (zs (zs (zs (zs (zs (zs (zs (yM h) 84 (((yM h) 170 b.toNat).toNat) (w32 (((yM h) 84 (((yM h) 170 b.toNat).toNat)) - (max (yWask q (yM h) 1 a.toNat b.toNat c) 0)))) 84 a.toNat (w32 (((zs (yM h) 84 (((yM h) 170 b.toNat).toNat) (w32 (((yM h) 84 (((yM h) 170 b.toNat).toNat)) - (max (yWask q (yM h) 1 a.toNat b.toNat c) 0)))) 84 a.toNat) + (max (yWask q (yM h) 1 a.toNat b.toNat c) 0)))) 92 a.toNat (w32 (((yM h) 92 a.toNat) + c))) 175 b.toNat (w32 (((yM h) 175 b.toNat) - c))) 180 (((yM h) 37 78).toNat) b) 181 (((yM h) 37 78).toNat) a) 182 (((yM h) 37 78).toNat) ((yM h) 37 0)) 183 (((yM h) 37 78).toNat) (c / 2)) 184 (((yM h) 37 78).toNat) (-1)) 185 (((yM h) 37 78).toNat) 1) 37 78) (Eq.trans (zs_na (by decide) : (zs (zs (zs (zs (zs (zs (zs (zs (zs (zs (yM h) 84 (((yM h) 170 b.toNat).toNat) (w32 (((yM h) 84 (((yM h) 170 b.toNat).toNat)) - (max (yWask q (yM h) 1 a.toNat b.toNat c) 0)))) 84 a.toNat (w32 (((zs (yM h) 84 (((yM h) 170 b.toNat).toNat) (w32 (((yM h) 84 (((yM h) 170 b.toNat).toNat)) - (max (yWask q (yM h) 1 a.toNat b.toNat c) 0)))) 84 a.toNat) + (max (yWask q (yM h) 1 a.toNat b.toNat c) 0)))) 92 a.toNat (w32 (((yM h) 92 a.toNat) + c))) 175 b.toNat (w32 (((yM h) 175 b.toNat) - c))) 180 (((yM h) 37 78).toNat) b) 181 (((yM h) 37 78).toNat) a) 182 (((yM h) 37 78).toNat) ((yM h) 37 0)) 183 (((yM h) 37 78).toNat) (c / 2)) 184 (((yM h) 37 78).toNat) (-1)) 185 (((yM h) 37 78).toNat) 1) 37 78 = (zs (zs (zs (zs (zs (zs (zs (zs (zs (yM h) 84 (((yM h) 170 b.toNat).toNat) (w32 (((yM h) 84 (((yM h) 170 b.toNat).toNat)) - (max (yWask q (yM h) 1 a.toNat b.toNat c) 0)))) 84 a.toNat (w32 (((zs (yM h) 84 (((yM h) 170 b.toNat).toNat) (w32 (((yM h) 84 (((yM h) 170 b.toNat).toNat)) - (max (yWask q (yM h) 1 a.toNat b.toNat c) 0)))) 84 a.toNat) + (max (yWask q (yM h) 1 a.toNat b.toNat c) 0)))) 92 a.toNat (w32 (((yM h) 92 a.toNat) + c))) 175 b.toNat (w32 (((yM h) 175 b.toNat) - c))) 180 (((yM h) 37 78).toNat) b) 181 (((yM h) 37 78).toNat) a) 182 (((yM h) 37 78).toNat) ((yM h) 37 0)) 183 (((yM h) 37 78).toNat) (c / 2)) 184 (((yM h) 37 78).toNat) (-1)) 37 78) (Eq.trans (zs_na (by decide) : (zs (zs (zs (zs (zs (zs (zs (zs (zs (yM h) 84 (((yM h) 170 b.toNat).toNat) (w32 (((yM h) 84 (((yM h) 170 b.toNat).toNat)) - (max (yWask q (yM h) 1 a.toNat b.toNat c) 0)))) 84 a.toNat (w32 (((zs (yM h) 84 (((yM h) 170 b.toNat).toNat) (w32 (((yM h) 84 (((yM h) 170 b.toNat).toNat)) - (max (yWask q (yM h) 1 a.toNat b.toNat c) 0)))) 84 a.toNat) + (max (yWask q (yM h) 1 a.toNat b.toNat c) 0)))) 92 a.toNat (w32 (((yM h) 92 a.toNat) + c))) 175 b.toNat (w32 (((yM h) 175 b.toNat) - c))) 180 (((yM h) 37 78).toNat) b) 181 (((yM h) 37 78).toNat) a) 182 (((yM h) 37 78).toNat) ((yM h) 37 0)) 183 (((yM h) 37 78).toNat) (c / 2)) 184 (((yM h) 37 78).toNat) (-1)) 37 78 = (zs (zs (zs (zs (zs (zs (zs (zs (yM h) 84 (((yM h) 170 b.toNat).toNat) (w32 (((yM h) 84 (((yM h) 170 b.toNat).toNat)) - (max (yWask q (yM h) 1 a.toNat b.toNat c) 0)))) 84 a.toNat (w32 (((zs (yM h) 84 (((yM h) 170 b.toNat).toNat) (w32 (((yM h) 84 (((yM h) 170 b.toNat).toNat)) - (max (yWask q (yM h) 1 a.toNat b.toNat c) 0)))) 84 a.toNat) + (max (yWask q (yM h) 1 a.toNat b.toNat c) 0)))) 92 a.toNat (w32 (((yM h) 92 a.toNat) + c))) 175 b.toNat (w32 (((yM h) 175 b.toNat) - c))) 180 (((yM h) 37 78).toNat) b) 181 (((yM h) 37 78).toNat) a) 182 (((yM h) 37 78).toNat) ((yM h) 37 0)) 183 (((yM h) 37 78).toNat) (c / 2)) 37 78) (Eq.trans (zs_na (by decide) : (zs (zs (zs (zs (zs (zs (zs (zs (yM h) 84 (((yM h) 170 b.toNat).toNat) (w32 (((yM h) 84 (((yM h) 170 b.toNat).toNat)) - (max (yWask q (yM h) 1 a.toNat b.toNat c) 0)))) 84 a.toNat (w32 (((zs (yM h) 84 (((yM h) 170 b.toNat).toNat) (w32 (((yM h) 84 (((yM h) 170 b.toNat).toNat)) - (max (yWask q (yM h) 1 a.toNat b.toNat c) 0)))) 84 a.toNat) + (max (yWask q (yM h) 1 a.toNat b.toNat c) 0)))) 92 a.toNat (w32 (((yM h) 92 a.toNat) + c))) 175 b.toNat (w32 (((yM h) 175 b.toNat) - c))) 180 (((yM h) 37 78).toNat) b) 181 (((yM h) 37 78).toNat) a) 182 (((yM h) 37 78).toNat) ((yM h) 37 0)) 183 (((yM h) 37 78).toNat) (c / 2)) 37 78 = (zs (zs (zs (zs (zs (zs (zs (yM h) 84 (((yM h) 170 b.toNat).toNat) (w32 (((yM h) 84 (((yM h) 170 b.toNat).toNat)) - (max (yWask q (yM h) 1 a.toNat b.toNat c) 0)))) 84 a.toNat (w32 (((zs (yM h) 84 (((yM h) 170 b.toNat).toNat) (w32 (((yM h) 84 (((yM h) 170 b.toNat).toNat)) - (max (yWask q (yM h) 1 a.toNat b.toNat c) 0)))) 84 a.toNat) + (max (yWask q (yM h) 1 a.toNat b.toNat c) 0)))) 92 a.toNat (w32 (((yM h) 92 a.toNat) + c))) 175 b.toNat (w32 (((yM h) 175 b.toNat) - c))) 180 (((yM h) 37 78).toNat) b) 181 (((yM h) 37 78).toNat) a) 182 (((yM h) 37 78).toNat) ((yM h) 37 0)) 37 78) (Eq.trans (zs_na (by decide) : (zs (zs (zs (zs (zs (zs (zs (yM h) 84 (((yM h) 170 b.toNat).toNat) (w32 (((yM h) 84 (((yM h) 170 b.toNat).toNat)) - (max (yWask q (yM h) 1 a.toNat b.toNat c) 0)))) 84 a.toNat (w32 (((zs (yM h) 84 (((yM h) 170 b.toNat).toNat) (w32 (((yM h) 84 (((yM h) 170 b.toNat).toNat)) - (max (yWask q (yM h) 1 a.toNat b.toNat c) 0)))) 84 a.toNat) + (max (yWask q (yM h) 1 a.toNat b.toNat c) 0)))) 92 a.toNat (w32 (((yM h) 92 a.toNat) + c))) 175 b.toNat (w32 (((yM h) 175 b.toNat) - c))) 180 (((yM h) 37 78).toNat) b) 181 (((yM h) 37 78).toNat) a) 182 (((yM h) 37 78).toNat) ((yM h) 37 0)) 37 78 = (zs (zs (zs (zs (zs (zs (yM h) 84 (((yM h) 170 b.toNat).toNat) (w32 (((yM h) 84 (((yM h) 170 b.toNat).toNat)) - (max (yWask q (yM h) 1 a.toNat b.toNat c) 0)))) 84 a.toNat (w32 (((zs (yM h) 84 (((yM h) 170 b.toNat).toNat) (w32 (((yM h) 84 (((yM h) 170 b.toNat).toNat)) - (max (yWask q (yM h) 1 a.toNat b.toNat c) 0)))) 84 a.toNat) + (max (yWask q (yM h) 1 a.toNat b.toNat c) 0)))) 92 a.toNat (w32 (((yM h) 92 a.toNat) + c))) 175 b.toNat (w32 (((yM h) 175 b.toNat) - c))) 180 (((yM h) 37 78).toNat) b) 181 (((yM h) 37 78).toNat) a) 37 78) (Eq.trans (zs_na (by decide) : (zs (zs (zs (zs (zs (zs (yM h) 84 (((yM h) 170 b.toNat).toNat) (w32 (((yM h) 84 (((yM h) 170 b.toNat).toNat)) - (max (yWask q (yM h) 1 a.toNat b.toNat c) 0)))) 84 a.toNat (w32 (((zs (yM h) 84 (((yM h) 170 b.toNat).toNat) (w32 (((yM h) 84 (((yM h) 170 b.toNat).toNat)) - (max (yWask q (yM h) 1 a.toNat b.toNat c) 0)))) 84 a.toNat) + (max (yWask q (yM h) 1 a.toNat b.toNat c) 0)))) 92 a.toNat (w32 (((yM h) 92 a.toNat) + c))) 175 b.toNat (w32 (((yM h) 175 b.toNat) - c))) 180 (((yM h) 37 78).toNat) b) 181 (((yM h) 37 78).toNat) a) 37 78 = (zs (zs (zs (zs (zs (yM h) 84 (((yM h) 170 b.toNat).toNat) (w32 (((yM h) 84 (((yM h) 170 b.toNat).toNat)) - (max (yWask q (yM h) 1 a.toNat b.toNat c) 0)))) 84 a.toNat (w32 (((zs (yM h) 84 (((yM h) 170 b.toNat).toNat) (w32 (((yM h) 84 (((yM h) 170 b.toNat).toNat)) - (max (yWask q (yM h) 1 a.toNat b.toNat c) 0)))) 84 a.toNat) + (max (yWask q (yM h) 1 a.toNat b.toNat c) 0)))) 92 a.toNat (w32 (((yM h) 92 a.toNat) + c))) 175 b.toNat (w32 (((yM h) 175 b.toNat) - c))) 180 (((yM h) 37 78).toNat) b) 37 78) (Eq.trans (zs_na (by decide) : (zs (zs (zs (zs (zs (yM h) 84 (((yM h) 170 b.toNat).toNat) (w32 (((yM h) 84 (((yM h) 170 b.toNat).toNat)) - (max (yWask q (yM h) 1 a.toNat b.toNat c) 0)))) 84 a.toNat (w32 (((zs (yM h) 84 (((yM h) 170 b.toNat).toNat) (w32 (((yM h) 84 (((yM h) 170 b.toNat).toNat)) - (max (yWask q (yM h) 1 a.toNat b.toNat c) 0)))) 84 a.toNat) + (max (yWask q (yM h) 1 a.toNat b.toNat c) 0)))) 92 a.toNat (w32 (((yM h) 92 a.toNat) + c))) 175 b.toNat (w32 (((yM h) 175 b.toNat) - c))) 180 (((yM h) 37 78).toNat) b) 37 78 = (zs (zs (zs (zs (yM h) 84 (((yM h) 170 b.toNat).toNat) (w32 (((yM h) 84 (((yM h) 170 b.toNat).toNat)) - (max (yWask q (yM h) 1 a.toNat b.toNat c) 0)))) 84 a.toNat (w32 (((zs (yM h) 84 (((yM h) 170 b.toNat).toNat) (w32 (((yM h) 84 (((yM h) 170 b.toNat).toNat)) - (max (yWask q (yM h) 1 a.toNat b.toNat c) 0)))) 84 a.toNat) + (max (yWask q (yM h) 1 a.toNat b.toNat c) 0)))) 92 a.toNat (w32 (((yM h) 92 a.toNat) + c))) 175 b.toNat (w32 (((yM h) 175 b.toNat) - c))) 37 78) (Eq.trans (zs_na (by decide) : (zs (zs (zs (zs (yM h) 84 (((yM h) 170 b.toNat).toNat) (w32 (((yM h) 84 (((yM h) 170 b.toNat).toNat)) - (max (yWask q (yM h) 1 a.toNat b.toNat c) 0)))) 84 a.toNat (w32 (((zs (yM h) 84 (((yM h) 170 b.toNat).toNat) (w32 (((yM h) 84 (((yM h) 170 b.toNat).toNat)) - (max (yWask q (yM h) 1 a.toNat b.toNat c) 0)))) 84 a.toNat) + (max (yWask q (yM h) 1 a.toNat b.toNat c) 0)))) 92 a.toNat (w32 (((yM h) 92 a.toNat) + c))) 175 b.toNat (w32 (((yM h) 175 b.toNat) - c))) 37 78 = (zs (zs (zs (yM h) 84 (((yM h) 170 b.toNat).toNat) (w32 (((yM h) 84 (((yM h) 170 b.toNat).toNat)) - (max (yWask q (yM h) 1 a.toNat b.toNat c) 0)))) 84 a.toNat (w32 (((zs (yM h) 84 (((yM h) 170 b.toNat).toNat) (w32 (((yM h) 84 (((yM h) 170 b.toNat).toNat)) - (max (yWask q (yM h) 1 a.toNat b.toNat c) 0)))) 84 a.toNat) + (max (yWask q (yM h) 1 a.toNat b.toNat c) 0)))) 92 a.toNat (w32 (((yM h) 92 a.toNat) + c))) 37 78) (Eq.trans (zs_na (by decide) : (zs (zs (zs (yM h) 84 (((yM h) 170 b.toNat).toNat) (w32 (((yM h) 84 (((yM h) 170 b.toNat).toNat)) - (max (yWask q (yM h) 1 a.toNat b.toNat c) 0)))) 84 a.toNat (w32 (((zs (yM h) 84 (((yM h) 170 b.toNat).toNat) (w32 (((yM h) 84 (((yM h) 170 b.toNat).toNat)) - (max (yWask q (yM h) 1 a.toNat b.toNat c) 0)))) 84 a.toNat) + (max (yWask q (yM h) 1 a.toNat b.toNat c) 0)))) 92 a.toNat (w32 (((yM h) 92 a.toNat) + c))) 37 78 = (zs (zs (yM h) 84 (((yM h) 170 b.toNat).toNat) (w32 (((yM h) 84 (((yM h) 170 b.toNat).toNat)) - (max (yWask q (yM h) 1 a.toNat b.toNat c) 0)))) 84 a.toNat (w32 (((zs (yM h) 84 (((yM h) 170 b.toNat).toNat) (w32 (((yM h) 84 (((yM h) 170 b.toNat).toNat)) - (max (yWask q (yM h) 1 a.toNat b.toNat c) 0)))) 84 a.toNat) + (max (yWask q (yM h) 1 a.toNat b.toNat c) 0)))) 37 78) (Eq.trans (zs_na (by decide) : (zs (zs (yM h) 84 (((yM h) 170 b.toNat).toNat) (w32 (((yM h) 84 (((yM h) 170 b.toNat).toNat)) - (max (yWask q (yM h) 1 a.toNat b.toNat c) 0)))) 84 a.toNat (w32 (((zs (yM h) 84 (((yM h) 170 b.toNat).toNat) (w32 (((yM h) 84 (((yM h) 170 b.toNat).toNat)) - (max (yWask q (yM h) 1 a.toNat b.toNat c) 0)))) 84 a.toNat) + (max (yWask q (yM h) 1 a.toNat b.toNat c) 0)))) 37 78 = (zs (yM h) 84 (((yM h) 170 b.toNat).toNat) (w32 (((yM h) 84 (((yM h) 170 b.toNat).toNat)) - (max (yWask q (yM h) 1 a.toNat b.toNat c) 0)))) 37 78) (Eq.trans (zs_na (by decide) : (zs (yM h) 84 (((yM h) 170 b.toNat).toNat) (w32 (((yM h) 84 (((yM h) 170 b.toNat).toNat)) - (max (yWask q (yM h) 1 a.toNat b.toNat c) 0)))) 37 78 = (yM h) 37 78) rfl)))))))))))))
              refine zwW_p [(0, 1, 0)] (q := 207) (ls' := [(2, 37), (0, a), (0, b), (0, c), (0, v19)]) (st' := [(0, 1), (0, v90), (2, 37)]) (by decide +kernel) rfl ?_
              refine zwW_add (nx := 208) (by decide +kernel) ⟨by omega, by omega⟩ ?_
              refine zwW_ps Ih89 (kd := 13) (bn := 78) (n := 97) (lo := 0) (hi := 200) (nx := 211) (by decide +kernel) ⟨by omega, by omega⟩ ?_
              intro h91 eh91 Ih91
              have th91_37_0 : fld h91 37 0 = fld h89 37 0 := by rw [eh91]; exact fld_wr (by decide)
              have th91_37_1 : fld h91 37 1 = fld h89 37 1 := by rw [eh91]; exact fld_wr (by decide)
              have th91_37_2 : fld h91 37 2 = fld h89 37 2 := by rw [eh91]; exact fld_wr (by decide)
              have th91_37_64 : fld h91 37 64 = fld h89 37 64 := by rw [eh91]; exact fld_wr (by decide)
              have th91_37_78 : fld h91 37 78 = (v90 + 1) := by rw [eh91]; exact fld_wr_eq (Ih89.s (a1 := 37) (a2 := 37) (k := 13) (n := 97) (by decide +kernel) (by decide) (by decide)) (by decide)
              have Vh91 : mRq q h91 := Vh89.fr (zMR.one (a1 := 37) (a2 := 37) (j1 := 78) (j2 := 79) ⟨by decide, by decide⟩ ⟨by decide, by decide⟩ eh91) (by decide +kernel)
              have Zh91 : yM h91 = (zs (zs (zs (zs (zs (zs (zs (zs (zs (zs (zs (zs (yM h) 84 (((yM h) 170 b.toNat).toNat) (w32 (((yM h) 84 (((yM h) 170 b.toNat).toNat)) - (max (yWask q (yM h) 1 a.toNat b.toNat c) 0)))) 84 a.toNat (w32 (((zs (yM h) 84 (((yM h) 170 b.toNat).toNat) (w32 (((yM h) 84 (((yM h) 170 b.toNat).toNat)) - (max (yWask q (yM h) 1 a.toNat b.toNat c) 0)))) 84 a.toNat) + (max (yWask q (yM h) 1 a.toNat b.toNat c) 0)))) 92 a.toNat (w32 (((yM h) 92 a.toNat) + c))) 175 b.toNat (w32 (((yM h) 175 b.toNat) - c))) 180 (((yM h) 37 78).toNat) b) 181 (((yM h) 37 78).toNat) a) 182 (((yM h) 37 78).toNat) ((yM h) 37 0)) 183 (((yM h) 37 78).toNat) (c / 2)) 184 (((yM h) 37 78).toNat) (-1)) 185 (((yM h) 37 78).toNat) 1) 37 70 (w32 (((yM h) 37 70) + c))) 37 78 (((yM h) 37 78) + 1)) := by rw [yM_ws (i := 78) (kd := 13) (n := 97) rfl (Ih89.s (a1 := 37) (a2 := 37) (by decide +kernel) (by decide) (by decide)) (by decide) eh91, Zh89, sv90]
              have Rh91 : zMR ms42 h h91 := Rh89.w (a1 := 37) (a2 := 37) (j1 := 78) (j2 := 79) (by decide +kernel) ⟨by decide, by decide⟩ ⟨by decide, by decide⟩ eh91
              refine zwW_p [(1, 0, 2)] (q := 212) (ls' := [(2, 37), (0, a), (0, b), (0, c), (0, v19)]) (st' := [(2, 37)]) (by decide +kernel) rfl ?_
              refine zwW_gs Ih91 (kd := 13) (bn := 78) (n := 97) (t := 0) (lo := 0) (hi := 200) (nx := 215) (by decide +kernel) ?_
              intro v92 ev92 lv92 uv92
              have sv92 : v92 = (((yM h) 37 78) + 1) := Eq.trans ev92 (Eq.trans (Eq.symm (yM_s (h := h91) (i := 78) rfl)) (Eq.trans (congrFun (congrFun Zh91 37) 78) (zs_eq : (zs (zs (zs (zs (zs (zs (zs (zs (zs (zs (zs (zs (yM h) 84 (((yM h) 170 b.toNat).toNat) (w32 (((yM h) 84 (((yM h) 170 b.toNat).toNat)) - (max (yWask q (yM h) 1 a.toNat b.toNat c) 0)))) 84 a.toNat (w32 (((zs (yM h) 84 (((yM h) 170 b.toNat).toNat) (w32 (((yM h) 84 (((yM h) 170 b.toNat).toNat)) - (max (yWask q (yM h) 1 a.toNat b.toNat c) 0)))) 84 a.toNat) + (max (yWask q (yM h) 1 a.toNat b.toNat c) 0)))) 92 a.toNat (w32 (((yM h) 92 a.toNat) + c))) 175 b.toNat (w32 (((yM h) 175 b.toNat) - c))) 180 (((yM h) 37 78).toNat) b) 181 (((yM h) 37 78).toNat) a) 182 (((yM h) 37 78).toNat) ((yM h) 37 0)) 183 (((yM h) 37 78).toNat) (c / 2)) 184 (((yM h) 37 78).toNat) (-1)) 185 (((yM h) 37 78).toNat) 1) 37 70 (w32 (((yM h) 37 70) + c))) 37 78 (((yM h) 37 78) + 1)) 37 78 = (((yM h) 37 78) + 1))))
              refine zwW_p [(0, 1, 0)] (q := 216) (ls' := [(2, 37), (0, a), (0, b), (0, c), (0, v19)]) (st' := [(0, 1), (0, v92)]) (by decide +kernel) rfl ?_
              refine zwW_sub (nx := 217) (by decide +kernel) ⟨by omega, by omega⟩ ?_
              refine zwW_ret (nx := 218) (a := 0) (b := 0) (by decide +kernel) rfl (Or.inl rfl) ?_
              exact ⟨Ih91, Rh91, by omega, by unfold yWvA; (repeat' (first | rw [if_pos (by omega)] | rw [if_neg (by omega)])); all_goals (first | rfl | omega), by refine Eq.trans Zh91 ?_; unfold yWvF yWvS; (try rw [show yWask q (yM h) 4 a.toNat b.toNat c = q 4 (yM h 37 0) (yWN (yM h) a.toNat b.toNat c) from rfl]); (repeat' (first | rw [if_pos (by omega)] | rw [if_neg (by omega)])); all_goals (repeat' (first | rfl | omega | apply zs_cg))⟩
          · refine zwW_p [(0, -1, 0)] (q := 41) (ls' := [(2, 37), (0, a), (0, b), (0, c), (9, 0)]) (st' := [(0, -1)]) (by decide +kernel) rfl ?_
            refine zwW_ret (nx := 42) (a := 0) (b := 0) (by decide +kernel) rfl (Or.inl rfl) ?_
            exact ⟨Ih11, Rh11, by omega, by unfold yWvA; (repeat' (first | rw [if_pos (by omega)] | rw [if_neg (by omega)])); all_goals (first | rfl | omega), by refine Eq.trans Zh11 ?_; unfold yWvF yWvS; (try rw [show yWask q (yM h) 4 a.toNat b.toNat c = q 4 (yM h 37 0) (yWN (yM h) a.toNat b.toNat c) from rfl]); (repeat' (first | rw [if_pos (by omega)] | rw [if_neg (by omega)])); all_goals (repeat' (first | rfl | omega | apply zs_cg))⟩
  · refine zwif_eq (q := 40) (nx := 10) (by decide +kernel) (fun c93 => ?_) (fun c93 => ?_)
    · refine zwW_p [(0, -1, 0)] (q := 41) (ls' := [(2, 37), (0, a), (0, b), (0, c), (9, 0)]) (st' := [(0, -1)]) (by decide +kernel) rfl ?_
      refine zwW_ret (nx := 42) (a := 0) (b := 0) (by decide +kernel) rfl (Or.inl rfl) ?_
      exact ⟨I, R, by omega, by unfold yWvA; (repeat' (first | rw [if_pos (by omega)] | rw [if_neg (by omega)])); all_goals (first | rfl | omega), by refine Eq.trans (rfl : yM h = yM h) ?_; unfold yWvF yWvS; (try rw [show yWask q (yM h) 4 a.toNat b.toNat c = q 4 (yM h 37 0) (yWN (yM h) a.toNat b.toNat c) from rfl]); (repeat' (first | rw [if_pos (by omega)] | rw [if_neg (by omega)])); all_goals (repeat' (first | rfl | omega | apply zs_cg))⟩
    · exfalso; omega
-- WheelLandModel.bring(II)I
theorem m52_z {sc : List Int} (h : Hp) (I : zI h) (a b : Int) (ok : yOK (yM h)) (RM : yRm (yM h)) (hB : ∀ u : Nat, (u : Int) < yM h 37 78 → 0 ≤ yM h 181 u ∧ yM h 181 u < yM h 37 2) (hR : zRO h) : zwC sc 3 52 [(2, 37), (0, a), (0, b)] h (zwRt 0 (fun x g => zI g ∧ zMR ms52 h g ∧ (-2147483648 ≤ x ∧ x ≤ 2147483647) ∧ (x = yBrA (yM h) a b) ∧ (yM g = yBrF (yM h) a b))) := by
  refine zwC_of (D := 2) 3 (by decide +kernel) rfl (ls := [(2, 37), (0, a), (0, b)]) rfl ?_
  have R : zMR ms52 h h := zMR.rf _ _
  have u0 : yM h 37 0 = fld h 37 0 := rfl
  have u1 : yM h 37 1 = fld h 37 1 := rfl
  have u2 : yM h 37 2 = fld h 37 2 := rfl
  have u64 : yM h 37 64 = fld h 37 64 := rfl
  have u78 : yM h 37 78 = fld h 37 78 := rfl
  refine zwW_p [(1, 0, 2), (1, 1, 0)] (q := 2) (ls' := [(2, 37), (0, a), (0, b)]) (st' := [(0, a), (2, 37)]) (by decide +kernel) rfl ?_
  refine zwW_cm I (op := 60) (k' := 139) (n := 1) (kd := 13) (m := 97) (nx := 5) (r := 37) (tl := [(0, a)]) (st' := []) (by decide +kernel) rfl (by decide +kernel) rfl (m139 h I a) ?_
  rintro x _ ⟨rfl, ⟨rfl, c1⟩ | ⟨rfl, c1⟩⟩
  · refine zwif_eq (q := 72) (nx := 8) (by decide +kernel) (fun c2 => ?_) (fun c2 => ?_)
    · exfalso; omega
    · refine zwW_p [(1, 0, 2), (1, 2, 0)] (q := 10) (ls' := [(2, 37), (0, a), (0, b)]) (st' := [(0, b), (2, 37)]) (by decide +kernel) rfl ?_
      refine zwW_cm I (op := 60) (k' := 104) (n := 1) (kd := 13) (m := 97) (nx := 13) (r := 37) (tl := [(0, b)]) (st' := []) (by decide +kernel) rfl (by decide +kernel) rfl (m104 h I b) ?_
      rintro x _ ⟨rfl, ⟨rfl, c3⟩ | ⟨rfl, c3⟩⟩
      · refine zwif_eq (q := 72) (nx := 16) (by decide +kernel) (fun c4 => ?_) (fun c4 => ?_)
        · exfalso; omega
        · have N1 := I.b (a1 := 37) (a2 := 37) (j1 := 1) (j2 := 2) (lo := 0) (hi := 8) (by decide +kernel) (r := 37) (j := 1) (by decide) (by decide) (by decide) (by decide)
          have KC := hB a.toNat (by show _ < fld h 37 78; omega)
          have KH := ok.ho (k := (yM h 181 a.toNat).toNat) (by omega)
          refine zwW_p [(1, 0, 2)] (q := 17) (ls' := [(2, 37), (0, a), (0, b)]) (st' := [(2, 37)]) (by decide +kernel) rfl ?_
          refine zwW_gc I (kd := 13) (bn := 76) (n := 97) (c := 184) (nx := 20) (by decide +kernel) ?_
          refine zwW_p [(1, 1, 0)] (q := 21) (ls' := [(2, 37), (0, a), (0, b)]) (st' := [(0, a), (2, 184)]) (by decide +kernel) rfl ?_
          have ib1 : 0 ≤ a ∧ a < ((200 : Nat) : Int) := ⟨by omega, by omega⟩
          refine zwW_al I (a1 := 184) (a2 := 184) (kd := 20) (n := 200) (t := 0) (lo := -1) (hi := 7) (nx := 22) (by decide +kernel) ⟨by decide, by decide⟩ ib1 ?_
          intro v5 ev5 lv5 uv5
          have sv5 : v5 = (yM h) 184 a.toNat := Eq.trans ev5 (Eq.trans (Eq.symm (yM_p (h := h) (a := 184) (n := 200) (i := a.toNat) rfl (zit ib1))) (Eq.trans (congrFun (congrFun (rfl : yM h = yM h) 184) a.toNat) rfl))
          refine zwW_p [(0, -1, 0)] (q := 23) (ls' := [(2, 37), (0, a), (0, b)]) (st' := [(0, -1), (0, v5)]) (by decide +kernel) rfl ?_
          refine zwic_ne (q := 72) (nx := 26) (by decide +kernel) (fun c6 => ?_) (fun c6 => ?_)
          · refine zwW_p [(0, -1, 0)] (q := 73) (ls' := [(2, 37), (0, a), (0, b)]) (st' := [(0, -1)]) (by decide +kernel) rfl ?_
            refine zwW_ret (nx := 74) (a := 0) (b := 0) (by decide +kernel) rfl (Or.inl rfl) ?_
            exact ⟨I, R, by omega, by first | (exfalso; omega) | (unfold yBrA; rw [if_neg (by omega)]; done) | (unfold yBrA; rw [if_pos (by omega)]; unfold yBrS; (repeat' (first | rw [if_pos (by omega)] | rw [if_neg (by omega)])); all_goals (try simp (disch := decide) only [zs_na, zs_eq]); all_goals (first | rfl | omega)), by first | (exfalso; omega) | (refine Eq.trans (rfl : yM h = yM h) ?_; unfold yBrF; rw [if_neg (by omega)]; done) | (refine Eq.trans (rfl : yM h = yM h) ?_; unfold yBrF; rw [if_pos (by omega)]; unfold yBrS; (repeat' (first | rw [if_pos (by omega)] | rw [if_neg (by omega)])); all_goals (repeat' (first | rfl | omega | apply zs_cg)))⟩
          · refine zwW_p [(1, 0, 2), (1, 0, 2)] (q := 28) (ls' := [(2, 37), (0, a), (0, b)]) (st' := [(2, 37), (2, 37)]) (by decide +kernel) rfl ?_
            refine zwW_gc I (kd := 13) (bn := 20) (n := 97) (c := 79) (nx := 31) (by decide +kernel) ?_
            refine zwW_p [(1, 0, 2)] (q := 32) (ls' := [(2, 37), (0, a), (0, b)]) (st' := [(2, 37), (2, 79), (2, 37)]) (by decide +kernel) rfl ?_
            refine zwW_gc I (kd := 13) (bn := 73) (n := 97) (c := 181) (nx := 35) (by decide +kernel) ?_
            refine zwW_p [(1, 1, 0)] (q := 36) (ls' := [(2, 37), (0, a), (0, b)]) (st' := [(0, a), (2, 181), (2, 79), (2, 37)]) (by decide +kernel) rfl ?_
            refine zwW_al I (a1 := 181) (a2 := 181) (kd := 20) (n := 200) (t := 0) (lo := 0) (hi := 19) (nx := 37) (by decide +kernel) ⟨by decide, by decide⟩ ib1 ?_
            intro v7 ev7 lv7 uv7
            have sv7 : v7 = (yM h) 181 a.toNat := Eq.trans ev7 (Eq.trans (Eq.symm (yM_p (h := h) (a := 181) (n := 200) (i := a.toNat) rfl (zit ib1))) (Eq.trans (congrFun (congrFun (rfl : yM h = yM h) 181) a.toNat) rfl))
            have ib2 : 0 ≤ v7 ∧ v7 < ((20 : Nat) : Int) := ⟨by omega, by omega⟩
            refine zwW_al I (a1 := 79) (a2 := 79) (kd := 20) (n := 20) (t := 0) (lo := 0) (hi := 7) (nx := 38) (by decide +kernel) ⟨by decide, by decide⟩ ib2 ?_
            intro v8 ev8 lv8 uv8
            have sv8 : v8 = (yM h) 79 (((yM h) 181 a.toNat).toNat) := Eq.trans ev8 (Eq.trans (Eq.symm (yM_p (h := h) (a := 79) (n := 20) (i := v7.toNat) rfl (zit ib2))) (Eq.trans (congrArg (yM h 79) (show v7.toNat = ((yM h) 181 a.toNat).toNat by rw [sv7])) (Eq.trans (congrFun (congrFun (rfl : yM h = yM h) 79) (((yM h) 181 a.toNat).toNat)) rfl)))
            refine zwW_p [(1, 2, 0)] (q := 39) (ls' := [(2, 37), (0, a), (0, b)]) (st' := [(0, b), (0, v8), (2, 37)]) (by decide +kernel) rfl ?_
            have Z39 := (rfl : yM h = yM h)
            refine zwW_cm I (op := 60) (k' := 106) (n := 2) (kd := 13) (m := 97) (nx := 42) (r := 37) (tl := [(0, v8), (0, b)]) (st' := []) (by decide +kernel) rfl (by decide +kernel) rfl (m106_f h I v8 b (by omega) (by omega) hR ⟨by omega, by omega⟩ (by omega)) ?_
            rintro v9 h14 ⟨Ih14, Qh14, f10, f11, f12, f13⟩
            have Rh14 : zMR ms52 h h14 := R.tr Qh14 (by decide +kernel)
            have th14_37_1 : fld h14 37 1 = fld h 37 1 := Qh14.f (a1 := 37) (a2 := 37) (j1 := 1) (j2 := 2) (by decide +kernel) ⟨by decide, by decide⟩ ⟨by decide, by decide⟩
            have Zh14 : yM h14 = (yM h) := (yM_fr Qh14 (by decide +kernel) (I.b (a1 := 37) (a2 := 37) (j1 := 86) (j2 := 87) (lo := 0) (hi := 6) (by decide +kernel) (r := 37) (j := 86) (by decide) (by decide) (by decide) (by decide)).2).trans (rfl : yM h = yM h)
            have A39 : v9 = yFarq (yM h) (yM h 79 (yM h 181 a.toNat).toNat).toNat b.toNat := by
              have z := f13
              rw [z, yFq_m (by omega) (by omega), Z39, sv8]
            refine zwW_p [(0, -1, 0)] (q := 43) (ls' := [(2, 37), (0, a), (0, b)]) (st' := [(0, -1), (0, v9)]) (by decide +kernel) rfl ?_
            refine zwic_eq (q := 72) (nx := 46) (by decide +kernel) (fun c15 => ?_) (fun c15 => ?_)
            · refine zwW_p [(0, -1, 0)] (q := 73) (ls' := [(2, 37), (0, a), (0, b)]) (st' := [(0, -1)]) (by decide +kernel) rfl ?_
              refine zwW_ret (nx := 74) (a := 0) (b := 0) (by decide +kernel) rfl (Or.inl rfl) ?_
              exact ⟨Ih14, Rh14, by omega, by first | (exfalso; omega) | (unfold yBrA; rw [if_neg (by omega)]; done) | (unfold yBrA; rw [if_pos (by omega)]; unfold yBrS; (repeat' (first | rw [if_pos (by omega)] | rw [if_neg (by omega)])); all_goals (try simp (disch := decide) only [zs_na, zs_eq]); all_goals (first | rfl | omega)), by first | (exfalso; omega) | (refine Eq.trans Zh14 ?_; unfold yBrF; rw [if_neg (by omega)]; done) | (refine Eq.trans Zh14 ?_; unfold yBrF; rw [if_pos (by omega)]; unfold yBrS; (repeat' (first | rw [if_pos (by omega)] | rw [if_neg (by omega)])); all_goals (repeat' (first | rfl | omega | apply zs_cg)))⟩
            · have RM46 := RM a.toNat b.toNat (by show _ < fld h 37 78; omega) (by show _ < fld h 37 1; omega) (by omega)
              have W46 : w32 (yM h 67 b.toNat + yM h 68 b.toNat) = yM h 67 b.toNat + yM h 68 b.toNat := w32_id ⟨by omega, by omega⟩
              have W47 : w32 (yM h 67 b.toNat + yM h 68 b.toNat + yM h 183 a.toNat) = yM h 67 b.toNat + yM h 68 b.toNat + yM h 183 a.toNat := w32_id ⟨by omega, by omega⟩
              have W48 : w32 (w32 (yM h 67 b.toNat + yM h 68 b.toNat) + yM h 183 a.toNat) = yM h 67 b.toNat + yM h 68 b.toNat + yM h 183 a.toNat := by rw [W46, W47]
              refine zwW_p [(1, 0, 2)] (q := 47) (ls' := [(2, 37), (0, a), (0, b)]) (st' := [(2, 37)]) (by decide +kernel) rfl ?_
              refine zwW_gc Ih14 (kd := 13) (bn := 8) (n := 97) (c := 67) (nx := 50) (by decide +kernel) ?_
              refine zwW_p [(1, 2, 0)] (q := 51) (ls' := [(2, 37), (0, a), (0, b)]) (st' := [(0, b), (2, 67)]) (by decide +kernel) rfl ?_
              have ib3 : 0 ≤ b ∧ b < ((8 : Nat) : Int) := ⟨by omega, by omega⟩
              refine zwW_al Ih14 (a1 := 67) (a2 := 67) (kd := 20) (n := 8) (t := 0) (lo := -2147483648) (hi := 2147483647) (nx := 52) (by decide +kernel) ⟨by decide, by decide⟩ ib3 ?_
              intro v16 ev16 lv16 uv16
              have sv16 : v16 = (yM h) 67 b.toNat := Eq.trans ev16 (Eq.trans (Eq.symm (yM_p (h := h14) (a := 67) (n := 8) (i := b.toNat) rfl (zit ib3))) (Eq.trans (congrFun (congrFun Zh14 67) b.toNat) rfl))
              refine zwW_p [(1, 0, 2)] (q := 53) (ls' := [(2, 37), (0, a), (0, b)]) (st' := [(2, 37), (0, v16)]) (by decide +kernel) rfl ?_
              refine zwW_gc Ih14 (kd := 13) (bn := 9) (n := 97) (c := 68) (nx := 56) (by decide +kernel) ?_
              refine zwW_p [(1, 2, 0)] (q := 57) (ls' := [(2, 37), (0, a), (0, b)]) (st' := [(0, b), (2, 68), (0, v16)]) (by decide +kernel) rfl ?_
              refine zwW_al Ih14 (a1 := 68) (a2 := 68) (kd := 20) (n := 8) (t := 0) (lo := -2147483648) (hi := 2147483647) (nx := 58) (by decide +kernel) ⟨by decide, by decide⟩ ib3 ?_
              intro v17 ev17 lv17 uv17
              have sv17 : v17 = (yM h) 68 b.toNat := Eq.trans ev17 (Eq.trans (Eq.symm (yM_p (h := h14) (a := 68) (n := 8) (i := b.toNat) rfl (zit ib3))) (Eq.trans (congrFun (congrFun Zh14 68) b.toNat) rfl))
              refine zwW_adw (nx := 59) (by decide +kernel) ?_
              intro v18 ev18 lv18 uv18
              have Ev18 : v18 = w32 (((yM h) 67 b.toNat) + ((yM h) 68 b.toNat)) := by rw [ev18, sv16, sv17]
              refine zwW_p [(1, 0, 2)] (q := 60) (ls' := [(2, 37), (0, a), (0, b)]) (st' := [(2, 37), (0, v18)]) (by decide +kernel) rfl ?_
              refine zwW_gc Ih14 (kd := 13) (bn := 75) (n := 97) (c := 183) (nx := 63) (by decide +kernel) ?_
              refine zwW_p [(1, 1, 0)] (q := 64) (ls' := [(2, 37), (0, a), (0, b)]) (st' := [(0, a), (2, 183), (0, v18)]) (by decide +kernel) rfl ?_
              refine zwW_al Ih14 (a1 := 183) (a2 := 183) (kd := 20) (n := 200) (t := 0) (lo := -2147483648) (hi := 2147483647) (nx := 65) (by decide +kernel) ⟨by decide, by decide⟩ ib1 ?_
              intro v19 ev19 lv19 uv19
              have sv19 : v19 = (yM h) 183 a.toNat := Eq.trans ev19 (Eq.trans (Eq.symm (yM_p (h := h14) (a := 183) (n := 200) (i := a.toNat) rfl (zit ib1))) (Eq.trans (congrFun (congrFun Zh14 183) a.toNat) rfl))
              refine zwW_adw (nx := 66) (by decide +kernel) ?_
              intro v20 ev20 lv20 uv20
              have Ev20 : v20 = w32 ((w32 (((yM h) 67 b.toNat) + ((yM h) 68 b.toNat))) + ((yM h) 183 a.toNat)) := by rw [ev20, Ev18, sv19]
              refine zwW_p [(0, 9999, 0)] (q := 69) (ls' := [(2, 37), (0, a), (0, b)]) (st' := [(0, 9999), (0, v20)]) (by decide +kernel) rfl ?_
              refine zwic_le (q := 74) (nx := 72) (by decide +kernel) (fun c21 => ?_) (fun c21 => ?_)
              · refine zwW_p [(1, 0, 2)] (q := 75) (ls' := [(2, 37), (0, a), (0, b)]) (st' := [(2, 37)]) (by decide +kernel) rfl ?_
                refine zwW_gc Ih14 (kd := 13) (bn := 76) (n := 97) (c := 184) (nx := 78) (by decide +kernel) ?_
                refine zwW_p [(1, 1, 0), (1, 2, 0)] (q := 80) (ls' := [(2, 37), (0, a), (0, b)]) (st' := [(0, b), (0, a), (2, 184)]) (by decide +kernel) rfl ?_
                refine zwW_as Ih14 (a1 := 184) (a2 := 184) (n := 200) (lo := -1) (hi := 7) (nx := 81) (by decide +kernel) ⟨by decide, by decide⟩ ib1 ⟨by omega, by omega⟩ ?_
                intro h22 eh22 Ih22
                have jbh22 : 0 ≤ a.toNat ∧ a.toNat < 200 := ⟨Nat.zero_le _, zit ib1⟩
                have th22_37_1 : fld h22 37 1 = fld h14 37 1 := by rw [eh22]; exact fld_wr (Or.inl (by decide))
                have Zh22 : yM h22 = (zs (yM h) 184 a.toNat b) := by rw [yM_w (a := 184) (n := 200) (i := a.toNat) (kd := 20) rfl (Ih14.s (a1 := 184) (a2 := 184) (by decide +kernel) (by decide) (by decide)) jbh22.2 eh22, Zh14]
                have Rh22 : zMR ms52 h h22 := Rh14.w (a1 := 184) (a2 := 184) (j1 := 0) (j2 := 200) (by decide +kernel) ⟨by decide, by decide⟩ jbh22 eh22
                refine zwW_p [(1, 0, 2)] (q := 82) (ls' := [(2, 37), (0, a), (0, b)]) (st' := [(2, 37)]) (by decide +kernel) rfl ?_
                refine zwW_gc Ih22 (kd := 13) (bn := 77) (n := 97) (c := 185) (nx := 85) (by decide +kernel) ?_
                refine zwW_p [(1, 1, 0)] (q := 86) (ls' := [(2, 37), (0, a), (0, b)]) (st' := [(0, a), (2, 185)]) (by decide +kernel) rfl ?_
                refine zwW_al Ih22 (a1 := 185) (a2 := 185) (kd := 22) (n := 200) (t := 0) (lo := 0) (hi := 1) (nx := 87) (by decide +kernel) ⟨by decide, by decide⟩ ib1 ?_
                intro v23 ev23 lv23 uv23
                have sv23 : v23 = (yM h) 185 a.toNat := Eq.trans ev23 (Eq.trans (Eq.symm (yM_p (h := h22) (a := 185) (n := 200) (i := a.toNat) rfl (zit ib1))) (Eq.trans (congrFun (congrFun Zh22 185) a.toNat) (Eq.trans (zs_na (by decide) : (zs (yM h) 184 a.toNat b) 185 a.toNat = (yM h) 185 a.toNat) rfl)))
                refine zwif_eq (q := 123) (nx := 90) (by decide +kernel) (fun c24 => ?_) (fun c24 => ?_)
                · refine zwW_p [(1, 0, 2)] (q := 124) (ls' := [(2, 37), (0, a), (0, b)]) (st' := [(2, 37)]) (by decide +kernel) rfl ?_
                  refine zwW_gc Ih22 (kd := 13) (bn := 9) (n := 97) (c := 68) (nx := 127) (by decide +kernel) ?_
                  refine zwW_p [(1, 2, 0), (14, 0, 0)] (q := 129) (ls' := [(2, 37), (0, a), (0, b)]) (st' := [(0, b), (2, 68), (0, b), (2, 68)]) (by decide +kernel) rfl ?_
                  refine zwW_al Ih22 (a1 := 68) (a2 := 68) (kd := 20) (n := 8) (t := 0) (lo := -2147483648) (hi := 2147483647) (nx := 130) (by decide +kernel) ⟨by decide, by decide⟩ ib3 ?_
                  intro v25 ev25 lv25 uv25
                  have sv25 : v25 = (yM h) 68 b.toNat := Eq.trans ev25 (Eq.trans (Eq.symm (yM_p (h := h22) (a := 68) (n := 8) (i := b.toNat) rfl (zit ib3))) (Eq.trans (congrFun (congrFun Zh22 68) b.toNat) (Eq.trans (zs_na (by decide) : (zs (yM h) 184 a.toNat b) 68 b.toNat = (yM h) 68 b.toNat) rfl)))
                  refine zwW_p [(1, 0, 2)] (q := 131) (ls' := [(2, 37), (0, a), (0, b)]) (st' := [(2, 37), (0, v25), (0, b), (2, 68)]) (by decide +kernel) rfl ?_
                  refine zwW_gc Ih22 (kd := 13) (bn := 75) (n := 97) (c := 183) (nx := 134) (by decide +kernel) ?_
                  refine zwW_p [(1, 1, 0)] (q := 135) (ls' := [(2, 37), (0, a), (0, b)]) (st' := [(0, a), (2, 183), (0, v25), (0, b), (2, 68)]) (by decide +kernel) rfl ?_
                  refine zwW_al Ih22 (a1 := 183) (a2 := 183) (kd := 20) (n := 200) (t := 0) (lo := -2147483648) (hi := 2147483647) (nx := 136) (by decide +kernel) ⟨by decide, by decide⟩ ib1 ?_
                  intro v26 ev26 lv26 uv26
                  have sv26 : v26 = (yM h) 183 a.toNat := Eq.trans ev26 (Eq.trans (Eq.symm (yM_p (h := h22) (a := 183) (n := 200) (i := a.toNat) rfl (zit ib1))) (Eq.trans (congrFun (congrFun Zh22 183) a.toNat) (Eq.trans (zs_na (by decide) : (zs (yM h) 184 a.toNat b) 183 a.toNat = (yM h) 183 a.toNat) rfl)))
                  refine zwW_adw (nx := 137) (by decide +kernel) ?_
                  intro v27 ev27 lv27 uv27
                  have Ev27 : v27 = w32 (((yM h) 68 b.toNat) + ((yM h) 183 a.toNat)) := by rw [ev27, sv25, sv26]
                  refine zwW_as Ih22 (a1 := 68) (a2 := 68) (n := 8) (lo := -2147483648) (hi := 2147483647) (nx := 138) (by decide +kernel) ⟨by decide, by decide⟩ ib3 ⟨by omega, by omega⟩ ?_
                  intro h28 eh28 Ih28
                  have jbh28 : 0 ≤ b.toNat ∧ b.toNat < 8 := ⟨Nat.zero_le _, zit ib3⟩
                  have th28_37_1 : fld h28 37 1 = fld h22 37 1 := by rw [eh28]; exact fld_wr (Or.inl (by decide))
                  have Uh28 : yM h28 = (zs (zs (yM h) 184 a.toNat b) 68 b.toNat (w32 (((yM h) 68 b.toNat) + ((yM h) 183 a.toNat)))) := by rw [yM_w (a := 68) (n := 8) (i := b.toNat) (kd := 20) rfl (Ih22.s (a1 := 68) (a2 := 68) (by decide +kernel) (by decide) (by decide)) jbh28.2 eh28, Zh22, Ev27]
                  have Zh28 : yM h28 = (zs (zs (yM h) 68 b.toNat (w32 (((yM h) 68 b.toNat) + ((yM h) 183 a.toNat)))) 184 a.toNat b) := by rw [Uh28, zs_sw (a := 184) (b := 68) (by decide)]
                  have Rh28 : zMR ms52 h h28 := Rh22.w (a1 := 68) (a2 := 68) (j1 := 0) (j2 := 8) (by decide +kernel) ⟨by decide, by decide⟩ jbh28 eh28
                  refine zwW_p [(1, 0, 2)] (q := 139) (ls' := [(2, 37), (0, a), (0, b)]) (st' := [(2, 37)]) (by decide +kernel) rfl ?_
                  refine zwW_gc Ih28 (kd := 13) (bn := 8) (n := 97) (c := 67) (nx := 142) (by decide +kernel) ?_
                  refine zwW_p [(1, 2, 0)] (q := 143) (ls' := [(2, 37), (0, a), (0, b)]) (st' := [(0, b), (2, 67)]) (by decide +kernel) rfl ?_
                  refine zwW_al Ih28 (a1 := 67) (a2 := 67) (kd := 20) (n := 8) (t := 0) (lo := -2147483648) (hi := 2147483647) (nx := 144) (by decide +kernel) ⟨by decide, by decide⟩ ib3 ?_
                  intro v29 ev29 lv29 uv29
                  have sv29 : v29 = (yM h) 67 b.toNat := Eq.trans ev29 (Eq.trans (Eq.symm (yM_p (h := h28) (a := 67) (n := 8) (i := b.toNat) rfl (zit ib3))) (Eq.trans (congrFun (congrFun Zh28 67) b.toNat) (Eq.trans (zs_na (by decide) : (zs (zs (yM h) 68 b.toNat (w32 (((yM h) 68 b.toNat) + ((yM h) 183 a.toNat)))) 184 a.toNat b) 67 b.toNat = (zs (yM h) 68 b.toNat (w32 (((yM h) 68 b.toNat) + ((yM h) 183 a.toNat)))) 67 b.toNat) (Eq.trans (zs_na (by decide) : (zs (yM h) 68 b.toNat (w32 (((yM h) 68 b.toNat) + ((yM h) 183 a.toNat)))) 67 b.toNat = (yM h) 67 b.toNat) rfl))))
                  refine zwW_p [(1, 0, 2)] (q := 145) (ls' := [(2, 37), (0, a), (0, b)]) (st' := [(2, 37), (0, v29)]) (by decide +kernel) rfl ?_
                  refine zwW_gc Ih28 (kd := 13) (bn := 9) (n := 97) (c := 68) (nx := 148) (by decide +kernel) ?_
                  refine zwW_p [(1, 2, 0)] (q := 149) (ls' := [(2, 37), (0, a), (0, b)]) (st' := [(0, b), (2, 68), (0, v29)]) (by decide +kernel) rfl ?_
                  refine zwW_al Ih28 (a1 := 68) (a2 := 68) (kd := 20) (n := 8) (t := 0) (lo := -2147483648) (hi := 2147483647) (nx := 150) (by decide +kernel) ⟨by decide, by decide⟩ ib3 ?_
                  intro v30 ev30 lv30 uv30
                  have sv30 : v30 = (w32 (((yM h) 68 b.toNat) + ((yM h) 183 a.toNat))) := Eq.trans ev30 (Eq.trans (Eq.symm (yM_p (h := h28) (a := 68) (n := 8) (i := b.toNat) rfl (zit ib3))) (Eq.trans (congrFun (congrFun Zh28 68) b.toNat) (Eq.trans (zs_na (by decide) : (zs (zs (yM h) 68 b.toNat (w32 (((yM h) 68 b.toNat) + ((yM h) 183 a.toNat)))) 184 a.toNat b) 68 b.toNat = (zs (yM h) 68 b.toNat (w32 (((yM h) 68 b.toNat) + ((yM h) 183 a.toNat)))) 68 b.toNat) (zs_eq : (zs (yM h) 68 b.toNat (w32 (((yM h) 68 b.toNat) + ((yM h) 183 a.toNat)))) 68 b.toNat = (w32 (((yM h) 68 b.toNat) + ((yM h) 183 a.toNat)))))))
                  refine zwW_adw (nx := 151) (by decide +kernel) ?_
                  intro v31 ev31 lv31 uv31
                  have Ev31 : v31 = w32 (((yM h) 67 b.toNat) + (w32 (((yM h) 68 b.toNat) + ((yM h) 183 a.toNat)))) := by rw [ev31, sv29, sv30]
                  refine zwW_ret (nx := 152) (a := 0) (b := 0) (by decide +kernel) rfl (Or.inl rfl) ?_
                  exact ⟨Ih28, Rh28, by omega, by first | (exfalso; omega) | (unfold yBrA; rw [if_neg (by omega)]; done) | (unfold yBrA; rw [if_pos (by omega)]; unfold yBrS; (repeat' (first | rw [if_pos (by omega)] | rw [if_neg (by omega)])); all_goals (try simp (disch := decide) only [zs_na, zs_eq]); all_goals (first | rfl | omega)), by first | (exfalso; omega) | (refine Eq.trans Zh28 ?_; unfold yBrF; rw [if_neg (by omega)]; done) | (refine Eq.trans Zh28 ?_; unfold yBrF; rw [if_pos (by omega)]; unfold yBrS; (repeat' (first | rw [if_pos (by omega)] | rw [if_neg (by omega)])); all_goals (repeat' (first | rfl | omega | apply zs_cg)))⟩
                · refine zwW_p [(1, 0, 2)] (q := 91) (ls' := [(2, 37), (0, a), (0, b)]) (st' := [(2, 37)]) (by decide +kernel) rfl ?_
                  refine zwW_gc Ih22 (kd := 13) (bn := 8) (n := 97) (c := 67) (nx := 94) (by decide +kernel) ?_
                  refine zwW_p [(1, 2, 0), (14, 0, 0)] (q := 96) (ls' := [(2, 37), (0, a), (0, b)]) (st' := [(0, b), (2, 67), (0, b), (2, 67)]) (by decide +kernel) rfl ?_
                  refine zwW_al Ih22 (a1 := 67) (a2 := 67) (kd := 20) (n := 8) (t := 0) (lo := -2147483648) (hi := 2147483647) (nx := 97) (by decide +kernel) ⟨by decide, by decide⟩ ib3 ?_
                  intro v32 ev32 lv32 uv32
                  have sv32 : v32 = (yM h) 67 b.toNat := Eq.trans ev32 (Eq.trans (Eq.symm (yM_p (h := h22) (a := 67) (n := 8) (i := b.toNat) rfl (zit ib3))) (Eq.trans (congrFun (congrFun Zh22 67) b.toNat) (Eq.trans (zs_na (by decide) : (zs (yM h) 184 a.toNat b) 67 b.toNat = (yM h) 67 b.toNat) rfl)))
                  refine zwW_p [(1, 0, 2)] (q := 98) (ls' := [(2, 37), (0, a), (0, b)]) (st' := [(2, 37), (0, v32), (0, b), (2, 67)]) (by decide +kernel) rfl ?_
                  refine zwW_gc Ih22 (kd := 13) (bn := 75) (n := 97) (c := 183) (nx := 101) (by decide +kernel) ?_
                  refine zwW_p [(1, 1, 0)] (q := 102) (ls' := [(2, 37), (0, a), (0, b)]) (st' := [(0, a), (2, 183), (0, v32), (0, b), (2, 67)]) (by decide +kernel) rfl ?_
                  refine zwW_al Ih22 (a1 := 183) (a2 := 183) (kd := 20) (n := 200) (t := 0) (lo := -2147483648) (hi := 2147483647) (nx := 103) (by decide +kernel) ⟨by decide, by decide⟩ ib1 ?_
                  intro v33 ev33 lv33 uv33
                  have sv33 : v33 = (yM h) 183 a.toNat := Eq.trans ev33 (Eq.trans (Eq.symm (yM_p (h := h22) (a := 183) (n := 200) (i := a.toNat) rfl (zit ib1))) (Eq.trans (congrFun (congrFun Zh22 183) a.toNat) (Eq.trans (zs_na (by decide) : (zs (yM h) 184 a.toNat b) 183 a.toNat = (yM h) 183 a.toNat) rfl)))
                  refine zwW_adw (nx := 104) (by decide +kernel) ?_
                  intro v34 ev34 lv34 uv34
                  have Ev34 : v34 = w32 (((yM h) 67 b.toNat) + ((yM h) 183 a.toNat)) := by rw [ev34, sv32, sv33]
                  refine zwW_as Ih22 (a1 := 67) (a2 := 67) (n := 8) (lo := -2147483648) (hi := 2147483647) (nx := 105) (by decide +kernel) ⟨by decide, by decide⟩ ib3 ⟨by omega, by omega⟩ ?_
                  intro h35 eh35 Ih35
                  have jbh35 : 0 ≤ b.toNat ∧ b.toNat < 8 := ⟨Nat.zero_le _, zit ib3⟩
                  have th35_37_1 : fld h35 37 1 = fld h22 37 1 := by rw [eh35]; exact fld_wr (Or.inl (by decide))
                  have Uh35 : yM h35 = (zs (zs (yM h) 184 a.toNat b) 67 b.toNat (w32 (((yM h) 67 b.toNat) + ((yM h) 183 a.toNat)))) := by rw [yM_w (a := 67) (n := 8) (i := b.toNat) (kd := 20) rfl (Ih22.s (a1 := 67) (a2 := 67) (by decide +kernel) (by decide) (by decide)) jbh35.2 eh35, Zh22, Ev34]
                  have Zh35 : yM h35 = (zs (zs (yM h) 67 b.toNat (w32 (((yM h) 67 b.toNat) + ((yM h) 183 a.toNat)))) 184 a.toNat b) := by rw [Uh35, zs_sw (a := 184) (b := 67) (by decide)]
                  have Rh35 : zMR ms52 h h35 := Rh22.w (a1 := 67) (a2 := 67) (j1 := 0) (j2 := 8) (by decide +kernel) ⟨by decide, by decide⟩ jbh35 eh35
                  refine zwW_p [(1, 0, 2)] (q := 106) (ls' := [(2, 37), (0, a), (0, b)]) (st' := [(2, 37)]) (by decide +kernel) rfl ?_
                  refine zwW_gc Ih35 (kd := 13) (bn := 16) (n := 97) (c := 75) (nx := 109) (by decide +kernel) ?_
                  refine zwW_p [(1, 2, 0), (14, 0, 0)] (q := 111) (ls' := [(2, 37), (0, a), (0, b)]) (st' := [(0, b), (2, 75), (0, b), (2, 75)]) (by decide +kernel) rfl ?_
                  refine zwW_al Ih35 (a1 := 75) (a2 := 75) (kd := 20) (n := 8) (t := 0) (lo := -2147483648) (hi := 2147483647) (nx := 112) (by decide +kernel) ⟨by decide, by decide⟩ ib3 ?_
                  intro v36 ev36 lv36 uv36
                  have sv36 : v36 = (yM h) 75 b.toNat := Eq.trans ev36 (Eq.trans (Eq.symm (yM_p (h := h35) (a := 75) (n := 8) (i := b.toNat) rfl (zit ib3))) (Eq.trans (congrFun (congrFun Zh35 75) b.toNat) (Eq.trans (zs_na (by decide) : (zs (zs (yM h) 67 b.toNat (w32 (((yM h) 67 b.toNat) + ((yM h) 183 a.toNat)))) 184 a.toNat b) 75 b.toNat = (zs (yM h) 67 b.toNat (w32 (((yM h) 67 b.toNat) + ((yM h) 183 a.toNat)))) 75 b.toNat) (Eq.trans (zs_na (by decide) : (zs (yM h) 67 b.toNat (w32 (((yM h) 67 b.toNat) + ((yM h) 183 a.toNat)))) 75 b.toNat = (yM h) 75 b.toNat) rfl))))
                  refine zwW_p [(1, 0, 2)] (q := 113) (ls' := [(2, 37), (0, a), (0, b)]) (st' := [(2, 37), (0, v36), (0, b), (2, 75)]) (by decide +kernel) rfl ?_
                  refine zwW_gc Ih35 (kd := 13) (bn := 75) (n := 97) (c := 183) (nx := 116) (by decide +kernel) ?_
                  refine zwW_p [(1, 1, 0)] (q := 117) (ls' := [(2, 37), (0, a), (0, b)]) (st' := [(0, a), (2, 183), (0, v36), (0, b), (2, 75)]) (by decide +kernel) rfl ?_
                  refine zwW_al Ih35 (a1 := 183) (a2 := 183) (kd := 20) (n := 200) (t := 0) (lo := -2147483648) (hi := 2147483647) (nx := 118) (by decide +kernel) ⟨by decide, by decide⟩ ib1 ?_
                  intro v37 ev37 lv37 uv37
                  have sv37 : v37 = (yM h) 183 a.toNat := Eq.trans ev37 (Eq.trans (Eq.symm (yM_p (h := h35) (a := 183) (n := 200) (i := a.toNat) rfl (zit ib1))) (Eq.trans (congrFun (congrFun Zh35 183) a.toNat) (Eq.trans (zs_na (by decide) : (zs (zs (yM h) 67 b.toNat (w32 (((yM h) 67 b.toNat) + ((yM h) 183 a.toNat)))) 184 a.toNat b) 183 a.toNat = (zs (yM h) 67 b.toNat (w32 (((yM h) 67 b.toNat) + ((yM h) 183 a.toNat)))) 183 a.toNat) (Eq.trans (zs_na (by decide) : (zs (yM h) 67 b.toNat (w32 (((yM h) 67 b.toNat) + ((yM h) 183 a.toNat)))) 183 a.toNat = (yM h) 183 a.toNat) rfl))))
                  refine zwW_adw (nx := 119) (by decide +kernel) ?_
                  intro v38 ev38 lv38 uv38
                  have Ev38 : v38 = w32 (((yM h) 75 b.toNat) + ((yM h) 183 a.toNat)) := by rw [ev38, sv36, sv37]
                  refine zwW_as Ih35 (a1 := 75) (a2 := 75) (n := 8) (lo := -2147483648) (hi := 2147483647) (nx := 120) (by decide +kernel) ⟨by decide, by decide⟩ ib3 ⟨by omega, by omega⟩ ?_
                  intro h39 eh39 Ih39
                  have jbh39 : 0 ≤ b.toNat ∧ b.toNat < 8 := ⟨Nat.zero_le _, zit ib3⟩
                  have th39_37_1 : fld h39 37 1 = fld h35 37 1 := by rw [eh39]; exact fld_wr (Or.inl (by decide))
                  have Uh39 : yM h39 = (zs (zs (zs (yM h) 67 b.toNat (w32 (((yM h) 67 b.toNat) + ((yM h) 183 a.toNat)))) 184 a.toNat b) 75 b.toNat (w32 (((yM h) 75 b.toNat) + ((yM h) 183 a.toNat)))) := by rw [yM_w (a := 75) (n := 8) (i := b.toNat) (kd := 20) rfl (Ih35.s (a1 := 75) (a2 := 75) (by decide +kernel) (by decide) (by decide)) jbh39.2 eh39, Zh35, Ev38]
                  have Zh39 : yM h39 = (zs (zs (zs (yM h) 67 b.toNat (w32 (((yM h) 67 b.toNat) + ((yM h) 183 a.toNat)))) 75 b.toNat (w32 (((yM h) 75 b.toNat) + ((yM h) 183 a.toNat)))) 184 a.toNat b) := by rw [Uh39, zs_sw (a := 184) (b := 75) (by decide)]
                  have Rh39 : zMR ms52 h h39 := Rh35.w (a1 := 75) (a2 := 75) (j1 := 0) (j2 := 8) (by decide +kernel) ⟨by decide, by decide⟩ jbh39 eh39
                  refine zwW_p [(24, 138, 0), (1, 0, 2)] (q := 139) (ls' := [(2, 37), (0, a), (0, b)]) (st' := [(2, 37)]) (by decide +kernel) rfl ?_
                  refine zwW_gc Ih39 (kd := 13) (bn := 8) (n := 97) (c := 67) (nx := 142) (by decide +kernel) ?_
                  refine zwW_p [(1, 2, 0)] (q := 143) (ls' := [(2, 37), (0, a), (0, b)]) (st' := [(0, b), (2, 67)]) (by decide +kernel) rfl ?_
                  refine zwW_al Ih39 (a1 := 67) (a2 := 67) (kd := 20) (n := 8) (t := 0) (lo := -2147483648) (hi := 2147483647) (nx := 144) (by decide +kernel) ⟨by decide, by decide⟩ ib3 ?_
                  intro v40 ev40 lv40 uv40
                  have sv40 : v40 = (w32 (((yM h) 67 b.toNat) + ((yM h) 183 a.toNat))) := Eq.trans ev40 (Eq.trans (Eq.symm (yM_p (h := h39) (a := 67) (n := 8) (i := b.toNat) rfl (zit ib3))) (Eq.trans (congrFun (congrFun Zh39 67) b.toNat) (Eq.trans (zs_na (by decide) : (zs (zs (zs (yM h) 67 b.toNat (w32 (((yM h) 67 b.toNat) + ((yM h) 183 a.toNat)))) 75 b.toNat (w32 (((yM h) 75 b.toNat) + ((yM h) 183 a.toNat)))) 184 a.toNat b) 67 b.toNat = (zs (zs (yM h) 67 b.toNat (w32 (((yM h) 67 b.toNat) + ((yM h) 183 a.toNat)))) 75 b.toNat (w32 (((yM h) 75 b.toNat) + ((yM h) 183 a.toNat)))) 67 b.toNat) (Eq.trans (zs_na (by decide) : (zs (zs (yM h) 67 b.toNat (w32 (((yM h) 67 b.toNat) + ((yM h) 183 a.toNat)))) 75 b.toNat (w32 (((yM h) 75 b.toNat) + ((yM h) 183 a.toNat)))) 67 b.toNat = (zs (yM h) 67 b.toNat (w32 (((yM h) 67 b.toNat) + ((yM h) 183 a.toNat)))) 67 b.toNat) (zs_eq : (zs (yM h) 67 b.toNat (w32 (((yM h) 67 b.toNat) + ((yM h) 183 a.toNat)))) 67 b.toNat = (w32 (((yM h) 67 b.toNat) + ((yM h) 183 a.toNat))))))))
                  refine zwW_p [(1, 0, 2)] (q := 145) (ls' := [(2, 37), (0, a), (0, b)]) (st' := [(2, 37), (0, v40)]) (by decide +kernel) rfl ?_
                  refine zwW_gc Ih39 (kd := 13) (bn := 9) (n := 97) (c := 68) (nx := 148) (by decide +kernel) ?_
                  refine zwW_p [(1, 2, 0)] (q := 149) (ls' := [(2, 37), (0, a), (0, b)]) (st' := [(0, b), (2, 68), (0, v40)]) (by decide +kernel) rfl ?_
                  refine zwW_al Ih39 (a1 := 68) (a2 := 68) (kd := 20) (n := 8) (t := 0) (lo := -2147483648) (hi := 2147483647) (nx := 150) (by decide +kernel) ⟨by decide, by decide⟩ ib3 ?_
                  intro v41 ev41 lv41 uv41
                  have sv41 : v41 = (yM h) 68 b.toNat := Eq.trans ev41 (Eq.trans (Eq.symm (yM_p (h := h39) (a := 68) (n := 8) (i := b.toNat) rfl (zit ib3))) (Eq.trans (congrFun (congrFun Zh39 68) b.toNat) (Eq.trans (zs_na (by decide) : (zs (zs (zs (yM h) 67 b.toNat (w32 (((yM h) 67 b.toNat) + ((yM h) 183 a.toNat)))) 75 b.toNat (w32 (((yM h) 75 b.toNat) + ((yM h) 183 a.toNat)))) 184 a.toNat b) 68 b.toNat = (zs (zs (yM h) 67 b.toNat (w32 (((yM h) 67 b.toNat) + ((yM h) 183 a.toNat)))) 75 b.toNat (w32 (((yM h) 75 b.toNat) + ((yM h) 183 a.toNat)))) 68 b.toNat) (Eq.trans (zs_na (by decide) : (zs (zs (yM h) 67 b.toNat (w32 (((yM h) 67 b.toNat) + ((yM h) 183 a.toNat)))) 75 b.toNat (w32 (((yM h) 75 b.toNat) + ((yM h) 183 a.toNat)))) 68 b.toNat = (zs (yM h) 67 b.toNat (w32 (((yM h) 67 b.toNat) + ((yM h) 183 a.toNat)))) 68 b.toNat) (Eq.trans (zs_na (by decide) : (zs (yM h) 67 b.toNat (w32 (((yM h) 67 b.toNat) + ((yM h) 183 a.toNat)))) 68 b.toNat = (yM h) 68 b.toNat) rfl)))))
                  refine zwW_adw (nx := 151) (by decide +kernel) ?_
                  intro v42 ev42 lv42 uv42
                  have Ev42 : v42 = w32 ((w32 (((yM h) 67 b.toNat) + ((yM h) 183 a.toNat))) + ((yM h) 68 b.toNat)) := by rw [ev42, sv40, sv41]
                  refine zwW_ret (nx := 152) (a := 0) (b := 0) (by decide +kernel) rfl (Or.inl rfl) ?_
                  exact ⟨Ih39, Rh39, by omega, by first | (exfalso; omega) | (unfold yBrA; rw [if_neg (by omega)]; done) | (unfold yBrA; rw [if_pos (by omega)]; unfold yBrS; (repeat' (first | rw [if_pos (by omega)] | rw [if_neg (by omega)])); all_goals (try simp (disch := decide) only [zs_na, zs_eq]); all_goals (first | rfl | omega)), by first | (exfalso; omega) | (refine Eq.trans Zh39 ?_; unfold yBrF; rw [if_neg (by omega)]; done) | (refine Eq.trans Zh39 ?_; unfold yBrF; rw [if_pos (by omega)]; unfold yBrS; (repeat' (first | rw [if_pos (by omega)] | rw [if_neg (by omega)])); all_goals (repeat' (first | rfl | omega | apply zs_cg)))⟩
              · refine zwW_p [(0, -1, 0)] (q := 73) (ls' := [(2, 37), (0, a), (0, b)]) (st' := [(0, -1)]) (by decide +kernel) rfl ?_
                refine zwW_ret (nx := 74) (a := 0) (b := 0) (by decide +kernel) rfl (Or.inl rfl) ?_
                exact ⟨Ih14, Rh14, by omega, by first | (exfalso; omega) | (unfold yBrA; rw [if_neg (by omega)]; done) | (unfold yBrA; rw [if_pos (by omega)]; unfold yBrS; (repeat' (first | rw [if_pos (by omega)] | rw [if_neg (by omega)])); all_goals (try simp (disch := decide) only [zs_na, zs_eq]); all_goals (first | rfl | omega)), by first | (exfalso; omega) | (refine Eq.trans Zh14 ?_; unfold yBrF; rw [if_neg (by omega)]; done) | (refine Eq.trans Zh14 ?_; unfold yBrF; rw [if_pos (by omega)]; unfold yBrS; (repeat' (first | rw [if_pos (by omega)] | rw [if_neg (by omega)])); all_goals (repeat' (first | rfl | omega | apply zs_cg)))⟩
      · refine zwif_eq (q := 72) (nx := 16) (by decide +kernel) (fun c43 => ?_) (fun c43 => ?_)
        · refine zwW_p [(0, -1, 0)] (q := 73) (ls' := [(2, 37), (0, a), (0, b)]) (st' := [(0, -1)]) (by decide +kernel) rfl ?_
          refine zwW_ret (nx := 74) (a := 0) (b := 0) (by decide +kernel) rfl (Or.inl rfl) ?_
          exact ⟨I, R, by omega, by first | (exfalso; omega) | (unfold yBrA; rw [if_neg (by omega)]; done) | (unfold yBrA; rw [if_pos (by omega)]; unfold yBrS; (repeat' (first | rw [if_pos (by omega)] | rw [if_neg (by omega)])); all_goals (try simp (disch := decide) only [zs_na, zs_eq]); all_goals (first | rfl | omega)), by first | (exfalso; omega) | (refine Eq.trans (rfl : yM h = yM h) ?_; unfold yBrF; rw [if_neg (by omega)]; done) | (refine Eq.trans (rfl : yM h = yM h) ?_; unfold yBrF; rw [if_pos (by omega)]; unfold yBrS; (repeat' (first | rw [if_pos (by omega)] | rw [if_neg (by omega)])); all_goals (repeat' (first | rfl | omega | apply zs_cg)))⟩
        · exfalso; omega
  · refine zwif_eq (q := 72) (nx := 8) (by decide +kernel) (fun c44 => ?_) (fun c44 => ?_)
    · refine zwW_p [(0, -1, 0)] (q := 73) (ls' := [(2, 37), (0, a), (0, b)]) (st' := [(0, -1)]) (by decide +kernel) rfl ?_
      refine zwW_ret (nx := 74) (a := 0) (b := 0) (by decide +kernel) rfl (Or.inl rfl) ?_
      exact ⟨I, R, by omega, by first | (exfalso; omega) | (unfold yBrA; rw [if_neg (by omega)]; done) | (unfold yBrA; rw [if_pos (by omega)]; unfold yBrS; (repeat' (first | rw [if_pos (by omega)] | rw [if_neg (by omega)])); all_goals (try simp (disch := decide) only [zs_na, zs_eq]); all_goals (first | rfl | omega)), by first | (exfalso; omega) | (refine Eq.trans (rfl : yM h = yM h) ?_; unfold yBrF; rw [if_neg (by omega)]; done) | (refine Eq.trans (rfl : yM h = yM h) ?_; unfold yBrF; rw [if_pos (by omega)]; unfold yBrS; (repeat' (first | rw [if_pos (by omega)] | rw [if_neg (by omega)])); all_goals (repeat' (first | rfl | omega | apply zs_cg)))⟩
    · exfalso; omega
-- WheelLandModel.village(III)I
theorem m4_z {sc : List Int} (h : Hp) (I : zI h) (a b c : Int) (q_a : -2147483648 ≤ a ∧ a ≤ 2147483647) : zwC sc 2 4 [(2, 37), (0, a), (0, b), (0, c)] h (zwRt 0 (fun x g => zI g ∧ zMR ms4 h g ∧ (-2147483648 ≤ x ∧ x ≤ 2147483647) ∧ (x = yVilA (yM h) a b c) ∧ (yM g = yVilF (yM h) a b c))) := by
  refine zwC_of (D := 1) 6 (by decide +kernel) rfl (ls := [(2, 37), (0, a), (0, b), (0, c), (9, 0), (9, 0)]) rfl ?_
  have R : zMR ms4 h h := zMR.rf _ _
  have u0 : yM h 37 0 = fld h 37 0 := rfl
  have u1 : yM h 37 1 = fld h 37 1 := rfl
  have N0 := I.b (a1 := 37) (a2 := 37) (j1 := 0) (j2 := 1) (lo := 0) (hi := 156) (by decide +kernel) (r := 37) (j := 0) (by decide) (by decide) (by decide) (by decide)
  refine zwW_p [(1, 1, 0)] (q := 1) (ls' := [(2, 37), (0, a), (0, b), (0, c), (9, 0), (9, 0)]) (st' := [(0, a)]) (by decide +kernel) rfl ?_
  refine zwif_lt (q := 81) (nx := 4) (by decide +kernel) (fun c1 => ?_) (fun c1 => ?_)
  · refine zwW_p [(0, -1, 0)] (q := 82) (ls' := [(2, 37), (0, a), (0, b), (0, c), (9, 0), (9, 0)]) (st' := [(0, -1)]) (by decide +kernel) rfl ?_
    refine zwW_ret (nx := 83) (a := 0) (b := 0) (by decide +kernel) rfl (Or.inl rfl) ?_
    exact ⟨I, R, by omega, by unfold yVilA; (repeat' (first | rw [if_pos (by omega)] | rw [if_neg (by omega)])); all_goals (first | rfl | omega), by first | (refine Eq.trans (rfl : yM h = yM h) ?_; unfold yVilF; rw [if_neg (by omega)]; done) | (refine Eq.trans (rfl : yM h = yM h) ?_; unfold yVilF yVil; rw [if_pos (by omega), show (a).toNat = (yM h 37 0).toNat + 1 by omega, show (a).toNat = (yM h 37 1).toNat by omega, z57_n (a := 37) (by decide), yVi0_n (a := 37) (by decide)]; all_goals (repeat' (first | rfl | omega | apply zs_cg)))⟩
  · refine zwW_p [(1, 1, 0), (0, 1000000, 0)] (q := 8) (ls' := [(2, 37), (0, a), (0, b), (0, c), (9, 0), (9, 0)]) (st' := [(0, 1000000), (0, a)]) (by decide +kernel) rfl ?_
    refine zwW_div (nx := 9) (by decide +kernel) (by omega) (by omega) (by omega) ?_
    refine zwW_p [(0, 40, 0)] (q := 11) (ls' := [(2, 37), (0, a), (0, b), (0, c), (9, 0), (9, 0)]) (st' := [(0, 40), (0, (a / 1000000))]) (by decide +kernel) rfl ?_
    refine zwic_gt (q := 81) (nx := 14) (by decide +kernel) (fun c2 => ?_) (fun c2 => ?_)
    · refine zwW_p [(0, -1, 0)] (q := 82) (ls' := [(2, 37), (0, a), (0, b), (0, c), (9, 0), (9, 0)]) (st' := [(0, -1)]) (by decide +kernel) rfl ?_
      refine zwW_ret (nx := 83) (a := 0) (b := 0) (by decide +kernel) rfl (Or.inl rfl) ?_
      exact ⟨I, R, by omega, by unfold yVilA; (repeat' (first | rw [if_pos (by omega)] | rw [if_neg (by omega)])); all_goals (first | rfl | omega), by first | (refine Eq.trans (rfl : yM h = yM h) ?_; unfold yVilF; rw [if_neg (by omega)]; done) | (refine Eq.trans (rfl : yM h = yM h) ?_; unfold yVilF yVil; rw [if_pos (by omega), show (a).toNat = (yM h 37 0).toNat + 1 by omega, show (a).toNat = (yM h 37 1).toNat by omega, z57_n (a := 37) (by decide), yVi0_n (a := 37) (by decide)]; all_goals (repeat' (first | rfl | omega | apply zs_cg)))⟩
    · refine zwW_p [(1, 1, 0), (0, 10000, 0)] (q := 18) (ls' := [(2, 37), (0, a), (0, b), (0, c), (9, 0), (9, 0)]) (st' := [(0, 10000), (0, a)]) (by decide +kernel) rfl ?_
      refine zwW_div (nx := 19) (by decide +kernel) (by omega) (by omega) (by omega) ?_
      refine zwW_p [(0, 100, 0)] (q := 21) (ls' := [(2, 37), (0, a), (0, b), (0, c), (9, 0), (9, 0)]) (st' := [(0, 100), (0, (a / 10000))]) (by decide +kernel) rfl ?_
      refine zwW_rem (nx := 22) (by decide +kernel) (by omega) (by omega) ?_
      refine zwW_p [(0, 40, 0)] (q := 24) (ls' := [(2, 37), (0, a), (0, b), (0, c), (9, 0), (9, 0)]) (st' := [(0, 40), (0, ((a / 10000) % 100))]) (by decide +kernel) rfl ?_
      refine zwic_gt (q := 81) (nx := 27) (by decide +kernel) (fun c3 => ?_) (fun c3 => ?_)
      · refine zwW_p [(0, -1, 0)] (q := 82) (ls' := [(2, 37), (0, a), (0, b), (0, c), (9, 0), (9, 0)]) (st' := [(0, -1)]) (by decide +kernel) rfl ?_
        refine zwW_ret (nx := 83) (a := 0) (b := 0) (by decide +kernel) rfl (Or.inl rfl) ?_
        exact ⟨I, R, by omega, by unfold yVilA; (repeat' (first | rw [if_pos (by omega)] | rw [if_neg (by omega)])); all_goals (first | rfl | omega), by first | (refine Eq.trans (rfl : yM h = yM h) ?_; unfold yVilF; rw [if_neg (by omega)]; done) | (refine Eq.trans (rfl : yM h = yM h) ?_; unfold yVilF yVil; rw [if_pos (by omega), show (a).toNat = (yM h 37 0).toNat + 1 by omega, show (a).toNat = (yM h 37 1).toNat by omega, z57_n (a := 37) (by decide), yVi0_n (a := 37) (by decide)]; all_goals (repeat' (first | rfl | omega | apply zs_cg)))⟩
      · refine zwW_p [(1, 1, 0), (0, 100, 0)] (q := 30) (ls' := [(2, 37), (0, a), (0, b), (0, c), (9, 0), (9, 0)]) (st' := [(0, 100), (0, a)]) (by decide +kernel) rfl ?_
        refine zwW_div (nx := 31) (by decide +kernel) (by omega) (by omega) (by omega) ?_
        refine zwW_p [(0, 100, 0)] (q := 33) (ls' := [(2, 37), (0, a), (0, b), (0, c), (9, 0), (9, 0)]) (st' := [(0, 100), (0, (a / 100))]) (by decide +kernel) rfl ?_
        refine zwW_rem (nx := 34) (by decide +kernel) (by omega) (by omega) ?_
        refine zwW_p [(0, 40, 0)] (q := 36) (ls' := [(2, 37), (0, a), (0, b), (0, c), (9, 0), (9, 0)]) (st' := [(0, 40), (0, ((a / 100) % 100))]) (by decide +kernel) rfl ?_
        refine zwic_gt (q := 81) (nx := 39) (by decide +kernel) (fun c4 => ?_) (fun c4 => ?_)
        · refine zwW_p [(0, -1, 0)] (q := 82) (ls' := [(2, 37), (0, a), (0, b), (0, c), (9, 0), (9, 0)]) (st' := [(0, -1)]) (by decide +kernel) rfl ?_
          refine zwW_ret (nx := 83) (a := 0) (b := 0) (by decide +kernel) rfl (Or.inl rfl) ?_
          exact ⟨I, R, by omega, by unfold yVilA; (repeat' (first | rw [if_pos (by omega)] | rw [if_neg (by omega)])); all_goals (first | rfl | omega), by first | (refine Eq.trans (rfl : yM h = yM h) ?_; unfold yVilF; rw [if_neg (by omega)]; done) | (refine Eq.trans (rfl : yM h = yM h) ?_; unfold yVilF yVil; rw [if_pos (by omega), show (a).toNat = (yM h 37 0).toNat + 1 by omega, show (a).toNat = (yM h 37 1).toNat by omega, z57_n (a := 37) (by decide), yVi0_n (a := 37) (by decide)]; all_goals (repeat' (first | rfl | omega | apply zs_cg)))⟩
        · refine zwW_p [(1, 1, 0), (0, 100, 0)] (q := 42) (ls' := [(2, 37), (0, a), (0, b), (0, c), (9, 0), (9, 0)]) (st' := [(0, 100), (0, a)]) (by decide +kernel) rfl ?_
          refine zwW_rem (nx := 43) (by decide +kernel) (by omega) (by omega) ?_
          refine zwW_p [(0, 40, 0)] (q := 45) (ls' := [(2, 37), (0, a), (0, b), (0, c), (9, 0), (9, 0)]) (st' := [(0, 40), (0, (a % 100))]) (by decide +kernel) rfl ?_
          refine zwic_gt (q := 81) (nx := 48) (by decide +kernel) (fun c5 => ?_) (fun c5 => ?_)
          · refine zwW_p [(0, -1, 0)] (q := 82) (ls' := [(2, 37), (0, a), (0, b), (0, c), (9, 0), (9, 0)]) (st' := [(0, -1)]) (by decide +kernel) rfl ?_
            refine zwW_ret (nx := 83) (a := 0) (b := 0) (by decide +kernel) rfl (Or.inl rfl) ?_
            exact ⟨I, R, by omega, by unfold yVilA; (repeat' (first | rw [if_pos (by omega)] | rw [if_neg (by omega)])); all_goals (first | rfl | omega), by first | (refine Eq.trans (rfl : yM h = yM h) ?_; unfold yVilF; rw [if_neg (by omega)]; done) | (refine Eq.trans (rfl : yM h = yM h) ?_; unfold yVilF yVil; rw [if_pos (by omega), show (a).toNat = (yM h 37 0).toNat + 1 by omega, show (a).toNat = (yM h 37 1).toNat by omega, z57_n (a := 37) (by decide), yVi0_n (a := 37) (by decide)]; all_goals (repeat' (first | rfl | omega | apply zs_cg)))⟩
          · refine zwW_p [(1, 2, 0), (7, 0, 0), (0, 1, 1), (0, 9, 1)] (q := 54) (ls' := [(2, 37), (0, a), (0, b), (0, c), (9, 0), (9, 0)]) (st' := [(1, 9), (1, 1), (1, b)]) (by decide +kernel) rfl ?_
            refine zwW_cs (k' := 101) (n := 3) (nx := 57) (as := [(1, b), (1, 1), (1, 9)]) (st' := []) (by decide +kernel) rfl (m101 h b 1 9) rfl ?_
            rintro x _ ⟨rfl, ⟨rfl, c6⟩ | ⟨rfl, c6⟩⟩
            · refine zwif_eq (q := 81) (nx := 60) (by decide +kernel) (fun c7 => ?_) (fun c7 => ?_)
              · exfalso; omega
              · refine zwW_p [(1, 3, 0), (7, 0, 0), (0, 0, 1), (0, 9999, 1)] (q := 66) (ls' := [(2, 37), (0, a), (0, b), (0, c), (9, 0), (9, 0)]) (st' := [(1, 9999), (1, 0), (1, c)]) (by decide +kernel) rfl ?_
                refine zwW_cs (k' := 101) (n := 3) (nx := 69) (as := [(1, c), (1, 0), (1, 9999)]) (st' := []) (by decide +kernel) rfl (m101 h c 0 9999) rfl ?_
                rintro x _ ⟨rfl, ⟨rfl, c8⟩ | ⟨rfl, c8⟩⟩
                · refine zwif_eq (q := 81) (nx := 72) (by decide +kernel) (fun c9 => ?_) (fun c9 => ?_)
                  · exfalso; omega
                  · refine zwW_p [(1, 0, 2)] (q := 73) (ls' := [(2, 37), (0, a), (0, b), (0, c), (9, 0), (9, 0)]) (st' := [(2, 37)]) (by decide +kernel) rfl ?_
                    refine zwW_gs I (kd := 13) (bn := 1) (n := 97) (t := 0) (lo := 0) (hi := 8) (nx := 76) (by decide +kernel) ?_
                    intro v10 ev10 lv10 uv10
                    have sv10 : v10 = (yM h) 37 1 := Eq.trans ev10 (Eq.trans (Eq.symm (yM_s (h := h) (i := 1) rfl)) (Eq.trans (congrFun (congrFun (rfl : yM h = yM h) 37) 1) rfl))
                    refine zwW_p [(0, 8, 0)] (q := 78) (ls' := [(2, 37), (0, a), (0, b), (0, c), (9, 0), (9, 0)]) (st' := [(0, 8), (0, v10)]) (by decide +kernel) rfl ?_
                    refine zwic_ne (q := 83) (nx := 81) (by decide +kernel) (fun c11 => ?_) (fun c11 => ?_)
                    · refine zwW_p [(1, 0, 2)] (q := 84) (ls' := [(2, 37), (0, a), (0, b), (0, c), (9, 0), (9, 0)]) (st' := [(2, 37)]) (by decide +kernel) rfl ?_
                      refine zwW_gs I (kd := 13) (bn := 1) (n := 97) (t := 0) (lo := 0) (hi := 8) (nx := 87) (by decide +kernel) ?_
                      intro v12 ev12 lv12 uv12
                      have sv12 : v12 = (yM h) 37 1 := Eq.trans ev12 (Eq.trans (Eq.symm (yM_s (h := h) (i := 1) rfl)) (Eq.trans (congrFun (congrFun (rfl : yM h = yM h) 37) 1) rfl))
                      refine zwW_p [(2, 4, 0), (1, 0, 2)] (q := 90) (ls' := [(2, 37), (0, a), (0, b), (0, c), (0, v12), (9, 0)]) (st' := [(2, 37)]) (by decide +kernel) rfl ?_
                      refine zwW_gc I (kd := 13) (bn := 3) (n := 97) (c := 38) (nx := 93) (by decide +kernel) ?_
                      refine zwW_p [(1, 4, 0)] (q := 95) (ls' := [(2, 37), (0, a), (0, b), (0, c), (0, v12), (9, 0)]) (st' := [(0, v12), (2, 38)]) (by decide +kernel) rfl ?_
                      refine zwW_ro I (a := 38) (n := 8) (kd := 26) (base := 39) (step := 1) (nx := 96) (by decide +kernel) rfl ⟨by omega, by omega⟩ ?_
                      rw [show ((39 : Nat) : Int) + ((1 : Nat) : Int) * v12 = (39 + v12) by omega]
                      refine zwW_p [(0, 0, 0), (1, 1, 0), (0, 1000000, 0)] (q := 101) (ls' := [(2, 37), (0, a), (0, b), (0, c), (0, v12), (9, 0)]) (st' := [(0, 1000000), (0, a), (0, 0), (2, (39 + v12))]) (by decide +kernel) rfl ?_
                      refine zwW_div (nx := 102) (by decide +kernel) (by omega) (by omega) (by omega) ?_
                      refine zwW_as I (a1 := 39) (a2 := 46) (n := 4) (lo := 0) (hi := 40) (nx := 103) (by decide +kernel) ⟨by omega, by omega⟩ ⟨by decide, by decide⟩ ⟨by omega, by omega⟩ ?_
                      intro h13 eh13 Ih13
                      have rbh13 : ((39 : Nat) : Int) ≤ (39 + v12) ∧ (39 + v12) ≤ ((46 : Nat) : Int) := ⟨by omega, by omega⟩
                      have th13_37_0 : fld h13 37 0 = fld h 37 0 := by rw [eh13]; exact fld_wr (Or.inl (zne_l (by decide) rbh13.1))
                      have th13_37_1 : fld h13 37 1 = fld h 37 1 := by rw [eh13]; exact fld_wr (Or.inl (zne_l (by decide) rbh13.1))
                      have Zh13 : yM h13 = (zs (yM h) 39 (4 * v12.toNat + 0) (a / 1000000)) := by rw [yM_w2 (a := 39) (w := 4) (v := v12.toNat) (j := 0) (m := 4) (kd := 20) rfl (by omega) (I.s (a1 := 39) (a2 := 46) (by decide +kernel) (by omega) (by omega)) (by omega) (by omega) (by show _ < 32; omega) eh13]
                      have Rh13 : zMR ms4 h h13 := R.w (a1 := 39) (a2 := 46) (j1 := 0) (j2 := 4) (by decide +kernel) rbh13 ⟨by decide, by decide⟩ eh13
                      refine zwW_p [(1, 0, 2)] (q := 104) (ls' := [(2, 37), (0, a), (0, b), (0, c), (0, v12), (9, 0)]) (st' := [(2, 37)]) (by decide +kernel) rfl ?_
                      refine zwW_gc Ih13 (kd := 13) (bn := 3) (n := 97) (c := 38) (nx := 107) (by decide +kernel) ?_
                      refine zwW_p [(1, 4, 0)] (q := 109) (ls' := [(2, 37), (0, a), (0, b), (0, c), (0, v12), (9, 0)]) (st' := [(0, v12), (2, 38)]) (by decide +kernel) rfl ?_
                      refine zwW_ro Ih13 (a := 38) (n := 8) (kd := 26) (base := 39) (step := 1) (nx := 110) (by decide +kernel) rfl ⟨by omega, by omega⟩ ?_
                      rw [show ((39 : Nat) : Int) + ((1 : Nat) : Int) * v12 = (39 + v12) by omega]
                      refine zwW_p [(0, 1, 0), (1, 1, 0), (0, 10000, 0)] (q := 115) (ls' := [(2, 37), (0, a), (0, b), (0, c), (0, v12), (9, 0)]) (st' := [(0, 10000), (0, a), (0, 1), (2, (39 + v12))]) (by decide +kernel) rfl ?_
                      refine zwW_div (nx := 116) (by decide +kernel) (by omega) (by omega) (by omega) ?_
                      refine zwW_p [(0, 100, 0)] (q := 118) (ls' := [(2, 37), (0, a), (0, b), (0, c), (0, v12), (9, 0)]) (st' := [(0, 100), (0, (a / 10000)), (0, 1), (2, (39 + v12))]) (by decide +kernel) rfl ?_
                      refine zwW_rem (nx := 119) (by decide +kernel) (by omega) (by omega) ?_
                      refine zwW_as Ih13 (a1 := 39) (a2 := 46) (n := 4) (lo := 0) (hi := 40) (nx := 120) (by decide +kernel) ⟨by omega, by omega⟩ ⟨by decide, by decide⟩ ⟨by omega, by omega⟩ ?_
                      intro h14 eh14 Ih14
                      have rbh14 : ((39 : Nat) : Int) ≤ (39 + v12) ∧ (39 + v12) ≤ ((46 : Nat) : Int) := ⟨by omega, by omega⟩
                      have th14_37_0 : fld h14 37 0 = fld h13 37 0 := by rw [eh14]; exact fld_wr (Or.inl (zne_l (by decide) rbh14.1))
                      have th14_37_1 : fld h14 37 1 = fld h13 37 1 := by rw [eh14]; exact fld_wr (Or.inl (zne_l (by decide) rbh14.1))
                      have Zh14 : yM h14 = (zs (zs (yM h) 39 (4 * v12.toNat + 0) (a / 1000000)) 39 (4 * v12.toNat + 1) ((a / 10000) % 100)) := by rw [yM_w2 (a := 39) (w := 4) (v := v12.toNat) (j := 1) (m := 4) (kd := 20) rfl (by omega) (Ih13.s (a1 := 39) (a2 := 46) (by decide +kernel) (by omega) (by omega)) (by omega) (by omega) (by show _ < 32; omega) eh14, Zh13]
                      have Rh14 : zMR ms4 h h14 := Rh13.w (a1 := 39) (a2 := 46) (j1 := 0) (j2 := 4) (by decide +kernel) rbh14 ⟨by decide, by decide⟩ eh14
                      refine zwW_p [(1, 0, 2)] (q := 121) (ls' := [(2, 37), (0, a), (0, b), (0, c), (0, v12), (9, 0)]) (st' := [(2, 37)]) (by decide +kernel) rfl ?_
                      refine zwW_gc Ih14 (kd := 13) (bn := 3) (n := 97) (c := 38) (nx := 124) (by decide +kernel) ?_
                      refine zwW_p [(1, 4, 0)] (q := 126) (ls' := [(2, 37), (0, a), (0, b), (0, c), (0, v12), (9, 0)]) (st' := [(0, v12), (2, 38)]) (by decide +kernel) rfl ?_
                      refine zwW_ro Ih14 (a := 38) (n := 8) (kd := 26) (base := 39) (step := 1) (nx := 127) (by decide +kernel) rfl ⟨by omega, by omega⟩ ?_
                      rw [show ((39 : Nat) : Int) + ((1 : Nat) : Int) * v12 = (39 + v12) by omega]
                      refine zwW_p [(0, 2, 0), (1, 1, 0), (0, 100, 0)] (q := 131) (ls' := [(2, 37), (0, a), (0, b), (0, c), (0, v12), (9, 0)]) (st' := [(0, 100), (0, a), (0, 2), (2, (39 + v12))]) (by decide +kernel) rfl ?_
                      refine zwW_div (nx := 132) (by decide +kernel) (by omega) (by omega) (by omega) ?_
                      refine zwW_p [(0, 100, 0)] (q := 134) (ls' := [(2, 37), (0, a), (0, b), (0, c), (0, v12), (9, 0)]) (st' := [(0, 100), (0, (a / 100)), (0, 2), (2, (39 + v12))]) (by decide +kernel) rfl ?_
                      refine zwW_rem (nx := 135) (by decide +kernel) (by omega) (by omega) ?_
                      refine zwW_as Ih14 (a1 := 39) (a2 := 46) (n := 4) (lo := 0) (hi := 40) (nx := 136) (by decide +kernel) ⟨by omega, by omega⟩ ⟨by decide, by decide⟩ ⟨by omega, by omega⟩ ?_
                      intro h15 eh15 Ih15
                      have rbh15 : ((39 : Nat) : Int) ≤ (39 + v12) ∧ (39 + v12) ≤ ((46 : Nat) : Int) := ⟨by omega, by omega⟩
                      have th15_37_0 : fld h15 37 0 = fld h14 37 0 := by rw [eh15]; exact fld_wr (Or.inl (zne_l (by decide) rbh15.1))
                      have th15_37_1 : fld h15 37 1 = fld h14 37 1 := by rw [eh15]; exact fld_wr (Or.inl (zne_l (by decide) rbh15.1))
                      have Zh15 : yM h15 = (zs (zs (zs (yM h) 39 (4 * v12.toNat + 0) (a / 1000000)) 39 (4 * v12.toNat + 1) ((a / 10000) % 100)) 39 (4 * v12.toNat + 2) ((a / 100) % 100)) := by rw [yM_w2 (a := 39) (w := 4) (v := v12.toNat) (j := 2) (m := 4) (kd := 20) rfl (by omega) (Ih14.s (a1 := 39) (a2 := 46) (by decide +kernel) (by omega) (by omega)) (by omega) (by omega) (by show _ < 32; omega) eh15, Zh14]
                      have Rh15 : zMR ms4 h h15 := Rh14.w (a1 := 39) (a2 := 46) (j1 := 0) (j2 := 4) (by decide +kernel) rbh15 ⟨by decide, by decide⟩ eh15
                      refine zwW_p [(1, 0, 2)] (q := 137) (ls' := [(2, 37), (0, a), (0, b), (0, c), (0, v12), (9, 0)]) (st' := [(2, 37)]) (by decide +kernel) rfl ?_
                      refine zwW_gc Ih15 (kd := 13) (bn := 3) (n := 97) (c := 38) (nx := 140) (by decide +kernel) ?_
                      refine zwW_p [(1, 4, 0)] (q := 142) (ls' := [(2, 37), (0, a), (0, b), (0, c), (0, v12), (9, 0)]) (st' := [(0, v12), (2, 38)]) (by decide +kernel) rfl ?_
                      refine zwW_ro Ih15 (a := 38) (n := 8) (kd := 26) (base := 39) (step := 1) (nx := 143) (by decide +kernel) rfl ⟨by omega, by omega⟩ ?_
                      rw [show ((39 : Nat) : Int) + ((1 : Nat) : Int) * v12 = (39 + v12) by omega]
                      refine zwW_p [(0, 3, 0), (1, 1, 0), (0, 100, 0)] (q := 147) (ls' := [(2, 37), (0, a), (0, b), (0, c), (0, v12), (9, 0)]) (st' := [(0, 100), (0, a), (0, 3), (2, (39 + v12))]) (by decide +kernel) rfl ?_
                      refine zwW_rem (nx := 148) (by decide +kernel) (by omega) (by omega) ?_
                      refine zwW_as Ih15 (a1 := 39) (a2 := 46) (n := 4) (lo := 0) (hi := 40) (nx := 149) (by decide +kernel) ⟨by omega, by omega⟩ ⟨by decide, by decide⟩ ⟨by omega, by omega⟩ ?_
                      intro h16 eh16 Ih16
                      have rbh16 : ((39 : Nat) : Int) ≤ (39 + v12) ∧ (39 + v12) ≤ ((46 : Nat) : Int) := ⟨by omega, by omega⟩
                      have th16_37_0 : fld h16 37 0 = fld h15 37 0 := by rw [eh16]; exact fld_wr (Or.inl (zne_l (by decide) rbh16.1))
                      have th16_37_1 : fld h16 37 1 = fld h15 37 1 := by rw [eh16]; exact fld_wr (Or.inl (zne_l (by decide) rbh16.1))
                      have Zh16 : yM h16 = (zs (zs (zs (zs (yM h) 39 (4 * v12.toNat + 0) (a / 1000000)) 39 (4 * v12.toNat + 1) ((a / 10000) % 100)) 39 (4 * v12.toNat + 2) ((a / 100) % 100)) 39 (4 * v12.toNat + 3) (a % 100)) := by rw [yM_w2 (a := 39) (w := 4) (v := v12.toNat) (j := 3) (m := 4) (kd := 20) rfl (by omega) (Ih15.s (a1 := 39) (a2 := 46) (by decide +kernel) (by omega) (by omega)) (by omega) (by omega) (by show _ < 32; omega) eh16, Zh15]
                      have Rh16 : zMR ms4 h h16 := Rh15.w (a1 := 39) (a2 := 46) (j1 := 0) (j2 := 4) (by decide +kernel) rbh16 ⟨by decide, by decide⟩ eh16
                      refine zwW_p [(1, 0, 2)] (q := 150) (ls' := [(2, 37), (0, a), (0, b), (0, c), (0, v12), (9, 0)]) (st' := [(2, 37)]) (by decide +kernel) rfl ?_
                      refine zwW_gc Ih16 (kd := 13) (bn := 6) (n := 97) (c := 65) (nx := 153) (by decide +kernel) ?_
                      refine zwW_p [(1, 4, 0), (1, 2, 0)] (q := 156) (ls' := [(2, 37), (0, a), (0, b), (0, c), (0, v12), (9, 0)]) (st' := [(0, b), (0, v12), (2, 65)]) (by decide +kernel) rfl ?_
                      have ib1 : 0 ≤ v12 ∧ v12 < ((8 : Nat) : Int) := ⟨by omega, by omega⟩
                      refine zwW_as Ih16 (a1 := 65) (a2 := 65) (n := 8) (lo := 0) (hi := 9) (nx := 157) (by decide +kernel) ⟨by decide, by decide⟩ ib1 ⟨by omega, by omega⟩ ?_
                      intro h17 eh17 Ih17
                      have jbh17 : 0 ≤ v12.toNat ∧ v12.toNat < 8 := ⟨Nat.zero_le _, zit ib1⟩
                      have th17_37_0 : fld h17 37 0 = fld h16 37 0 := by rw [eh17]; exact fld_wr (Or.inl (by decide))
                      have th17_37_1 : fld h17 37 1 = fld h16 37 1 := by rw [eh17]; exact fld_wr (Or.inl (by decide))
                      have Zh17 : yM h17 = (zs (zs (zs (zs (zs (yM h) 39 (4 * v12.toNat + 0) (a / 1000000)) 39 (4 * v12.toNat + 1) ((a / 10000) % 100)) 39 (4 * v12.toNat + 2) ((a / 100) % 100)) 39 (4 * v12.toNat + 3) (a % 100)) 65 (((yM h) 37 1).toNat) b) := by rw [yM_w (a := 65) (n := 8) (i := v12.toNat) (kd := 20) rfl (Ih16.s (a1 := 65) (a2 := 65) (by decide +kernel) (by decide) (by decide)) jbh17.2 eh17, Zh16, sv12]
                      have Rh17 : zMR ms4 h h17 := Rh16.w (a1 := 65) (a2 := 65) (j1 := 0) (j2 := 8) (by decide +kernel) ⟨by decide, by decide⟩ jbh17 eh17
                      refine zwW_p [(1, 0, 2)] (q := 158) (ls' := [(2, 37), (0, a), (0, b), (0, c), (0, v12), (9, 0)]) (st' := [(2, 37)]) (by decide +kernel) rfl ?_
                      refine zwW_gc Ih17 (kd := 13) (bn := 7) (n := 97) (c := 66) (nx := 161) (by decide +kernel) ?_
                      refine zwW_p [(1, 4, 0), (1, 3, 0)] (q := 164) (ls' := [(2, 37), (0, a), (0, b), (0, c), (0, v12), (9, 0)]) (st' := [(0, c), (0, v12), (2, 66)]) (by decide +kernel) rfl ?_
                      refine zwW_as Ih17 (a1 := 66) (a2 := 66) (n := 8) (lo := -2147483648) (hi := 2147483647) (nx := 165) (by decide +kernel) ⟨by decide, by decide⟩ ib1 ⟨by omega, by omega⟩ ?_
                      intro h18 eh18 Ih18
                      have jbh18 : 0 ≤ v12.toNat ∧ v12.toNat < 8 := ⟨Nat.zero_le _, zit ib1⟩
                      have th18_37_0 : fld h18 37 0 = fld h17 37 0 := by rw [eh18]; exact fld_wr (Or.inl (by decide))
                      have th18_37_1 : fld h18 37 1 = fld h17 37 1 := by rw [eh18]; exact fld_wr (Or.inl (by decide))
                      have Zh18 : yM h18 = (zs (zs (zs (zs (zs (zs (yM h) 39 (4 * v12.toNat + 0) (a / 1000000)) 39 (4 * v12.toNat + 1) ((a / 10000) % 100)) 39 (4 * v12.toNat + 2) ((a / 100) % 100)) 39 (4 * v12.toNat + 3) (a % 100)) 65 (((yM h) 37 1).toNat) b) 66 (((yM h) 37 1).toNat) c) := by rw [yM_w (a := 66) (n := 8) (i := v12.toNat) (kd := 20) rfl (Ih17.s (a1 := 66) (a2 := 66) (by decide +kernel) (by decide) (by decide)) jbh18.2 eh18, Zh17, sv12]
                      have Rh18 : zMR ms4 h h18 := Rh17.w (a1 := 66) (a2 := 66) (j1 := 0) (j2 := 8) (by decide +kernel) ⟨by decide, by decide⟩ jbh18 eh18
                      refine zwW_p [(1, 0, 2)] (q := 166) (ls' := [(2, 37), (0, a), (0, b), (0, c), (0, v12), (9, 0)]) (st' := [(2, 37)]) (by decide +kernel) rfl ?_
                      refine zwW_gc Ih18 (kd := 13) (bn := 11) (n := 97) (c := 70) (nx := 169) (by decide +kernel) ?_
                      refine zwW_p [(1, 4, 0), (0, 20, 0)] (q := 173) (ls' := [(2, 37), (0, a), (0, b), (0, c), (0, v12), (9, 0)]) (st' := [(0, 20), (0, v12), (2, 70)]) (by decide +kernel) rfl ?_
                      refine zwW_as Ih18 (a1 := 70) (a2 := 70) (n := 8) (lo := -2147483648) (hi := 2147483647) (nx := 174) (by decide +kernel) ⟨by decide, by decide⟩ ib1 ⟨by decide, by decide⟩ ?_
                      intro h19 eh19 Ih19
                      have jbh19 : 0 ≤ v12.toNat ∧ v12.toNat < 8 := ⟨Nat.zero_le _, zit ib1⟩
                      have th19_37_0 : fld h19 37 0 = fld h18 37 0 := by rw [eh19]; exact fld_wr (Or.inl (by decide))
                      have th19_37_1 : fld h19 37 1 = fld h18 37 1 := by rw [eh19]; exact fld_wr (Or.inl (by decide))
                      have Zh19 : yM h19 = (zs (zs (zs (zs (zs (zs (zs (yM h) 39 (4 * v12.toNat + 0) (a / 1000000)) 39 (4 * v12.toNat + 1) ((a / 10000) % 100)) 39 (4 * v12.toNat + 2) ((a / 100) % 100)) 39 (4 * v12.toNat + 3) (a % 100)) 65 (((yM h) 37 1).toNat) b) 66 (((yM h) 37 1).toNat) c) 70 (((yM h) 37 1).toNat) 20) := by rw [yM_w (a := 70) (n := 8) (i := v12.toNat) (kd := 20) rfl (Ih18.s (a1 := 70) (a2 := 70) (by decide +kernel) (by decide) (by decide)) jbh19.2 eh19, Zh18, sv12]
                      have Rh19 : zMR ms4 h h19 := Rh18.w (a1 := 70) (a2 := 70) (j1 := 0) (j2 := 8) (by decide +kernel) ⟨by decide, by decide⟩ jbh19 eh19
                      refine zwW_p [(1, 0, 2)] (q := 175) (ls' := [(2, 37), (0, a), (0, b), (0, c), (0, v12), (9, 0)]) (st' := [(2, 37)]) (by decide +kernel) rfl ?_
                      refine zwW_gc Ih19 (kd := 13) (bn := 12) (n := 97) (c := 71) (nx := 178) (by decide +kernel) ?_
                      refine zwW_p [(1, 4, 0), (0, 10, 0)] (q := 182) (ls' := [(2, 37), (0, a), (0, b), (0, c), (0, v12), (9, 0)]) (st' := [(0, 10), (0, v12), (2, 71)]) (by decide +kernel) rfl ?_
                      refine zwW_as Ih19 (a1 := 71) (a2 := 71) (n := 8) (lo := -2147483648) (hi := 2147483647) (nx := 183) (by decide +kernel) ⟨by decide, by decide⟩ ib1 ⟨by decide, by decide⟩ ?_
                      intro h20 eh20 Ih20
                      have jbh20 : 0 ≤ v12.toNat ∧ v12.toNat < 8 := ⟨Nat.zero_le _, zit ib1⟩
                      have th20_37_0 : fld h20 37 0 = fld h19 37 0 := by rw [eh20]; exact fld_wr (Or.inl (by decide))
                      have th20_37_1 : fld h20 37 1 = fld h19 37 1 := by rw [eh20]; exact fld_wr (Or.inl (by decide))
                      have Zh20 : yM h20 = (zs (zs (zs (zs (zs (zs (zs (zs (yM h) 39 (4 * v12.toNat + 0) (a / 1000000)) 39 (4 * v12.toNat + 1) ((a / 10000) % 100)) 39 (4 * v12.toNat + 2) ((a / 100) % 100)) 39 (4 * v12.toNat + 3) (a % 100)) 65 (((yM h) 37 1).toNat) b) 66 (((yM h) 37 1).toNat) c) 70 (((yM h) 37 1).toNat) 20) 71 (((yM h) 37 1).toNat) 10) := by rw [yM_w (a := 71) (n := 8) (i := v12.toNat) (kd := 20) rfl (Ih19.s (a1 := 71) (a2 := 71) (by decide +kernel) (by decide) (by decide)) jbh20.2 eh20, Zh19, sv12]
                      have Rh20 : zMR ms4 h h20 := Rh19.w (a1 := 71) (a2 := 71) (j1 := 0) (j2 := 8) (by decide +kernel) ⟨by decide, by decide⟩ jbh20 eh20
                      refine zwW_p [(0, 0, 0)] (q := 184) (ls' := [(2, 37), (0, a), (0, b), (0, c), (0, v12), (9, 0)]) (st' := [(0, 0)]) (by decide +kernel) rfl ?_
                      have E184 : (zs (zs (zs (zs (zs (zs (zs (zs (yM h) 39 (4 * v12.toNat + 0) (a / 1000000)) 39 (4 * v12.toNat + 1) ((a / 10000) % 100)) 39 (4 * v12.toNat + 2) ((a / 100) % 100)) 39 (4 * v12.toNat + 3) (a % 100)) 65 (((yM h) 37 1).toNat) b) 66 (((yM h) 37 1).toNat) c) 70 (((yM h) 37 1).toNat) 20) 71 (((yM h) 37 1).toNat) 10) = (yVi0 (yM h) (v12).toNat a b c) := by unfold yVi0; (repeat' (first | rfl | omega | apply zs_cg))
                      refine zwW_p [(2, 5, 0)] (q := 186) (ls' := [(2, 37), (0, a), (0, b), (0, c), (0, v12), (0, 0)]) (st' := []) (by decide +kernel) rfl ?_
                      have L21 : ∀ (n0 : Nat) (wL21 : Int) (hL21 : Hp), n0 = ((200 - wL21)).toNat → ((0 ≤ wL21 ∧ wL21 ≤ 157) ∧ wL21 ≤ fld h 37 0 + 1 ∧ fld hL21 37 0 = fld h 37 0 ∧ fld hL21 37 1 = fld h 37 1) → (yM hL21 = (z57 (yVi0 (yM h) (v12).toNat a b c) (v12).toNat (wL21).toNat)) → zI hL21 → zMR ms4 h hL21 → zwW sc (1) 4 186 [(2, 37), (0, a), (0, b), (0, c), (0, v12), (0, wL21)] [] hL21 (zwRt 0 (fun x g => zI g ∧ zMR ms4 h g ∧ (-2147483648 ≤ x ∧ x ≤ 2147483647) ∧ (x = yVilA (yM h) a b c) ∧ (yM g = yVilF (yM h) a b c))) := by
                        intro n0
                        induction n0 using Nat.strongRecOn with
                        | ind n0 IHL21 =>
                          intro wL21 hL21 hnL21 iL21_0 iL21_1 IhL21 RhL21
                          refine zwW_p [(1, 5, 0), (1, 0, 2)] (q := 189) (ls' := [(2, 37), (0, a), (0, b), (0, c), (0, v12), (0, wL21)]) (st' := [(2, 37), (0, wL21)]) (by decide +kernel) rfl ?_
                          refine zwW_gs IhL21 (kd := 13) (bn := 0) (n := 97) (t := 0) (lo := 0) (hi := 156) (nx := 192) (by decide +kernel) ?_
                          intro v22 ev22 lv22 uv22
                          have sv22 : v22 = (z57 (yVi0 (yM h) (v12).toNat a b c) (v12).toNat (wL21).toNat) 37 0 := Eq.trans ev22 (Eq.trans (Eq.symm (yM_s (h := hL21) (i := 0) rfl)) (Eq.trans (congrFun (congrFun iL21_1 37) 0) rfl))
                          refine zwic_gt (q := 213) (nx := 195) (by decide +kernel) (fun c23 => ?_) (fun c23 => ?_)
                          · refine zwW_p [(1, 0, 2), (12, 0, 0)] (q := 215) (ls' := [(2, 37), (0, a), (0, b), (0, c), (0, v12), (0, wL21)]) (st' := [(2, 37), (2, 37)]) (by decide +kernel) rfl ?_
                            refine zwW_gs IhL21 (kd := 13) (bn := 1) (n := 97) (t := 0) (lo := 0) (hi := 8) (nx := 218) (by decide +kernel) ?_
                            intro v24 ev24 lv24 uv24
                            have sv24 : v24 = (z57 (yVi0 (yM h) (v12).toNat a b c) (v12).toNat (wL21).toNat) 37 1 := Eq.trans ev24 (Eq.trans (Eq.symm (yM_s (h := hL21) (i := 1) rfl)) (Eq.trans (congrFun (congrFun iL21_1 37) 1) rfl))
                            refine zwW_p [(0, 1, 0)] (q := 219) (ls' := [(2, 37), (0, a), (0, b), (0, c), (0, v12), (0, wL21)]) (st' := [(0, 1), (0, v24), (2, 37)]) (by decide +kernel) rfl ?_
                            refine zwW_add (nx := 220) (by decide +kernel) ⟨by omega, by omega⟩ ?_
                            refine zwW_ps IhL21 (kd := 13) (bn := 1) (n := 97) (lo := 0) (hi := 8) (nx := 223) (by decide +kernel) ⟨by omega, by omega⟩ ?_
                            intro h25 eh25 Ih25
                            have th25_37_0 : fld h25 37 0 = fld hL21 37 0 := by rw [eh25]; exact fld_wr (by decide)
                            have th25_37_1 : fld h25 37 1 = (v24 + 1) := by rw [eh25]; exact fld_wr_eq (IhL21.s (a1 := 37) (a2 := 37) (k := 13) (n := 97) (by decide +kernel) (by decide) (by decide)) (by decide)
                            have Zh25 : yM h25 = (zs (z57 (yVi0 (yM h) (v12).toNat a b c) (v12).toNat (wL21).toNat) 37 1 (((z57 (yVi0 (yM h) (v12).toNat a b c) (v12).toNat (wL21).toNat) 37 1) + 1)) := by rw [yM_ws (i := 1) (kd := 13) (n := 97) rfl (IhL21.s (a1 := 37) (a2 := 37) (by decide +kernel) (by decide) (by decide)) (by decide) eh25, iL21_1, sv24]
                            have Rh25 : zMR ms4 h h25 := RhL21.w (a1 := 37) (a2 := 37) (j1 := 1) (j2 := 2) (by decide +kernel) ⟨by decide, by decide⟩ ⟨by decide, by decide⟩ eh25
                            refine zwW_p [(1, 4, 0)] (q := 225) (ls' := [(2, 37), (0, a), (0, b), (0, c), (0, v12), (0, wL21)]) (st' := [(0, v12)]) (by decide +kernel) rfl ?_
                            refine zwW_ret (nx := 226) (a := 0) (b := 0) (by decide +kernel) rfl (Or.inl rfl) ?_
                            exact ⟨Ih25, Rh25, by omega, by unfold yVilA; (repeat' (first | rw [if_pos (by omega)] | rw [if_neg (by omega)])); all_goals (first | rfl | omega), by first | (refine Eq.trans Zh25 ?_; unfold yVilF; rw [if_neg (by omega)]; done) | (refine Eq.trans Zh25 ?_; unfold yVilF yVil; rw [if_pos (by omega), show (wL21).toNat = (yM h 37 0).toNat + 1 by omega, show (v12).toNat = (yM h 37 1).toNat by omega, z57_n (a := 37) (by decide), yVi0_n (a := 37) (by decide)]; all_goals (repeat' (first | rfl | omega | apply zs_cg)))⟩
                          · refine zwW_p [(1, 0, 2)] (q := 196) (ls' := [(2, 37), (0, a), (0, b), (0, c), (0, v12), (0, wL21)]) (st' := [(2, 37)]) (by decide +kernel) rfl ?_
                            refine zwW_gc IhL21 (kd := 13) (bn := 5) (n := 97) (c := 56) (nx := 199) (by decide +kernel) ?_
                            refine zwW_p [(1, 4, 0)] (q := 201) (ls' := [(2, 37), (0, a), (0, b), (0, c), (0, v12), (0, wL21)]) (st' := [(0, v12), (2, 56)]) (by decide +kernel) rfl ?_
                            refine zwW_ro IhL21 (a := 56) (n := 8) (kd := 26) (base := 57) (step := 1) (nx := 202) (by decide +kernel) rfl ⟨by omega, by omega⟩ ?_
                            rw [show ((57 : Nat) : Int) + ((1 : Nat) : Int) * v12 = (57 + v12) by omega]
                            refine zwW_p [(1, 5, 0), (0, 10, 0)] (q := 206) (ls' := [(2, 37), (0, a), (0, b), (0, c), (0, v12), (0, wL21)]) (st' := [(0, 10), (0, wL21), (2, (57 + v12))]) (by decide +kernel) rfl ?_
                            have ib2 : 0 ≤ wL21 ∧ wL21 < ((157 : Nat) : Int) := ⟨by omega, by omega⟩
                            refine zwW_as IhL21 (a1 := 57) (a2 := 64) (n := 157) (lo := -2147483648) (hi := 2147483647) (nx := 207) (by decide +kernel) ⟨by omega, by omega⟩ ib2 ⟨by decide, by decide⟩ ?_
                            intro h26 eh26 Ih26
                            have rbh26 : ((57 : Nat) : Int) ≤ (57 + v12) ∧ (57 + v12) ≤ ((64 : Nat) : Int) := ⟨by omega, by omega⟩
                            have jbh26 : 0 ≤ wL21.toNat ∧ wL21.toNat < 157 := ⟨Nat.zero_le _, zit ib2⟩
                            have th26_37_0 : fld h26 37 0 = fld hL21 37 0 := by rw [eh26]; exact fld_wr (Or.inl (zne_l (by decide) rbh26.1))
                            have th26_37_1 : fld h26 37 1 = fld hL21 37 1 := by rw [eh26]; exact fld_wr (Or.inl (zne_l (by decide) rbh26.1))
                            have Zh26 : yM h26 = (zs (z57 (yVi0 (yM h) (v12).toNat a b c) (v12).toNat (wL21).toNat) 57 (157 * v12.toNat + wL21.toNat) 10) := by rw [yM_w2 (a := 57) (w := 157) (v := v12.toNat) (j := wL21.toNat) (m := 157) (kd := 20) rfl (by omega) (IhL21.s (a1 := 57) (a2 := 64) (by decide +kernel) (by omega) (by omega)) (by omega) (by omega) (by show _ < 1256; omega) eh26, iL21_1]
                            have Rh26 : zMR ms4 h h26 := RhL21.w (a1 := 57) (a2 := 64) (j1 := 0) (j2 := 157) (by decide +kernel) rbh26 jbh26 eh26
                            refine zwW_inc (i := 5) (c := 1) (x := wL21) (nx := 210) (by decide +kernel) rfl ⟨by omega, by omega⟩ (ls' := [(2, 37), (0, a), (0, b), (0, c), (0, v12), (0, (wL21 + 1))]) rfl ?_
                            refine zwW_p [(24, 186, 0)] (q := 186) (ls' := [(2, 37), (0, a), (0, b), (0, c), (0, v12), (0, (wL21 + 1))]) (st' := []) (by decide +kernel) rfl ?_
                            exact IHL21 ((200 - (wL21 + 1))).toNat (by omega) (wL21 + 1) h26 rfl (by omega) (by rw [show (wL21 + 1).toNat = (wL21).toNat + 1 by omega]; exact Zh26.trans (z57_s (by omega))) Ih26 Rh26
                      exact L21 _ 0 h20 rfl (by omega) ((Zh20.trans E184).trans z57_0) Ih20 Rh20
                    · refine zwW_p [(0, -1, 0)] (q := 82) (ls' := [(2, 37), (0, a), (0, b), (0, c), (9, 0), (9, 0)]) (st' := [(0, -1)]) (by decide +kernel) rfl ?_
                      refine zwW_ret (nx := 83) (a := 0) (b := 0) (by decide +kernel) rfl (Or.inl rfl) ?_
                      exact ⟨I, R, by omega, by unfold yVilA; (repeat' (first | rw [if_pos (by omega)] | rw [if_neg (by omega)])); all_goals (first | rfl | omega), by first | (refine Eq.trans (rfl : yM h = yM h) ?_; unfold yVilF; rw [if_neg (by omega)]; done) | (refine Eq.trans (rfl : yM h = yM h) ?_; unfold yVilF yVil; rw [if_pos (by omega), show (a).toNat = (yM h 37 0).toNat + 1 by omega, show (a).toNat = (yM h 37 1).toNat by omega, z57_n (a := 37) (by decide), yVi0_n (a := 37) (by decide)]; all_goals (repeat' (first | rfl | omega | apply zs_cg)))⟩
                · refine zwif_eq (q := 81) (nx := 72) (by decide +kernel) (fun c27 => ?_) (fun c27 => ?_)
                  · refine zwW_p [(0, -1, 0)] (q := 82) (ls' := [(2, 37), (0, a), (0, b), (0, c), (9, 0), (9, 0)]) (st' := [(0, -1)]) (by decide +kernel) rfl ?_
                    refine zwW_ret (nx := 83) (a := 0) (b := 0) (by decide +kernel) rfl (Or.inl rfl) ?_
                    exact ⟨I, R, by omega, by unfold yVilA; (repeat' (first | rw [if_pos (by omega)] | rw [if_neg (by omega)])); all_goals (first | rfl | omega), by first | (refine Eq.trans (rfl : yM h = yM h) ?_; unfold yVilF; rw [if_neg (by omega)]; done) | (refine Eq.trans (rfl : yM h = yM h) ?_; unfold yVilF yVil; rw [if_pos (by omega), show (a).toNat = (yM h 37 0).toNat + 1 by omega, show (a).toNat = (yM h 37 1).toNat by omega, z57_n (a := 37) (by decide), yVi0_n (a := 37) (by decide)]; all_goals (repeat' (first | rfl | omega | apply zs_cg)))⟩
                  · exfalso; omega
            · refine zwif_eq (q := 81) (nx := 60) (by decide +kernel) (fun c28 => ?_) (fun c28 => ?_)
              · refine zwW_p [(0, -1, 0)] (q := 82) (ls' := [(2, 37), (0, a), (0, b), (0, c), (9, 0), (9, 0)]) (st' := [(0, -1)]) (by decide +kernel) rfl ?_
                refine zwW_ret (nx := 83) (a := 0) (b := 0) (by decide +kernel) rfl (Or.inl rfl) ?_
                exact ⟨I, R, by omega, by unfold yVilA; (repeat' (first | rw [if_pos (by omega)] | rw [if_neg (by omega)])); all_goals (first | rfl | omega), by first | (refine Eq.trans (rfl : yM h = yM h) ?_; unfold yVilF; rw [if_neg (by omega)]; done) | (refine Eq.trans (rfl : yM h = yM h) ?_; unfold yVilF yVil; rw [if_pos (by omega), show (a).toNat = (yM h 37 0).toNat + 1 by omega, show (a).toNat = (yM h 37 1).toNat by omega, z57_n (a := 37) (by decide), yVi0_n (a := 37) (by decide)]; all_goals (repeat' (first | rfl | omega | apply zs_cg)))⟩
              · exfalso; omega
-- WheelLandModel.house(II)I
theorem m10_z {sc : List Int} (h : Hp) (I : zI h) (a b : Int) (q_b : -2147483648 ≤ b ∧ b ≤ 2147483647) : zwC sc 3 10 [(2, 37), (0, a), (0, b)] h (zwRt 0 (fun x g => zI g ∧ zMR ms10 h g ∧ (-2147483648 ≤ x ∧ x ≤ 2147483647) ∧ (x = yHouA (yM h) a b) ∧ (yM g = yHouF (yM h) a b))) := by
  refine zwC_of (D := 2) 4 (by decide +kernel) rfl (ls := [(2, 37), (0, a), (0, b), (9, 0)]) rfl ?_
  have R : zMR ms10 h h := zMR.rf _ _
  have u0 : yM h 37 0 = fld h 37 0 := rfl
  have u1 : yM h 37 1 = fld h 37 1 := rfl
  have u2 : yM h 37 2 = fld h 37 2 := rfl
  refine zwW_p [(1, 0, 2), (1, 1, 0)] (q := 2) (ls' := [(2, 37), (0, a), (0, b), (9, 0)]) (st' := [(0, a), (2, 37)]) (by decide +kernel) rfl ?_
  refine zwW_cm I (op := 60) (k' := 104) (n := 1) (kd := 13) (m := 97) (nx := 5) (r := 37) (tl := [(0, a)]) (st' := []) (by decide +kernel) rfl (by decide +kernel) rfl (m104 h I a) ?_
  rintro x _ ⟨rfl, ⟨rfl, c1⟩ | ⟨rfl, c1⟩⟩
  · refine zwif_eq (q := 70) (nx := 8) (by decide +kernel) (fun c2 => ?_) (fun c2 => ?_)
    · exfalso; omega
    · refine zwW_p [(1, 2, 0)] (q := 9) (ls' := [(2, 37), (0, a), (0, b), (9, 0)]) (st' := [(0, b)]) (by decide +kernel) rfl ?_
      refine zwif_lt (q := 70) (nx := 12) (by decide +kernel) (fun c3 => ?_) (fun c3 => ?_)
      · refine zwW_p [(0, -1, 0)] (q := 71) (ls' := [(2, 37), (0, a), (0, b), (9, 0)]) (st' := [(0, -1)]) (by decide +kernel) rfl ?_
        refine zwW_ret (nx := 72) (a := 0) (b := 0) (by decide +kernel) rfl (Or.inl rfl) ?_
        exact ⟨I, R, by omega, by unfold yHouA; (repeat' (first | rw [if_pos (by omega)] | rw [if_neg (by omega)])); all_goals (first | rfl | omega), by refine Eq.trans (rfl : yM h = yM h) ?_; unfold yHouF yHou; (repeat' (first | rw [if_pos (by omega)] | rw [if_neg (by omega)])); all_goals (repeat' (first | rfl | omega | apply zs_cg))⟩
      · refine zwW_p [(1, 2, 0), (0, 1000, 0)] (q := 16) (ls' := [(2, 37), (0, a), (0, b), (9, 0)]) (st' := [(0, 1000), (0, b)]) (by decide +kernel) rfl ?_
        refine zwW_div (nx := 17) (by decide +kernel) (by omega) (by omega) (by omega) ?_
        refine zwW_p [(0, 5, 0)] (q := 18) (ls' := [(2, 37), (0, a), (0, b), (9, 0)]) (st' := [(0, 5), (0, (b / 1000))]) (by decide +kernel) rfl ?_
        refine zwic_gt (q := 70) (nx := 21) (by decide +kernel) (fun c4 => ?_) (fun c4 => ?_)
        · refine zwW_p [(0, -1, 0)] (q := 71) (ls' := [(2, 37), (0, a), (0, b), (9, 0)]) (st' := [(0, -1)]) (by decide +kernel) rfl ?_
          refine zwW_ret (nx := 72) (a := 0) (b := 0) (by decide +kernel) rfl (Or.inl rfl) ?_
          exact ⟨I, R, by omega, by unfold yHouA; (repeat' (first | rw [if_pos (by omega)] | rw [if_neg (by omega)])); all_goals (first | rfl | omega), by refine Eq.trans (rfl : yM h = yM h) ?_; unfold yHouF yHou; (repeat' (first | rw [if_pos (by omega)] | rw [if_neg (by omega)])); all_goals (repeat' (first | rfl | omega | apply zs_cg))⟩
        · refine zwW_p [(1, 2, 0), (0, 100, 0)] (q := 24) (ls' := [(2, 37), (0, a), (0, b), (9, 0)]) (st' := [(0, 100), (0, b)]) (by decide +kernel) rfl ?_
          refine zwW_div (nx := 25) (by decide +kernel) (by omega) (by omega) (by omega) ?_
          refine zwW_p [(0, 10, 0)] (q := 27) (ls' := [(2, 37), (0, a), (0, b), (9, 0)]) (st' := [(0, 10), (0, (b / 100))]) (by decide +kernel) rfl ?_
          refine zwW_rem (nx := 28) (by decide +kernel) (by omega) (by omega) ?_
          refine zwW_p [(0, 1, 0)] (q := 29) (ls' := [(2, 37), (0, a), (0, b), (9, 0)]) (st' := [(0, 1), (0, ((b / 100) % 10))]) (by decide +kernel) rfl ?_
          refine zwic_lt (q := 70) (nx := 32) (by decide +kernel) (fun c5 => ?_) (fun c5 => ?_)
          · refine zwW_p [(0, -1, 0)] (q := 71) (ls' := [(2, 37), (0, a), (0, b), (9, 0)]) (st' := [(0, -1)]) (by decide +kernel) rfl ?_
            refine zwW_ret (nx := 72) (a := 0) (b := 0) (by decide +kernel) rfl (Or.inl rfl) ?_
            exact ⟨I, R, by omega, by unfold yHouA; (repeat' (first | rw [if_pos (by omega)] | rw [if_neg (by omega)])); all_goals (first | rfl | omega), by refine Eq.trans (rfl : yM h = yM h) ?_; unfold yHouF yHou; (repeat' (first | rw [if_pos (by omega)] | rw [if_neg (by omega)])); all_goals (repeat' (first | rfl | omega | apply zs_cg))⟩
          · refine zwW_p [(1, 2, 0), (0, 10, 0)] (q := 35) (ls' := [(2, 37), (0, a), (0, b), (9, 0)]) (st' := [(0, 10), (0, b)]) (by decide +kernel) rfl ?_
            refine zwW_div (nx := 36) (by decide +kernel) (by omega) (by omega) (by omega) ?_
            refine zwW_p [(0, 10, 0)] (q := 38) (ls' := [(2, 37), (0, a), (0, b), (9, 0)]) (st' := [(0, 10), (0, (b / 10))]) (by decide +kernel) rfl ?_
            refine zwW_rem (nx := 39) (by decide +kernel) (by omega) (by omega) ?_
            refine zwW_p [(0, 5, 0)] (q := 40) (ls' := [(2, 37), (0, a), (0, b), (9, 0)]) (st' := [(0, 5), (0, ((b / 10) % 10))]) (by decide +kernel) rfl ?_
            refine zwic_gt (q := 70) (nx := 43) (by decide +kernel) (fun c6 => ?_) (fun c6 => ?_)
            · refine zwW_p [(0, -1, 0)] (q := 71) (ls' := [(2, 37), (0, a), (0, b), (9, 0)]) (st' := [(0, -1)]) (by decide +kernel) rfl ?_
              refine zwW_ret (nx := 72) (a := 0) (b := 0) (by decide +kernel) rfl (Or.inl rfl) ?_
              exact ⟨I, R, by omega, by unfold yHouA; (repeat' (first | rw [if_pos (by omega)] | rw [if_neg (by omega)])); all_goals (first | rfl | omega), by refine Eq.trans (rfl : yM h = yM h) ?_; unfold yHouF yHou; (repeat' (first | rw [if_pos (by omega)] | rw [if_neg (by omega)])); all_goals (repeat' (first | rfl | omega | apply zs_cg))⟩
            · refine zwW_p [(1, 2, 0), (0, 10, 0)] (q := 46) (ls' := [(2, 37), (0, a), (0, b), (9, 0)]) (st' := [(0, 10), (0, b)]) (by decide +kernel) rfl ?_
              refine zwW_rem (nx := 47) (by decide +kernel) (by omega) (by omega) ?_
              refine zwW_p [(0, 1, 0)] (q := 48) (ls' := [(2, 37), (0, a), (0, b), (9, 0)]) (st' := [(0, 1), (0, (b % 10))]) (by decide +kernel) rfl ?_
              refine zwic_lt (q := 70) (nx := 51) (by decide +kernel) (fun c7 => ?_) (fun c7 => ?_)
              · refine zwW_p [(0, -1, 0)] (q := 71) (ls' := [(2, 37), (0, a), (0, b), (9, 0)]) (st' := [(0, -1)]) (by decide +kernel) rfl ?_
                refine zwW_ret (nx := 72) (a := 0) (b := 0) (by decide +kernel) rfl (Or.inl rfl) ?_
                exact ⟨I, R, by omega, by unfold yHouA; (repeat' (first | rw [if_pos (by omega)] | rw [if_neg (by omega)])); all_goals (first | rfl | omega), by refine Eq.trans (rfl : yM h = yM h) ?_; unfold yHouF yHou; (repeat' (first | rw [if_pos (by omega)] | rw [if_neg (by omega)])); all_goals (repeat' (first | rfl | omega | apply zs_cg))⟩
              · refine zwW_p [(1, 0, 2)] (q := 52) (ls' := [(2, 37), (0, a), (0, b), (9, 0)]) (st' := [(2, 37)]) (by decide +kernel) rfl ?_
                refine zwW_gs I (kd := 13) (bn := 2) (n := 97) (t := 0) (lo := 0) (hi := 20) (nx := 55) (by decide +kernel) ?_
                intro v8 ev8 lv8 uv8
                have sv8 : v8 = (yM h) 37 2 := Eq.trans ev8 (Eq.trans (Eq.symm (yM_s (h := h) (i := 2) rfl)) (Eq.trans (congrFun (congrFun (rfl : yM h = yM h) 37) 2) rfl))
                refine zwW_p [(0, 20, 0)] (q := 57) (ls' := [(2, 37), (0, a), (0, b), (9, 0)]) (st' := [(0, 20), (0, v8)]) (by decide +kernel) rfl ?_
                refine zwic_eq (q := 70) (nx := 60) (by decide +kernel) (fun c9 => ?_) (fun c9 => ?_)
                · refine zwW_p [(0, -1, 0)] (q := 71) (ls' := [(2, 37), (0, a), (0, b), (9, 0)]) (st' := [(0, -1)]) (by decide +kernel) rfl ?_
                  refine zwW_ret (nx := 72) (a := 0) (b := 0) (by decide +kernel) rfl (Or.inl rfl) ?_
                  exact ⟨I, R, by omega, by unfold yHouA; (repeat' (first | rw [if_pos (by omega)] | rw [if_neg (by omega)])); all_goals (first | rfl | omega), by refine Eq.trans (rfl : yM h = yM h) ?_; unfold yHouF yHou; (repeat' (first | rw [if_pos (by omega)] | rw [if_neg (by omega)])); all_goals (repeat' (first | rfl | omega | apply zs_cg))⟩
                · refine zwW_p [(1, 0, 2)] (q := 61) (ls' := [(2, 37), (0, a), (0, b), (9, 0)]) (st' := [(2, 37)]) (by decide +kernel) rfl ?_
                  refine zwW_gs I (kd := 13) (bn := 0) (n := 97) (t := 0) (lo := 0) (hi := 156) (nx := 64) (by decide +kernel) ?_
                  intro v10 ev10 lv10 uv10
                  have sv10 : v10 = (yM h) 37 0 := Eq.trans ev10 (Eq.trans (Eq.symm (yM_s (h := h) (i := 0) rfl)) (Eq.trans (congrFun (congrFun (rfl : yM h = yM h) 37) 0) rfl))
                  refine zwW_p [(0, 156, 0)] (q := 67) (ls' := [(2, 37), (0, a), (0, b), (9, 0)]) (st' := [(0, 156), (0, v10)]) (by decide +kernel) rfl ?_
                  refine zwic_ne (q := 72) (nx := 70) (by decide +kernel) (fun c11 => ?_) (fun c11 => ?_)
                  · refine zwW_p [(1, 0, 2)] (q := 73) (ls' := [(2, 37), (0, a), (0, b), (9, 0)]) (st' := [(2, 37)]) (by decide +kernel) rfl ?_
                    refine zwW_gs I (kd := 13) (bn := 2) (n := 97) (t := 0) (lo := 0) (hi := 20) (nx := 76) (by decide +kernel) ?_
                    intro v12 ev12 lv12 uv12
                    have sv12 : v12 = (yM h) 37 2 := Eq.trans ev12 (Eq.trans (Eq.symm (yM_s (h := h) (i := 2) rfl)) (Eq.trans (congrFun (congrFun (rfl : yM h = yM h) 37) 2) rfl))
                    refine zwW_p [(2, 3, 0), (1, 0, 2)] (q := 78) (ls' := [(2, 37), (0, a), (0, b), (0, v12)]) (st' := [(2, 37)]) (by decide +kernel) rfl ?_
                    refine zwW_gc I (kd := 13) (bn := 20) (n := 97) (c := 79) (nx := 81) (by decide +kernel) ?_
                    refine zwW_p [(1, 3, 0), (1, 1, 0)] (q := 83) (ls' := [(2, 37), (0, a), (0, b), (0, v12)]) (st' := [(0, a), (0, v12), (2, 79)]) (by decide +kernel) rfl ?_
                    have ib1 : 0 ≤ v12 ∧ v12 < ((20 : Nat) : Int) := ⟨by omega, by omega⟩
                    refine zwW_as I (a1 := 79) (a2 := 79) (n := 20) (lo := 0) (hi := 7) (nx := 84) (by decide +kernel) ⟨by decide, by decide⟩ ib1 ⟨by omega, by omega⟩ ?_
                    intro h13 eh13 Ih13
                    have jbh13 : 0 ≤ v12.toNat ∧ v12.toNat < 20 := ⟨Nat.zero_le _, zit ib1⟩
                    have th13_37_2 : fld h13 37 2 = fld h 37 2 := by rw [eh13]; exact fld_wr (Or.inl (by decide))
                    have Zh13 : yM h13 = (zs (yM h) 79 (((yM h) 37 2).toNat) a) := by rw [yM_w (a := 79) (n := 20) (i := v12.toNat) (kd := 20) rfl (I.s (a1 := 79) (a2 := 79) (by decide +kernel) (by decide) (by decide)) jbh13.2 eh13, sv12]
                    have Rh13 : zMR ms10 h h13 := R.w (a1 := 79) (a2 := 79) (j1 := 0) (j2 := 20) (by decide +kernel) ⟨by decide, by decide⟩ jbh13 eh13
                    refine zwW_p [(1, 0, 2)] (q := 85) (ls' := [(2, 37), (0, a), (0, b), (0, v12)]) (st' := [(2, 37)]) (by decide +kernel) rfl ?_
                    refine zwW_gc Ih13 (kd := 13) (bn := 21) (n := 97) (c := 80) (nx := 88) (by decide +kernel) ?_
                    refine zwW_p [(1, 3, 0), (1, 2, 0), (0, 1000, 0)] (q := 93) (ls' := [(2, 37), (0, a), (0, b), (0, v12)]) (st' := [(0, 1000), (0, b), (0, v12), (2, 80)]) (by decide +kernel) rfl ?_
                    refine zwW_div (nx := 94) (by decide +kernel) (by omega) (by omega) (by omega) ?_
                    refine zwW_as Ih13 (a1 := 80) (a2 := 80) (n := 20) (lo := 0) (hi := 5) (nx := 95) (by decide +kernel) ⟨by decide, by decide⟩ ib1 ⟨by omega, by omega⟩ ?_
                    intro h14 eh14 Ih14
                    have jbh14 : 0 ≤ v12.toNat ∧ v12.toNat < 20 := ⟨Nat.zero_le _, zit ib1⟩
                    have th14_37_2 : fld h14 37 2 = fld h13 37 2 := by rw [eh14]; exact fld_wr (Or.inl (by decide))
                    have Zh14 : yM h14 = (zs (zs (yM h) 79 (((yM h) 37 2).toNat) a) 80 (((yM h) 37 2).toNat) (b / 1000)) := by rw [yM_w (a := 80) (n := 20) (i := v12.toNat) (kd := 20) rfl (Ih13.s (a1 := 80) (a2 := 80) (by decide +kernel) (by decide) (by decide)) jbh14.2 eh14, Zh13, sv12]
                    have Rh14 : zMR ms10 h h14 := Rh13.w (a1 := 80) (a2 := 80) (j1 := 0) (j2 := 20) (by decide +kernel) ⟨by decide, by decide⟩ jbh14 eh14
                    refine zwW_p [(1, 0, 2)] (q := 96) (ls' := [(2, 37), (0, a), (0, b), (0, v12)]) (st' := [(2, 37)]) (by decide +kernel) rfl ?_
                    refine zwW_gc Ih14 (kd := 13) (bn := 22) (n := 97) (c := 81) (nx := 99) (by decide +kernel) ?_
                    refine zwW_p [(1, 3, 0), (1, 2, 0), (0, 100, 0)] (q := 103) (ls' := [(2, 37), (0, a), (0, b), (0, v12)]) (st' := [(0, 100), (0, b), (0, v12), (2, 81)]) (by decide +kernel) rfl ?_
                    refine zwW_div (nx := 104) (by decide +kernel) (by omega) (by omega) (by omega) ?_
                    refine zwW_p [(0, 10, 0)] (q := 106) (ls' := [(2, 37), (0, a), (0, b), (0, v12)]) (st' := [(0, 10), (0, (b / 100)), (0, v12), (2, 81)]) (by decide +kernel) rfl ?_
                    refine zwW_rem (nx := 107) (by decide +kernel) (by omega) (by omega) ?_
                    refine zwW_as Ih14 (a1 := 81) (a2 := 81) (n := 20) (lo := 0) (hi := 9) (nx := 108) (by decide +kernel) ⟨by decide, by decide⟩ ib1 ⟨by omega, by omega⟩ ?_
                    intro h15 eh15 Ih15
                    have jbh15 : 0 ≤ v12.toNat ∧ v12.toNat < 20 := ⟨Nat.zero_le _, zit ib1⟩
                    have th15_37_2 : fld h15 37 2 = fld h14 37 2 := by rw [eh15]; exact fld_wr (Or.inl (by decide))
                    have Zh15 : yM h15 = (zs (zs (zs (yM h) 79 (((yM h) 37 2).toNat) a) 80 (((yM h) 37 2).toNat) (b / 1000)) 81 (((yM h) 37 2).toNat) ((b / 100) % 10)) := by rw [yM_w (a := 81) (n := 20) (i := v12.toNat) (kd := 20) rfl (Ih14.s (a1 := 81) (a2 := 81) (by decide +kernel) (by decide) (by decide)) jbh15.2 eh15, Zh14, sv12]
                    have Rh15 : zMR ms10 h h15 := Rh14.w (a1 := 81) (a2 := 81) (j1 := 0) (j2 := 20) (by decide +kernel) ⟨by decide, by decide⟩ jbh15 eh15
                    refine zwW_p [(1, 0, 2)] (q := 109) (ls' := [(2, 37), (0, a), (0, b), (0, v12)]) (st' := [(2, 37)]) (by decide +kernel) rfl ?_
                    refine zwW_gc Ih15 (kd := 13) (bn := 23) (n := 97) (c := 82) (nx := 112) (by decide +kernel) ?_
                    refine zwW_p [(1, 3, 0), (1, 2, 0), (0, 10, 0)] (q := 116) (ls' := [(2, 37), (0, a), (0, b), (0, v12)]) (st' := [(0, 10), (0, b), (0, v12), (2, 82)]) (by decide +kernel) rfl ?_
                    refine zwW_div (nx := 117) (by decide +kernel) (by omega) (by omega) (by omega) ?_
                    refine zwW_p [(0, 10, 0)] (q := 119) (ls' := [(2, 37), (0, a), (0, b), (0, v12)]) (st' := [(0, 10), (0, (b / 10)), (0, v12), (2, 82)]) (by decide +kernel) rfl ?_
                    refine zwW_rem (nx := 120) (by decide +kernel) (by omega) (by omega) ?_
                    refine zwW_as Ih15 (a1 := 82) (a2 := 82) (n := 20) (lo := 0) (hi := 5) (nx := 121) (by decide +kernel) ⟨by decide, by decide⟩ ib1 ⟨by omega, by omega⟩ ?_
                    intro h16 eh16 Ih16
                    have jbh16 : 0 ≤ v12.toNat ∧ v12.toNat < 20 := ⟨Nat.zero_le _, zit ib1⟩
                    have th16_37_2 : fld h16 37 2 = fld h15 37 2 := by rw [eh16]; exact fld_wr (Or.inl (by decide))
                    have Zh16 : yM h16 = (zs (zs (zs (zs (yM h) 79 (((yM h) 37 2).toNat) a) 80 (((yM h) 37 2).toNat) (b / 1000)) 81 (((yM h) 37 2).toNat) ((b / 100) % 10)) 82 (((yM h) 37 2).toNat) ((b / 10) % 10)) := by rw [yM_w (a := 82) (n := 20) (i := v12.toNat) (kd := 20) rfl (Ih15.s (a1 := 82) (a2 := 82) (by decide +kernel) (by decide) (by decide)) jbh16.2 eh16, Zh15, sv12]
                    have Rh16 : zMR ms10 h h16 := Rh15.w (a1 := 82) (a2 := 82) (j1 := 0) (j2 := 20) (by decide +kernel) ⟨by decide, by decide⟩ jbh16 eh16
                    refine zwW_p [(1, 0, 2)] (q := 122) (ls' := [(2, 37), (0, a), (0, b), (0, v12)]) (st' := [(2, 37)]) (by decide +kernel) rfl ?_
                    refine zwW_gc Ih16 (kd := 13) (bn := 24) (n := 97) (c := 83) (nx := 125) (by decide +kernel) ?_
                    refine zwW_p [(1, 3, 0), (1, 2, 0), (0, 10, 0)] (q := 129) (ls' := [(2, 37), (0, a), (0, b), (0, v12)]) (st' := [(0, 10), (0, b), (0, v12), (2, 83)]) (by decide +kernel) rfl ?_
                    refine zwW_rem (nx := 130) (by decide +kernel) (by omega) (by omega) ?_
                    refine zwW_as Ih16 (a1 := 83) (a2 := 83) (n := 20) (lo := 0) (hi := 9) (nx := 131) (by decide +kernel) ⟨by decide, by decide⟩ ib1 ⟨by omega, by omega⟩ ?_
                    intro h17 eh17 Ih17
                    have jbh17 : 0 ≤ v12.toNat ∧ v12.toNat < 20 := ⟨Nat.zero_le _, zit ib1⟩
                    have th17_37_2 : fld h17 37 2 = fld h16 37 2 := by rw [eh17]; exact fld_wr (Or.inl (by decide))
                    have Zh17 : yM h17 = (zs (zs (zs (zs (zs (yM h) 79 (((yM h) 37 2).toNat) a) 80 (((yM h) 37 2).toNat) (b / 1000)) 81 (((yM h) 37 2).toNat) ((b / 100) % 10)) 82 (((yM h) 37 2).toNat) ((b / 10) % 10)) 83 (((yM h) 37 2).toNat) (b % 10)) := by rw [yM_w (a := 83) (n := 20) (i := v12.toNat) (kd := 20) rfl (Ih16.s (a1 := 83) (a2 := 83) (by decide +kernel) (by decide) (by decide)) jbh17.2 eh17, Zh16, sv12]
                    have Rh17 : zMR ms10 h h17 := Rh16.w (a1 := 83) (a2 := 83) (j1 := 0) (j2 := 20) (by decide +kernel) ⟨by decide, by decide⟩ jbh17 eh17
                    refine zwW_p [(1, 0, 2)] (q := 132) (ls' := [(2, 37), (0, a), (0, b), (0, v12)]) (st' := [(2, 37)]) (by decide +kernel) rfl ?_
                    refine zwW_gc Ih17 (kd := 13) (bn := 26) (n := 97) (c := 85) (nx := 135) (by decide +kernel) ?_
                    refine zwW_p [(1, 3, 0), (0, 10, 0)] (q := 138) (ls' := [(2, 37), (0, a), (0, b), (0, v12)]) (st' := [(0, 10), (0, v12), (2, 85)]) (by decide +kernel) rfl ?_
                    refine zwW_as Ih17 (a1 := 85) (a2 := 85) (n := 20) (lo := 0) (hi := 60) (nx := 139) (by decide +kernel) ⟨by decide, by decide⟩ ib1 ⟨by decide, by decide⟩ ?_
                    intro h18 eh18 Ih18
                    have jbh18 : 0 ≤ v12.toNat ∧ v12.toNat < 20 := ⟨Nat.zero_le _, zit ib1⟩
                    have th18_37_2 : fld h18 37 2 = fld h17 37 2 := by rw [eh18]; exact fld_wr (Or.inl (by decide))
                    have Zh18 : yM h18 = (zs (zs (zs (zs (zs (zs (yM h) 79 (((yM h) 37 2).toNat) a) 80 (((yM h) 37 2).toNat) (b / 1000)) 81 (((yM h) 37 2).toNat) ((b / 100) % 10)) 82 (((yM h) 37 2).toNat) ((b / 10) % 10)) 83 (((yM h) 37 2).toNat) (b % 10)) 85 (((yM h) 37 2).toNat) 10) := by rw [yM_w (a := 85) (n := 20) (i := v12.toNat) (kd := 20) rfl (Ih17.s (a1 := 85) (a2 := 85) (by decide +kernel) (by decide) (by decide)) jbh18.2 eh18, Zh17, sv12]
                    have Rh18 : zMR ms10 h h18 := Rh17.w (a1 := 85) (a2 := 85) (j1 := 0) (j2 := 20) (by decide +kernel) ⟨by decide, by decide⟩ jbh18 eh18
                    refine zwW_p [(1, 0, 2), (12, 0, 0)] (q := 141) (ls' := [(2, 37), (0, a), (0, b), (0, v12)]) (st' := [(2, 37), (2, 37)]) (by decide +kernel) rfl ?_
                    refine zwW_gs Ih18 (kd := 13) (bn := 2) (n := 97) (t := 0) (lo := 0) (hi := 20) (nx := 144) (by decide +kernel) ?_
                    intro v19 ev19 lv19 uv19
                    have sv19 : v19 = (yM h) 37 2 := Eq.trans ev19 (Eq.trans (Eq.symm (yM_s (h := h18) (i := 2) rfl)) (Eq.trans (congrFun (congrFun Zh18 37) 2) (Eq.trans (zs_na (by decide) : (zs (zs (zs (zs (zs (zs (yM h) 79 (((yM h) 37 2).toNat) a) 80 (((yM h) 37 2).toNat) (b / 1000)) 81 (((yM h) 37 2).toNat) ((b / 100) % 10)) 82 (((yM h) 37 2).toNat) ((b / 10) % 10)) 83 (((yM h) 37 2).toNat) (b % 10)) 85 (((yM h) 37 2).toNat) 10) 37 2 = (zs (zs (zs (zs (zs (yM h) 79 (((yM h) 37 2).toNat) a) 80 (((yM h) 37 2).toNat) (b / 1000)) 81 (((yM h) 37 2).toNat) ((b / 100) % 10)) 82 (((yM h) 37 2).toNat) ((b / 10) % 10)) 83 (((yM h) 37 2).toNat) (b % 10)) 37 2) (Eq.trans (zs_na (by decide) : (zs (zs (zs (zs (zs (yM h) 79 (((yM h) 37 2).toNat) a) 80 (((yM h) 37 2).toNat) (b / 1000)) 81 (((yM h) 37 2).toNat) ((b / 100) % 10)) 82 (((yM h) 37 2).toNat) ((b / 10) % 10)) 83 (((yM h) 37 2).toNat) (b % 10)) 37 2 = (zs (zs (zs (zs (yM h) 79 (((yM h) 37 2).toNat) a) 80 (((yM h) 37 2).toNat) (b / 1000)) 81 (((yM h) 37 2).toNat) ((b / 100) % 10)) 82 (((yM h) 37 2).toNat) ((b / 10) % 10)) 37 2) (Eq.trans (zs_na (by decide) : (zs (zs (zs (zs (yM h) 79 (((yM h) 37 2).toNat) a) 80 (((yM h) 37 2).toNat) (b / 1000)) 81 (((yM h) 37 2).toNat) ((b / 100) % 10)) 82 (((yM h) 37 2).toNat) ((b / 10) % 10)) 37 2 = (zs (zs (zs (yM h) 79 (((yM h) 37 2).toNat) a) 80 (((yM h) 37 2).toNat) (b / 1000)) 81 (((yM h) 37 2).toNat) ((b / 100) % 10)) 37 2) (Eq.trans (zs_na (by decide) : (zs (zs (zs (yM h) 79 (((yM h) 37 2).toNat) a) 80 (((yM h) 37 2).toNat) (b / 1000)) 81 (((yM h) 37 2).toNat) ((b / 100) % 10)) 37 2 = (zs (zs (yM h) 79 (((yM h) 37 2).toNat) a) 80 (((yM h) 37 2).toNat) (b / 1000)) 37 2) (Eq.trans (zs_na (by decide) : (zs (zs (yM h) 79 (((yM h) 37 2).toNat) a) 80 (((yM h) 37 2).toNat) (b / 1000)) 37 2 = (zs (yM h) 79 (((yM h) 37 2).toNat) a) 37 2) (Eq.trans (zs_na (by decide) : (zs (yM h) 79 (((yM h) 37 2).toNat) a) 37 2 = (yM h) 37 2) rfl))))))))
                    refine zwW_p [(0, 1, 0)] (q := 145) (ls' := [(2, 37), (0, a), (0, b), (0, v12)]) (st' := [(0, 1), (0, v19), (2, 37)]) (by decide +kernel) rfl ?_
                    refine zwW_add (nx := 146) (by decide +kernel) ⟨by omega, by omega⟩ ?_
                    refine zwW_ps Ih18 (kd := 13) (bn := 2) (n := 97) (lo := 0) (hi := 20) (nx := 149) (by decide +kernel) ⟨by omega, by omega⟩ ?_
                    intro h20 eh20 Ih20
                    have th20_37_2 : fld h20 37 2 = (v19 + 1) := by rw [eh20]; exact fld_wr_eq (Ih18.s (a1 := 37) (a2 := 37) (k := 13) (n := 97) (by decide +kernel) (by decide) (by decide)) (by decide)
                    have Zh20 : yM h20 = (zs (zs (zs (zs (zs (zs (zs (yM h) 79 (((yM h) 37 2).toNat) a) 80 (((yM h) 37 2).toNat) (b / 1000)) 81 (((yM h) 37 2).toNat) ((b / 100) % 10)) 82 (((yM h) 37 2).toNat) ((b / 10) % 10)) 83 (((yM h) 37 2).toNat) (b % 10)) 85 (((yM h) 37 2).toNat) 10) 37 2 (((yM h) 37 2) + 1)) := by rw [yM_ws (i := 2) (kd := 13) (n := 97) rfl (Ih18.s (a1 := 37) (a2 := 37) (by decide +kernel) (by decide) (by decide)) (by decide) eh20, Zh18, sv19]
                    have Rh20 : zMR ms10 h h20 := Rh18.w (a1 := 37) (a2 := 37) (j1 := 2) (j2 := 3) (by decide +kernel) ⟨by decide, by decide⟩ ⟨by decide, by decide⟩ eh20
                    refine zwW_p [(1, 3, 0)] (q := 150) (ls' := [(2, 37), (0, a), (0, b), (0, v12)]) (st' := [(0, v12)]) (by decide +kernel) rfl ?_
                    refine zwW_ret (nx := 151) (a := 0) (b := 0) (by decide +kernel) rfl (Or.inl rfl) ?_
                    exact ⟨Ih20, Rh20, by omega, by unfold yHouA; (repeat' (first | rw [if_pos (by omega)] | rw [if_neg (by omega)])); all_goals (first | rfl | omega), by refine Eq.trans Zh20 ?_; unfold yHouF yHou; (repeat' (first | rw [if_pos (by omega)] | rw [if_neg (by omega)])); all_goals (repeat' (first | rfl | omega | apply zs_cg))⟩
                  · refine zwW_p [(0, -1, 0)] (q := 71) (ls' := [(2, 37), (0, a), (0, b), (9, 0)]) (st' := [(0, -1)]) (by decide +kernel) rfl ?_
                    refine zwW_ret (nx := 72) (a := 0) (b := 0) (by decide +kernel) rfl (Or.inl rfl) ?_
                    exact ⟨I, R, by omega, by unfold yHouA; (repeat' (first | rw [if_pos (by omega)] | rw [if_neg (by omega)])); all_goals (first | rfl | omega), by refine Eq.trans (rfl : yM h = yM h) ?_; unfold yHouF yHou; (repeat' (first | rw [if_pos (by omega)] | rw [if_neg (by omega)])); all_goals (repeat' (first | rfl | omega | apply zs_cg))⟩
  · refine zwif_eq (q := 70) (nx := 8) (by decide +kernel) (fun c21 => ?_) (fun c21 => ?_)
    · refine zwW_p [(0, -1, 0)] (q := 71) (ls' := [(2, 37), (0, a), (0, b), (9, 0)]) (st' := [(0, -1)]) (by decide +kernel) rfl ?_
      refine zwW_ret (nx := 72) (a := 0) (b := 0) (by decide +kernel) rfl (Or.inl rfl) ?_
      exact ⟨I, R, by omega, by unfold yHouA; (repeat' (first | rw [if_pos (by omega)] | rw [if_neg (by omega)])); all_goals (first | rfl | omega), by refine Eq.trans (rfl : yM h = yM h) ?_; unfold yHouF yHou; (repeat' (first | rw [if_pos (by omega)] | rw [if_neg (by omega)])); all_goals (repeat' (first | rfl | omega | apply zs_cg))⟩
    · exfalso; omega
end
section
/-! what was read can be run: for any bytes -/
section WH
variable {n : Nat} {t : pT} {e : Nat} {f hol eit sum sub : pQ → pR} {o : Bool} {P : Int → Prop} {s : pQ} {b c0 : Nat → Int} {h h1 g : Hp} {ms : Zms} {c z : Int}
theorem pV_nn {p : Nat} (hk : pK t n p = 2) : 0 ≤ pV t n p := by
  have hp := pK_lt (t := t) (n := n) (p := p) (by omega)
  unfold pK at hk
  rw [if_pos hp] at hk
  by_cases h1 : pLet (t p) = true
  · rw [if_pos h1] at hk; omega
  · rw [if_neg h1] at hk
    by_cases h2 : pDig (t p) = true
    · unfold pV
      rw [if_neg h1]
      unfold pVl
      have he : pEn t n p = pRun pDig t n p := by unfold pEn; rw [if_pos hp, if_neg h1, if_pos h2]
      have hr := pRun_b (P := pDig) (t := t) (n := n) (n - p) p rfl (by omega)
      rw [he]
      have key : ∀ (f q : Nat) (v : Int), 0 ≤ v → p ≤ q → q + f ≤ pRun pDig t n p → 0 ≤ pNu t f q v := by
        intro f
        induction f with
        | zero => intro q v hv _ _; exact hv
        | succ f IH =>
          intro q v hv hq hf
          have d := pDig_t.mp (hr.2.2.1 q hq (by omega))
          exact IH (q + 1) _ (by omega) (by omega) (by omega)
      exact key _ p 0 (by omega) (Nat.le_refl _) (by omega)
    · rw [if_neg h2] at hk
      by_cases h3 : pSig (t p) = true
      · rw [if_pos h3] at hk
        have := pSig_t.mp h3
        omega
      · rw [if_neg h3] at hk; omega
theorem eH_fac (H : eG n eNum sub) (Hg : pG n sub) : eG n eNum (pFac t n o sub) := by
  intro N hN s h
  unfold pFac
  split
  · rename_i c1
    intro _
    have v0 := pV_nn (t := t) (n := n) c1.1
    show eSg N (zu s.2.2 s.2.1 (pV t n s.1)) eNum s.2.1 (s.2.1 + 1)
    refine eSg_one (by rw [zu_eq]; omega) (fun v hv => ?_)
    rw [zu_eq, if_pos v0] at hv
    rw [hv]
    unfold eNum
    omega
  · split
    · rename_i c1 c2
      intro _
      show eSg N (zu s.2.2 s.2.1 (-1 - pV t n s.1)) eNum s.2.1 (s.2.1 + 1)
      refine eSg_one (by rw [zu_eq]; omega) (fun v hv => ?_)
      rw [zu_eq, if_neg (by omega)] at hv
      rw [hv]
      exact hN _ (by omega)
    · split
      · rename_i c3
        have hp := pK_lt (t := t) (n := n) (p := s.1) (by omega)
        have b := pNx_b (t := t) (n := n) (p := s.1) h
        split
        · rename_i c4
          have g := H N hN (pA t n s) (by show pNx t n s.1 ≤ n; omega) c4
          split
          · intro _; exact g
          · intro z; cases z
        · intro z; exact absurd z ‹_›
      · intro z; cases z
theorem eH_fc : ∀ e : Nat, eG n eNum (pFc t n e)
  | 0 => eH_fac eG_no pG_no
  | e + 1 => eH_fac (eG_sm0 (eH_fc e) (pG_fc e)) (pG_sm0 (pG_fc e))
theorem eH_sum (e : Nat) : eG n eNum (pSum t n e) := eG_sm0 (eH_fc e) (pG_fc e)
theorem eH_ho : ∀ e : Nat, eG n eBit (pHo t n e)
  | 0 => eG_hol eG_no pG_no eG_no (eH_sum 0) (pG_sum 0)
  | e + 1 => eG_hol (eH_ho e) (pG_ho e) (eG_ei0 (eH_ho e) (pG_ho e)) (eH_sum (e + 1)) (pG_sum (e + 1))
theorem eH_ei (e : Nat) : eG n eBit (pEi t n e) := eG_ei0 (eH_ho e) (pG_ho e)
theorem pCb_eH (c : Int) (N : Nat → Int) (hN : eNs N) (s : pQ) (hs : s.1 ≤ n) (h : (pCb t n c s).1 = true) : eSg N (pCb t n c s).2.2.2 (if c < 3 then eNum else eBit) s.2.1 (pCb t n c s).2.2.1 := by
  unfold pCb at h ⊢
  by_cases z : c < 3
  · simp only [if_pos z] at h ⊢
    exact eH_sum 8 N hN s hs h
  · simp only [if_neg z] at h ⊢
    exact eH_ei 8 N hN s hs h
theorem pWh_cls (W : rW n s) (G : pWg s b) (h : (pCls t n s b).1 = true) : pWg (pCls t n s b).2.1 (pCls t n s b).2.2 := by
  by_cases c1 : pCc t n s b
  · have V := W.a (t := t) (by have := c1.1; omega)
    by_cases c2 : (pBo t n s).1 = true
    · by_cases c3 : pK t n (pBo t n s).2.1 = 59
      · rw [pCls_t c1 c2 c3]
        have E : ∀ N, eNs N → eSg N (pBo t n s).2.2.2 (if pV t n s.1 - 13 < 3 then eNum else eBit) s.2.1 (pBo t n s).2.2.1 := fun N hN => pCb_eH (pV t n s.1 - 13) N hN (pA t n s) V.2 c2
        have g := pG_cb (t := t) (n := n) (pV t n s.1 - 13) (pA t n s) V.2
        have g3 : s.2.1 ≤ (pBo t n s).2.2.1 := g.2.2.1
        have g5 : s.2.1 < (pBo t n s).2.2.1 := (g.2.2.2.2.1 c2).2
        have g6 : ∀ i, i < s.2.1 → (pBo t n s).2.2.2 i = s.2.2 i := g.2.2.2.2.2
        obtain ⟨c11, c12, c13, c14⟩ := c1
        intro d hd
        show zu b (pV t n s.1 - 13).toNat s.2.1 d = -1 ∨ ∃ B L : Nat, zu b (pV t n s.1 - 13).toNat s.2.1 d = (B : Int) ∧ 0 < L ∧ B + L < (pBo t n s).2.2.1 + 1 ∧ zu (pBo t n s).2.2.2 (pBo t n s).2.2.1 (-21) (B + L) = -21 ∧ ∀ N, eNs N → eSg N (zu (pBo t n s).2.2.2 (pBo t n s).2.2.1 (-21)) (if (d : Int) < 3 then eNum else eBit) B (B + L)
        by_cases z : d = (pV t n s.1 - 13).toNat
        · right
          have ed : (d : Int) = pV t n s.1 - 13 := by omega
          refine ⟨s.2.1, (pBo t n s).2.2.1 - s.2.1, by rw [z, zu_eq], by omega, by omega, by rw [show s.2.1 + ((pBo t n s).2.2.1 - s.2.1) = (pBo t n s).2.2.1 by omega, zu_eq], fun N hN => ?_⟩
          rw [show s.2.1 + ((pBo t n s).2.2.1 - s.2.1) = (pBo t n s).2.2.1 by omega, ed]
          exact eSg_cg (E N hN) (fun r r1 r2 => (zu_ne (by omega)).symm)
        · rw [zu_ne z]
          rcases G d hd with y | ⟨B, L, y1, y2, y3, y4, y5⟩
          · exact Or.inl y
          · right
            refine ⟨B, L, y1, y2, by omega, by rw [zu_ne (by omega), g6 _ (by omega)]; exact y4, fun N hN => ?_⟩
            exact eSg_cg (y5 N hN) (fun r r1 r2 => by rw [zu_ne (by omega), g6 _ (by omega)])
      · rw [pCls_s c1 c2 c3] at h
        cases h
    · rw [pCls_f c1 c2] at h
      cases h
  · rw [pCls_no c1] at h
    cases h
theorem pWh_rd : ∀ (m : Nat) (s : pQ) (b : Nat → Int), rW n s → pWg s b → (pRd t n m s b).1 = true → pWg (pRd t n m s b).2.1 (pRd t n m s b).2.2 ∧ rW n (pRd t n m s b).2.1
  | 0, _, _, W, G, _ => ⟨G, W⟩
  | m + 1, s, b, W, G, h => by
    by_cases h0 : pK t n s.1 = 0
    · rw [pRd_z (Or.inr h0)]
      exact ⟨G, W⟩
    · by_cases h1 : (pCls t n s b).1 = true
      · rw [pRd_n rfl h0 h1] at h ⊢
        exact pWh_rd m _ _ (pCls_W W h1).1 (pWh_cls W G h1) h
      · rw [pRd_f rfl h0 h1] at h
        exact absurd h h1
theorem pWh_read (h0 : pSk t n 0 ≤ n) (h : pFa t n c0 = -1) : pWg (pRead t n c0).2.1 (pRead t n c0).2.2 ∧ rW n (pRead t n c0).2.1 := by
  refine pWh_rd 400 (pSk t n 0, 0, c0) (fun _ => -1) ⟨Nat.zero_le _, h0⟩ (fun d _ => Or.inl rfl) ?_
  by_cases z : (pRead t n c0).1 = true
  · exact z
  · rw [pFa_f z] at h
    omega
end WH
end
section
/-! what stays, of the tables: pure -/
section YIV
variable {S T U : zT} {a i j k l n u v m : Nat} {b c d x y : Int} {q : qT}
def yCn (S : zT) (v : Int) : Nat → Int
  | 0 => 0
  | u + 1 => if S 184 u = v then yCn S v u + 1 else yCn S v u
theorem yCn_s {w : Int} : yCn S w (m + 1) = if S 184 m = w then yCn S w m + 1 else yCn S w m := rfl
theorem yCn_b {w : Int} : ∀ m : Nat, 0 ≤ yCn S w m ∧ yCn S w m ≤ m
  | 0 => ⟨Int.le_refl _, by show (0 : Int) ≤ ((0 : Nat) : Int); omega⟩
  | m + 1 => by
    have h := yCn_b (w := w) m
    rw [yCn_s]
    split <;> omega
theorem yCn_lt {w : Int} (h : S 184 u ≠ w) : ∀ m : Nat, u < m → yCn S w m ≤ (m : Int) - 1
  | 0, z => absurd z (Nat.not_lt_zero _)
  | m + 1, z => by
    rw [yCn_s]
    by_cases e : u = m
    · subst e
      rw [if_neg h]
      have := yCn_b (S := S) (w := w) u
      omega
    · have := yCn_lt h m (by omega)
      split <;> omega
theorem yCn_ag {w : Int} (H : ∀ u, T 184 u = S 184 u) : ∀ m : Nat, yCn T w m = yCn S w m
  | 0 => rfl
  | m + 1 => by
    rw [yCn_s, yCn_s, H m, yCn_ag H m]
theorem yCn_br {w z : Int} (h : S 184 u = -1) (hw : w ≠ -1) : ∀ m : Nat, yCn (zs S 184 u z) w m = yCn S w m + (if u < m ∧ z = w then 1 else 0)
  | 0 => by
    rw [if_neg (fun t => absurd t.1 (Nat.not_lt_zero _))]
    rfl
  | m + 1 => by
    have ih := yCn_br (z := z) h hw m
    rw [yCn_s, yCn_s, ih]
    by_cases e : m = u
    · subst e
      rw [zs_eq, h, if_neg (show ¬ (-1 : Int) = w from fun t => hw t.symm), if_neg (show ¬ (m < m ∧ z = w) by omega)]
      by_cases f : z = w
      · rw [if_pos f, if_pos (show m < m + 1 ∧ z = w from ⟨by omega, f⟩)]
        omega
      · rw [if_neg f, if_neg (fun t => f t.2)]
    · rw [zs_ni e]
      by_cases g : u < m ∧ z = w
      · rw [if_pos g, if_pos (show u < m + 1 ∧ z = w from ⟨by omega, g.2⟩)]
        split <;> omega
      · rw [if_neg g, if_neg (show ¬ (u < m + 1 ∧ z = w) from fun t => g ⟨by omega, t.2⟩)]
        split <;> omega
/-- what bringing rests on -/
def yBr (S : zT) : Prop := (0 ≤ S 37 78 ∧ S 37 78 ≤ 200) ∧ (∀ v : Nat, (v : Int) < S 37 1 → (0 ≤ S 67 v ∧ 0 ≤ S 68 v) ∧ S 67 v + S 68 v ≤ 20 * yCn S v (S 37 78).toNat) ∧ (∀ u : Nat, (u : Int) < S 37 78 → (0 ≤ S 183 u ∧ S 183 u ≤ 20) ∧ (0 ≤ S 181 u ∧ S 181 u < S 37 2)) ∧ (∀ k : Nat, (k : Int) < S 37 2 → S 91 k ≤ 40 ∧ (0 ≤ S 92 k ∧ S 92 k ≤ 40))
theorem yBr.rm (B : yBr S) : yRm S := fun u v hu hv h => by
  obtain ⟨⟨b1, b2⟩, b3, b4, -⟩ := B
  obtain ⟨⟨c1, c2⟩, c3⟩ := b3 v hv
  have d := (b4 u hu).1
  have e := yCn_lt (S := S) (w := (v : Int)) (u := u) (by omega) (S 37 78).toNat (by omega)
  exact ⟨⟨c1, c2, d.1⟩, by omega⟩
theorem yBr.hb (B : yBr S) : ∀ u : Nat, (u : Int) < S 37 78 → 0 ≤ S 181 u ∧ S 181 u < S 37 2 := fun u hu => (B.2.2.1 u hu).2
def yKb (a i : Nat) : Prop := (a = 37 ∧ (i = 1 ∨ i = 2 ∨ i = 78)) ∨ a = 67 ∨ a = 68 ∨ a = 181 ∨ a = 183 ∨ a = 184 ∨ a = 91 ∨ a = 92
theorem yBr.ag (B : yBr S) (t : ∀ a i, yKb a i → T a i = S a i) : yBr T := by
  have s1 := t 37 1 (by unfold yKb; omega)
  have s2 := t 37 2 (by unfold yKb; omega)
  have s3 := t 37 78 (by unfold yKb; omega)
  have r : ∀ a i, a = 67 ∨ a = 68 ∨ a = 181 ∨ a = 183 ∨ a = 184 ∨ a = 91 ∨ a = 92 → T a i = S a i := fun a i e => t a i (by unfold yKb; omega)
  obtain ⟨b1, b2, b3, b4⟩ := B
  refine ⟨by rw [s3]; exact b1, fun v hv => ?_, fun u hu => ?_, fun k hk => ?_⟩
  · rw [r 67 v (by omega), r 68 v (by omega), s3, yCn_ag (fun u => r 184 u (by omega))]
    exact b2 v (by omega)
  · rw [r 183 u (by omega), r 181 u (by omega), s2]
    exact b3 u (by omega)
  · rw [r 91 k (by omega), r 92 k (by omega)]
    exact b4 k (by omega)
/-- the first week's price -/
def y57 (S : zT) : Prop := ∀ v : Nat, (v : Int) < S 37 1 → S 57 (157 * v) = 10
theorem y57.ag (H : y57 S) (s1 : T 37 1 = S 37 1) (t : ∀ i, T 57 i = S 57 i) : y57 T := fun v hv => by
  rw [t]
  exact H v (by omega)
def yKi (a i : Nat) : Prop := yKt a i ∨ a = 85 ∨ a = 66 ∨ a = 65 ∨ a = 206
theorem yInv.ag (V : yInv S) (t : ∀ a i, yKi a i → T a i = S a i) : yInv T := by
  obtain ⟨K, B, H, Z⟩ := V
  have s0 := t 37 0 (Or.inl (Or.inl ⟨rfl, by omega⟩))
  have s1 := t 37 1 (Or.inl (Or.inl ⟨rfl, by omega⟩))
  refine ⟨K.ag (fun a i e => t a i (Or.inl e)), B.as (fun a i e => t a i (by unfold yKi yKt; omega)) (by rw [s0]; exact B.2.2.2.1), fun v hv => ?_, fun j hj => ?_⟩
  · rw [t 65 v (by unfold yKi; omega)]
    exact H v (by omega)
  · rw [t 206 j (by unfold yKi; omega)]
    exact Z j (by rw [← s0]; exact hj)
def yIv (S : zT) : Prop := yInv S ∧ yBr S ∧ y57 S
def yKj (a i : Nat) : Prop := yKi a i ∨ yKb a i ∨ a = 57
theorem yIv.ag (V : yIv S) (t : ∀ a i, yKj a i → T a i = S a i) : yIv T := ⟨V.1.ag (fun a i e => t a i (Or.inl e)), V.2.1.ag (fun a i e => t a i (Or.inr (Or.inl e))), V.2.2.ag (t 37 1 (Or.inr (Or.inl (Or.inl ⟨rfl, by omega⟩)))) (fun i => t 57 i (Or.inr (Or.inr rfl)))⟩
theorem yIv.zss (V : yIv S) (e : ¬ yKj a i) : yIv (zs S a i x) := V.ag (fun b j hb => by
  rw [zs_if]
  refine if_neg (fun z => e ?_)
  rw [← z.1, ← z.2]
  exact hb)
theorem yKj_n (e : (a ≠ 39 ∧ a ≠ 71 ∧ a ≠ 79 ∧ a ≠ 80 ∧ a ≠ 81 ∧ a ≠ 82 ∧ a ≠ 83) ∧ (a ≠ 170 ∧ a ≠ 172 ∧ a ≠ 173 ∧ a ≠ 85 ∧ a ≠ 66 ∧ a ≠ 65 ∧ a ≠ 206) ∧ (a ≠ 67 ∧ a ≠ 68 ∧ a ≠ 181 ∧ a ≠ 183 ∧ a ≠ 184 ∧ a ≠ 91 ∧ a ≠ 92 ∧ a ≠ 57) ∧ (a ≠ 37 ∨ (i ≠ 0 ∧ i ≠ 1 ∧ i ≠ 2 ∧ i ≠ 64 ∧ i ≠ 78))) : ¬ yKj a i := by
  unfold yKj yKi yKb yKt
  omega
/-- single places -/
theorem yIv.s71 (V : yIv S) (hx : 1 ≤ x ∧ x ≤ 99) : yIv (zs S 71 v x) := by
  obtain ⟨⟨K, B, H, Z⟩, R, P⟩ := V
  refine ⟨⟨?_, B.as (fun a i e => zs_na (by omega)) (by rw [zs_na (by decide)]; exact B.2.2.2.1), fun u hu => ?_, fun j hj => ?_⟩, R.ag (fun a i e => zs_na (by unfold yKb at e; omega)), P.ag (zs_na (by decide)) (fun i => zs_na (by decide))⟩
  · refine ⟨by rw [zs_na (by decide), zs_na (by decide), zs_na (by decide), zs_na (by decide)]; exact K.1, fun k hk => ?_, fun u hu => ?_, fun l hl => ?_⟩
    · rw [zs_na (by decide)] at hk
      rw [zs_na (by decide), zs_na (by decide), zs_na (by decide), zs_na (by decide), zs_na (by decide), zs_na (by decide)]
      exact K.2.1 k hk
    · rw [zs_na (by decide)] at hu
      refine ⟨?_, fun s hs => by rw [zs_na (by decide)]; exact (K.vi hu).2 s hs⟩
      by_cases z : u = v
      · rw [z, zs_eq]
        exact hx
      · rw [zs_ni z]
        exact (K.vi hu).1
    · rw [zs_na (by decide)] at hl
      rw [zs_na (by decide), zs_na (by decide), zs_na (by decide), zs_na (by decide)]
      exact K.2.2.2 l hl
  · rw [zs_na (by decide)] at hu
    rw [zs_na (by decide)]
    exact H u hu
  · rw [zs_na (by decide)] at hj
    rw [zs_na (by decide)]
    exact Z j hj
theorem yIv.s85 (V : yIv S) (hx : 4 ≤ x ∧ x ≤ 60) : yIv (zs S 85 n x) := by
  obtain ⟨⟨K, B, H, Z⟩, R, P⟩ := V
  refine ⟨⟨K.zss (yKt_n (by decide)), ?_, fun u hu => ?_, fun j hj => ?_⟩, R.ag (fun a i e => zs_na (by unfold yKb at e; omega)), P.ag (zs_na (by decide)) (fun i => zs_na (by decide))⟩
  · obtain ⟨b1, b2, b3, b4, b5, b6⟩ := B
    refine ⟨fun k hk => ?_, fun v hv => ?_, by rw [zs_na (by decide)]; exact b3, by rw [zs_na (by decide)]; exact b4, by rw [zs_na (by decide)]; exact b5, by rw [zs_na (by decide)]; exact b6⟩
    · rw [zs_na (by decide)] at hk
      have w := b1 k hk
      rw [zs_na (a := 85) (b := 80) (by decide), zs_na (a := 85) (b := 81) (by decide), zs_na (a := 85) (b := 79) (by decide), zs_na (a := 85) (b := 37) (by decide)]
      refine ⟨w.1, w.2.1, ?_, w.2.2.2⟩
      by_cases z : k = n
      · rw [z, zs_eq]
        exact hx
      · rw [zs_ni z]
        exact w.2.2.1
    · rw [zs_na (by decide)] at hv
      refine ⟨by rw [zs_na (by decide)]; exact (b2 v hv).1, fun s hs => by rw [zs_na (by decide)]; exact (b2 v hv).2 s hs⟩
  · rw [zs_na (by decide)] at hu
    rw [zs_na (by decide)]
    exact H u hu
  · rw [zs_na (by decide)] at hj
    rw [zs_na (by decide)]
    exact Z j hj
theorem yIv.s66 (V : yIv S) (hx : 0 ≤ x ∧ x ≤ 9999) : yIv (zs S 66 n x) := by
  obtain ⟨⟨K, B, H, Z⟩, R, P⟩ := V
  refine ⟨⟨K.zss (yKt_n (by decide)), ?_, fun u hu => ?_, fun j hj => ?_⟩, R.ag (fun a i e => zs_na (by unfold yKb at e; omega)), P.ag (zs_na (by decide)) (fun i => zs_na (by decide))⟩
  · obtain ⟨b1, b2, b3, b4, b5, b6⟩ := B
    refine ⟨fun k hk => ?_, fun v hv => ?_, by rw [zs_na (by decide)]; exact b3, by rw [zs_na (by decide)]; exact b4, by rw [zs_na (by decide)]; exact b5, by rw [zs_na (by decide)]; exact b6⟩
    · rw [zs_na (by decide)] at hk
      rw [zs_na (a := 66) (b := 80) (by decide), zs_na (a := 66) (b := 81) (by decide), zs_na (a := 66) (b := 85) (by decide), zs_na (a := 66) (b := 79) (by decide), zs_na (a := 66) (b := 37) (by decide)]
      exact b1 k hk
    · rw [zs_na (by decide)] at hv
      refine ⟨?_, fun s hs => by rw [zs_na (by decide)]; exact (b2 v hv).2 s hs⟩
      by_cases z : v = n
      · rw [z, zs_eq]
        exact hx
      · rw [zs_ni z]
        exact (b2 v hv).1
  · rw [zs_na (by decide)] at hu
    rw [zs_na (by decide)]
    exact H u hu
  · rw [zs_na (by decide)] at hj
    rw [zs_na (by decide)]
    exact Z j hj
theorem yIv.s91 (V : yIv S) (hx : x ≤ 40) : yIv (zs S 91 n x) := by
  obtain ⟨W, R, P⟩ := V
  refine ⟨W.ag (fun a i e => zs_na (by unfold yKi yKt at e; omega)), ?_, P.ag (zs_na (by decide)) (fun i => zs_na (by decide))⟩
  obtain ⟨b1, b2, b3, b4⟩ := R
  refine ⟨by rw [zs_na (by decide)]; exact b1, fun v hv => ?_, fun u hu => ?_, fun k hk => ?_⟩
  · rw [zs_na (by decide)] at hv
    rw [zs_na (a := 91) (b := 67) (by decide), zs_na (a := 91) (b := 68) (by decide), zs_na (a := 91) (b := 37) (by decide), yCn_ag (S := S) (fun u => zs_na (by decide))]
    exact b2 v hv
  · rw [zs_na (by decide)] at hu
    rw [zs_na (a := 91) (b := 183) (by decide), zs_na (a := 91) (b := 181) (by decide), zs_na (a := 91) (b := 37) (by decide)]
    exact b3 u hu
  · rw [zs_na (by decide)] at hk
    rw [zs_na (a := 91) (b := 92) (by decide)]
    refine ⟨?_, (b4 k hk).2⟩
    by_cases z : k = n
    · rw [z, zs_eq]
      exact hx
    · rw [zs_ni z]
      exact (b4 k hk).1
/-- the calls that write little -/
theorem yIv.coin (V : yIv S) : yIv (yCoin S x y) := by
  unfold yCoin
  split
  · exact V.zss (yKj_n (by omega))
  · exact V
theorem yIv.mill (V : yIv S) : yIv (yMill S x y) := by
  unfold yMill
  split
  · exact V.zss (yKj_n (by omega))
  · exact V
theorem yIv.sold (V : yIv S) : yIv (ySold S x y) := by
  unfold ySold
  split
  · exact V.zss (yKj_n (by omega))
  · exact V
theorem yIv.talk (V : yIv S) : yIv (yTalk S x y) := by
  unfold yTalk
  split
  · exact V.zss (yKj_n (by omega))
  · exact V
theorem yIv.gift {z : Int} (V : yIv S) : yIv (yGift S x y z) := by
  unfold yGift
  split
  · exact (((V.zss (yKj_n (by omega))).zss (yKj_n (by omega))).zss (yKj_n (by omega))).zss (yKj_n (by omega))
  · exact V
theorem yIv.forg (V : yIv S) : yIv (yForg S) := V.zss (yKj_n (by omega))
theorem yIv.pay {z : Int} (V : yIv S) : yIv (yPay S x y z) := by
  unfold yPay
  split
  · split
    · exact ((V.zss (yKj_n (by omega))).zss (yKj_n (by omega))).zss (yKj_n (by omega))
    · exact (((V.zss (yKj_n (by omega))).zss (yKj_n (by omega))).zss (yKj_n (by omega))).zss (yKj_n (by omega))
  · exact V
theorem yIv.pric (V : yIv S) : yIv (yPric S x y) := by
  unfold yPric
  split
  · exact (V.zss (yKj_n (by omega))).s71 (by omega)
  · exact V
theorem yIv.aim (V : yIv S) : yIv (yAim S x y) := by
  unfold yAim
  split
  · exact V.s85 (by omega)
  · exact V
theorem yIv.cott (V : yIv S) : yIv (yCott S x y) := by
  unfold yCott
  split
  · rename_i h
    have w := (V.1.2.1.2.1 x.toNat (by omega)).1
    have e : w32 (S 66 x.toNat + y) = S 66 x.toNat + y := w32_id ⟨by omega, by omega⟩
    exact V.s66 (by omega)
  · exact V
theorem yIv.loom {z : Int} (V : yIv S) : yIv (yLoom S x y z) := by
  unfold yLoom
  split
  · exact ((V.zss (yKj_n (by omega))).zss (yKj_n (by omega))).s91 (by omega)
  · exact V
end YIV
end
section
/-! a village, a house, weaving, bringing, weeks: what stays -/
section YIW
variable {S T U : zT} {a i j k l n u v m : Nat} {b c d x y z : Int} {q : qT}
/-- a village more -/
theorem yVil_37 (e : i ≠ 1) : yVil S n x y z 37 i = S 37 i := by
  unfold yVil
  rw [zs_ni e, z57_n (by decide), yVi0_n (by decide)]
theorem yVil_1 : yVil S n x y z 37 1 = n + 1 := zs_eq
theorem yVil_n (e : a ≠ 37 ∧ a ≠ 39 ∧ a ≠ 57 ∧ a ≠ 65 ∧ a ≠ 66 ∧ a ≠ 70 ∧ a ≠ 71) : yVil S n x y z a i = S a i := by
  unfold yVil
  rw [zs_na e.1, z57_n (by omega), yVi0_n (by omega)]
theorem yVil_71 : yVil S n x y z 71 i = if i = n then 10 else S 71 i := by
  unfold yVil
  rw [zs_na (by decide), z57_n (by decide)]
  unfold yVi0
  rw [zs_if]
  by_cases h : i = n
  · rw [if_pos ⟨rfl, h⟩, if_pos h]
  · rw [if_neg (fun z => h z.2), if_neg h]
    simp (disch := decide) only [zs_na]
theorem yVil_65 : yVil S n x y z 65 i = if i = n then y else S 65 i := by
  unfold yVil
  rw [zs_na (by decide), z57_n (by decide)]
  unfold yVi0
  simp (disch := decide) only [zs_na]
  rw [zs_if]
  by_cases h : i = n
  · rw [if_pos ⟨rfl, h⟩, if_pos h]
  · rw [if_neg (fun z => h z.2), if_neg h]
    simp (disch := decide) only [zs_na]
theorem yVil_66 : yVil S n x y z 66 i = if i = n then z else S 66 i := by
  unfold yVil
  rw [zs_na (by decide), z57_n (by decide)]
  unfold yVi0
  simp (disch := decide) only [zs_na]
  rw [zs_if]
  by_cases h : i = n
  · rw [if_pos ⟨rfl, h⟩, if_pos h]
  · rw [if_neg (fun z => h z.2), if_neg h]
    simp (disch := decide) only [zs_na]
theorem yVil_39 {s : Nat} (hs : s < 4) : yVil S n x y z 39 (4 * v + s) = if v = n then zid x s else S 39 (4 * v + s) := by
  unfold yVil
  rw [zs_na (by decide), z57_n (by decide)]
  unfold yVi0
  simp (disch := decide) only [zs_na]
  rw [zs_if, zs_if, zs_if, zs_if]
  by_cases h : v = n
  · subst h
    rw [if_pos rfl]
    have w : s = 0 ∨ s = 1 ∨ s = 2 ∨ s = 3 := by omega
    rcases w with rfl | rfl | rfl | rfl
    · rw [if_neg (by omega), if_neg (by omega), if_neg (by omega), if_pos ⟨rfl, by omega⟩]
    · rw [if_neg (by omega), if_neg (by omega), if_pos ⟨rfl, by omega⟩]
    · rw [if_neg (by omega), if_pos ⟨rfl, by omega⟩]
    · rw [if_pos ⟨rfl, by omega⟩]
  · rw [if_neg (by omega), if_neg (by omega), if_neg (by omega), if_neg (by omega), if_neg h]
theorem yVil_57 : yVil S n x y z 57 (157 * v) = if v = n then 10 else S 57 (157 * v) := by
  unfold yVil
  rw [zs_na (by decide)]
  show (if 57 = 57 ∧ 157 * v / 157 = n ∧ 157 * v % 157 < (S 37 0).toNat + 1 then (10 : Int) else yVi0 S n x y z 57 (157 * v)) = _
  rw [yVi0_n (by decide)]
  by_cases h : v = n
  · rw [if_pos ⟨rfl, by omega, by omega⟩, if_pos h]
  · rw [if_neg (by omega), if_neg h]
theorem zid_b {s : Nat} (h : 0 ≤ x ∧ x / 1000000 ≤ 40 ∧ x / 10000 % 100 ≤ 40 ∧ x / 100 % 100 ≤ 40 ∧ x % 100 ≤ 40) : 0 ≤ zid x s ∧ zid x s ≤ 40 := by
  unfold zid
  split
  · omega
  · split
    · omega
    · split <;> omega
theorem yIv.vil (V : yIv S) (z7 : S 67 (S 37 1).toNat = 0) (z8 : S 68 (S 37 1).toNat = 0) : yIv (yVilF S x y z) := by
  unfold yVilF
  split
  rotate_left 1
  · exact V
  rename_i h
  obtain ⟨h8, hx, hy, hz⟩ := h
  obtain ⟨⟨K, B, H, Z⟩, ⟨r1, r2, r3, r4⟩, P⟩ := V
  have s1 := K.s.2.1.1
  have en : (((S 37 1).toNat : Nat) : Int) = S 37 1 := by omega
  generalize hn : (S 37 1).toNat = n at en z7 z8
  have t37 : ∀ i, i ≠ 1 → yVil S n x y z 37 i = S 37 i := fun i e => yVil_37 e
  have t1 : yVil S n x y z 37 1 = S 37 1 + 1 := by rw [yVil_1, en]
  have tn : ∀ a i, (a ≠ 37 ∧ a ≠ 39 ∧ a ≠ 57 ∧ a ≠ 65 ∧ a ≠ 66 ∧ a ≠ 70 ∧ a ≠ 71) → yVil S n x y z a i = S a i := fun a i e => yVil_n e
  have ho : ∀ k : Nat, (k : Int) < S 37 2 → _ := K.2.1
  refine ⟨⟨⟨?_, fun k hk => ?_, fun u hu => ?_, fun l hl => ?_⟩, ⟨fun k hk => ?_, fun u hu => ?_, ?_, ?_, ?_, ?_⟩, fun u hu => ?_, fun j hj => ?_⟩, ⟨?_, fun u hu => ?_, fun u hu => ?_, fun k hk => ?_⟩, fun u hu => ?_⟩
  · rw [t37 0 (by decide), t1, t37 2 (by decide), t37 64 (by decide)]
    exact ⟨K.1.1, by omega, K.1.2.2⟩
  · rw [t37 2 (by decide)] at hk
    rw [tn 80 k (by omega), tn 81 k (by omega), tn 82 k (by omega), tn 83 k (by omega), tn 79 k (by omega), t1]
    have w := ho k hk
    exact ⟨w.1, w.2.1, w.2.2.1, w.2.2.2.1, w.2.2.2.2.1, by omega⟩
  · rw [t1] at hu
    rw [yVil_71]
    refine ⟨?_, fun s hs => ?_⟩
    · by_cases e : u = n
      · rw [if_pos e]
        omega
      · rw [if_neg e]
        exact (K.vi (by omega)).1
    · rw [yVil_39 hs]
      by_cases e : u = n
      · rw [if_pos e]
        exact zid_b hx
      · rw [if_neg e]
        exact (K.vi (by omega)).2 s hs
  · rw [t37 64 (by decide)] at hl
    rw [tn 172 l (by omega), tn 173 l (by omega), tn 170 l (by omega), t37 2 (by decide)]
    exact K.2.2.2 l hl
  · rw [t37 2 (by decide)] at hk
    rw [tn 80 k (by omega), tn 81 k (by omega), tn 85 k (by omega), tn 79 k (by omega), t1]
    have w := B.1 k hk
    exact ⟨w.1, w.2.1, w.2.2.1, w.2.2.2.1, by omega⟩
  · rw [t1] at hu
    rw [yVil_66]
    refine ⟨?_, fun s hs => ?_⟩
    · by_cases e : u = n
      · rw [if_pos e]
        exact hz
      · rw [if_neg e]
        exact (B.2.1 u (by omega)).1
    · rw [yVil_39 hs]
      by_cases e : u = n
      · rw [if_pos e]
        exact zid_b hx
      · rw [if_neg e]
        exact (B.2.1 u (by omega)).2 s hs
  · rw [t37 64 (by decide)]
    exact B.2.2.1
  · rw [t37 0 (by decide)]
    exact B.2.2.2.1
  · rw [t1]
    omega
  · rw [t37 2 (by decide)]
    exact B.2.2.2.2.2
  · rw [t1] at hu
    rw [yVil_65]
    by_cases e : u = n
    · rw [if_pos e]
      omega
    · rw [if_neg e]
      exact H u (by omega)
  · rw [t37 0 (by decide)] at hj
    rw [tn 206 j (by omega)]
    exact Z j hj
  · rw [t37 78 (by decide)]
    exact r1
  · rw [t1] at hu
    rw [tn 67 u (by omega), tn 68 u (by omega), t37 78 (by decide), yCn_ag (S := S) (fun w => tn 184 w (by omega))]
    by_cases e : u = n
    · have w := yCn_b (S := S) (w := (u : Int)) (S 37 78).toNat
      rw [e] at w ⊢
      rw [z7, z8]
      omega
    · exact r2 u (by omega)
  · rw [t37 78 (by decide)] at hu
    rw [tn 183 u (by omega), tn 181 u (by omega), t37 2 (by decide)]
    exact r3 u hu
  · rw [t37 2 (by decide)] at hk
    rw [tn 91 k (by omega), tn 92 k (by omega)]
    exact r4 k hk
  · rw [t1] at hu
    rw [yVil_57]
    by_cases e : u = n
    · rw [if_pos e]
    · rw [if_neg e]
      exact P u (by omega)
/-- a house more -/
theorem yHou_n {w x2 x3 x4 x5 : Int} (e : (a ≠ 79 ∧ a ≠ 80 ∧ a ≠ 81 ∧ a ≠ 82 ∧ a ≠ 83 ∧ a ≠ 85) ∧ (a ≠ 37 ∨ i ≠ 2)) : yHou S n w x2 x3 x4 x5 a i = S a i := by
  obtain ⟨⟨e1, e2, e3, e4, e5, e6⟩, e7⟩ := e
  unfold yHou
  rw [zs_if, if_neg (by omega), zs_na e6, zs_na e5, zs_na e4, zs_na e3, zs_na e2, zs_na e1]
theorem yHou_2 {w x2 x3 x4 x5 : Int} : yHou S n w x2 x3 x4 x5 37 2 = n + 1 := zs_eq
theorem yHou_o {w x2 x3 x4 x5 : Int} (h : i ≠ n) (e : a ≠ 37) : yHou S n w x2 x3 x4 x5 a i = S a i := by
  unfold yHou
  rw [zs_na e, zs_ni h, zs_ni h, zs_ni h, zs_ni h, zs_ni h, zs_ni h]
theorem yHou_e {w x2 x3 x4 x5 : Int} : yHou S n w x2 x3 x4 x5 79 n = w ∧ yHou S n w x2 x3 x4 x5 80 n = x2 ∧ yHou S n w x2 x3 x4 x5 81 n = x3 ∧ yHou S n w x2 x3 x4 x5 82 n = x4 ∧ yHou S n w x2 x3 x4 x5 83 n = x5 ∧ yHou S n w x2 x3 x4 x5 85 n = 10 := by
  unfold yHou
  refine ⟨?_, ?_, ?_, ?_, ?_, ?_⟩ <;> simp (disch := decide) only [zs_na, zs_eq]
theorem yIv.hou (V : yIv S) (z1 : S 91 (S 37 2).toNat = 0) (z2 : S 92 (S 37 2).toNat = 0) : yIv (yHouF S x y) := by
  unfold yHouF
  split
  rotate_left 1
  · exact V
  rename_i h
  obtain ⟨h1, h2, h3, h4, h5, h6, h7, h8⟩ := h
  obtain ⟨⟨K, B, H, Z⟩, ⟨r1, r2, r3, r4⟩, P⟩ := V
  have s1 := K.s.2.2.1.1
  have en : (((S 37 2).toNat : Nat) : Int) = S 37 2 := by omega
  generalize hn : (S 37 2).toNat = n at en z1 z2
  have t1 : yHou S n x (y / 1000) (y / 100 % 10) (y / 10 % 10) (y % 10) 37 2 = S 37 2 + 1 := by rw [yHou_2, en]
  have tn : ∀ a i, (a ≠ 79 ∧ a ≠ 80 ∧ a ≠ 81 ∧ a ≠ 82 ∧ a ≠ 83 ∧ a ≠ 85) ∧ (a ≠ 37 ∨ i ≠ 2) → yHou S n x (y / 1000) (y / 100 % 10) (y / 10 % 10) (y % 10) a i = S a i := fun a i e => yHou_n e
  have to : ∀ a i, i ≠ n → a ≠ 37 → yHou S n x (y / 1000) (y / 100 % 10) (y / 10 % 10) (y % 10) a i = S a i := fun a i e f => yHou_o e f
  obtain ⟨e79, e80, e81, e82, e83, e85⟩ := yHou_e (S := S) (n := n) (w := x) (x2 := y / 1000) (x3 := y / 100 % 10) (x4 := y / 10 % 10) (x5 := y % 10)
  generalize hT : yHou S n x (y / 1000) (y / 100 % 10) (y / 10 % 10) (y % 10) = T at t1 tn to e79 e80 e81 e82 e83 e85
  refine ⟨⟨⟨?_, fun k hk => ?_, fun u hu => ?_, fun l hl => ?_⟩, ⟨fun k hk => ?_, fun u hu => ?_, ?_, ?_, ?_, ?_⟩, fun u hu => ?_, fun j hj => ?_⟩, ⟨?_, fun u hu => ?_, fun u hu => ?_, fun k hk => ?_⟩, fun u hu => ?_⟩
  · rw [tn 37 0 (by omega), tn 37 1 (by omega), t1, tn 37 64 (by omega)]
    exact ⟨K.1.1, K.1.2.1, by omega, K.1.2.2.2⟩
  · rw [t1] at hk
    rw [tn 37 1 (by omega)]
    by_cases e : k = n
    · rw [e, e79, e80, e81, e82, e83]
      omega
    · rw [to 80 k e (by decide), to 81 k e (by decide), to 82 k e (by decide), to 83 k e (by decide), to 79 k e (by decide)]
      exact K.ho (by omega)
  · rw [tn 37 1 (by omega)] at hu
    rw [tn 71 u (by omega)]
    exact ⟨(K.vi hu).1, fun s hs => by rw [tn 39 _ (by omega)]; exact (K.vi hu).2 s hs⟩
  · rw [tn 37 64 (by omega)] at hl
    rw [tn 172 l (by omega), tn 173 l (by omega), tn 170 l (by omega), t1]
    have w := K.2.2.2 l hl
    exact ⟨w.1, w.2.1, w.2.2.1, by omega⟩
  · rw [t1] at hk
    rw [tn 37 1 (by omega)]
    by_cases e : k = n
    · rw [e, e79, e80, e81, e85]
      omega
    · rw [to 80 k e (by decide), to 81 k e (by decide), to 85 k e (by decide), to 79 k e (by decide)]
      exact B.1 k (by omega)
  · rw [tn 37 1 (by omega)] at hu
    rw [tn 66 u (by omega)]
    exact ⟨(B.2.1 u hu).1, fun s hs => by rw [tn 39 _ (by omega)]; exact (B.2.1 u hu).2 s hs⟩
  · rw [tn 37 64 (by omega)]
    exact B.2.2.1
  · rw [tn 37 0 (by omega)]
    exact B.2.2.2.1
  · rw [tn 37 1 (by omega)]
    exact B.2.2.2.2.1
  · rw [t1]
    omega
  · rw [tn 37 1 (by omega)] at hu
    rw [tn 65 u (by omega)]
    exact H u hu
  · rw [tn 37 0 (by omega)] at hj
    rw [tn 206 j (by omega)]
    exact Z j hj
  · rw [tn 37 78 (by omega)]
    exact r1
  · rw [tn 37 1 (by omega)] at hu
    rw [tn 67 u (by omega), tn 68 u (by omega), tn 37 78 (by omega), yCn_ag (S := S) (fun w => tn 184 w (by omega))]
    exact r2 u hu
  · rw [tn 37 78 (by omega)] at hu
    rw [tn 183 u (by omega), tn 181 u (by omega), t1]
    have w := r3 u hu
    exact ⟨w.1, w.2.1, by omega⟩
  · rw [t1] at hk
    rw [tn 91 k (by omega), tn 92 k (by omega)]
    by_cases e : k = n
    · rw [e, z1, z2]
      omega
    · exact r4 k (by omega)
  · rw [tn 37 1 (by omega)] at hu
    rw [tn 57 _ (by omega)]
    exact P u hu
/-- weaving -/
theorem yWvS_n (e : (a ≠ 84 ∧ a ≠ 92 ∧ a ≠ 175) ∧ (a < 180 ∨ 185 < a) ∧ (a ≠ 37 ∨ (i ≠ 70 ∧ i ≠ 78))) : yWvS q S k l x a i = S a i := by
  obtain ⟨⟨e1, e2, e3⟩, e4, e5⟩ := e
  unfold yWvS
  rw [zs_if, if_neg (by omega), zs_if, if_neg (by omega), zs_na (by omega), zs_na (by omega), zs_na (by omega), zs_na (by omega), zs_na (by omega), zs_na (by omega), zs_na e3, zs_na e2, zs_na e1, zs_na e1]
theorem yWvS_o (h : i ≠ (S 37 78).toNat) (e : 180 ≤ a ∧ a ≤ 185) : yWvS q S k l x a i = S a i := by
  unfold yWvS
  rw [zs_na (by omega), zs_na (by omega), zs_ni h, zs_ni h, zs_ni h, zs_ni h, zs_ni h, zs_ni h, zs_na (by omega), zs_na (by omega), zs_na (by omega), zs_na (by omega)]
theorem yWvS_92 : yWvS q S k l x 92 i = if i = k then w32 (S 92 k + x) else S 92 i := by
  unfold yWvS
  simp (disch := decide) only [zs_na]
  rw [zs_if]
  by_cases h : i = k
  · rw [if_pos ⟨rfl, h⟩, if_pos h]
  · rw [if_neg (fun z => h z.2), if_neg h]
    simp (disch := decide) only [zs_na]
theorem yWvS_e : yWvS q S k l x 181 (S 37 78).toNat = k ∧ yWvS q S k l x 183 (S 37 78).toNat = x / 2 ∧ yWvS q S k l x 184 (S 37 78).toNat = -1 ∧ yWvS q S k l x 37 78 = S 37 78 + 1 := by
  unfold yWvS
  refine ⟨?_, ?_, ?_, ?_⟩ <;> simp (disch := decide) only [zs_na, zs_eq]
theorem yIv.wv (V : yIv S) : yIv (yWvF q S x y z) := by
  unfold yWvF
  split
  rotate_left 1
  · exact V
  rename_i h
  obtain ⟨⟨h1, h2, h3⟩, h4, h5, h6⟩ := h
  have h7 : z ≤ w32 (S 91 x.toNat - S 92 x.toNat) := by
    unfold yBarF at h6
    split at h6
    · omega
    · split at h6
      · omega
      · split at h6 <;> omega
  have h8 : 0 < S 91 x.toNat := by
    have w : yLbar q S x.toNat y.toNat z = 0 := by
      unfold yBarF at h6
      split at h6
      · exact h6
      · omega
    unfold yLbar at w
    split at w <;> omega
  obtain ⟨W, ⟨r1, r2, r3, r4⟩, P⟩ := V
  have b4 := r4 x.toNat (by omega)
  have w1 : w32 (S 91 x.toNat - S 92 x.toNat) ≤ 40 - S 92 x.toNat := by
    unfold w32 at h7 ⊢
    omega
  have w2 : w32 (S 92 x.toNat + z) = S 92 x.toNat + z := w32_id ⟨by omega, by omega⟩
  have en : (((S 37 78).toNat : Nat) : Int) = S 37 78 := by omega
  obtain ⟨f1, f3, f4, f7⟩ := yWvS_e (q := q) (S := S) (k := x.toNat) (l := y.toNat) (x := z)
  have tn : ∀ a i, (a ≠ 84 ∧ a ≠ 92 ∧ a ≠ 175) ∧ (a < 180 ∨ 185 < a) ∧ (a ≠ 37 ∨ (i ≠ 70 ∧ i ≠ 78)) → yWvS q S x.toNat y.toNat z a i = S a i := fun a i e => yWvS_n e
  have to : ∀ a i, i ≠ (S 37 78).toNat → 180 ≤ a ∧ a ≤ 185 → yWvS q S x.toNat y.toNat z a i = S a i := fun a i e f => yWvS_o e f
  have t92 : ∀ i, yWvS q S x.toNat y.toNat z 92 i = if i = x.toNat then w32 (S 92 x.toNat + z) else S 92 i := fun i => yWvS_92
  generalize hT : yWvS q S x.toNat y.toNat z = T at f1 f3 f4 f7 tn to t92
  refine ⟨W.ag (fun a i e => tn a i (by unfold yKi yKt at e; omega)), ⟨?_, fun u hu => ?_, fun u hu => ?_, fun k hk => ?_⟩, P.ag (tn 37 1 (by omega)) (fun i => tn 57 i (by omega))⟩
  · rw [f7]
    omega
  · rw [tn 37 1 (by omega)] at hu
    rw [tn 67 u (by omega), tn 68 u (by omega), f7, show (S 37 78 + 1).toNat = (S 37 78).toNat + 1 by omega]
    have c := r2 u hu
    rw [yCn_s, f4, if_neg (show ¬ (-1 : Int) = (u : Int) by omega)]
    have g : ∀ m : Nat, m ≤ (S 37 78).toNat → yCn T (u : Int) m = yCn S (u : Int) m := by
      intro m
      induction m with
      | zero => intro _; rfl
      | succ m ih =>
        intro hm
        rw [yCn_s, yCn_s, to 184 m (by omega) (by omega), ih (by omega)]
    rw [g _ (Nat.le_refl _)]
    exact c
  · rw [f7] at hu
    rw [tn 37 2 (by omega)]
    by_cases e : u = (S 37 78).toNat
    · rw [e, f3, f1]
      omega
    · rw [to 183 u e (by omega), to 181 u e (by omega)]
      exact r3 u (by omega)
  · rw [tn 37 2 (by omega)] at hk
    rw [tn 91 k (by omega), t92]
    by_cases e : k = x.toNat
    · rw [if_pos e, w2, e]
      omega
    · rw [if_neg e]
      exact r4 k hk
/-- bringing -/
theorem yBrS_n (e : a ≠ 67 ∧ a ≠ 68 ∧ a ≠ 75 ∧ a ≠ 184) : yBrS S u v a i = S a i := by
  obtain ⟨e1, e2, e3, e4⟩ := e
  unfold yBrS
  split
  · rw [zs_na e4, zs_na e2]
  · rw [zs_na e4, zs_na e3, zs_na e1]
theorem yBrS_184 : yBrS S u v 184 i = zs S 184 u v 184 i := by
  unfold yBrS
  by_cases h : i = u
  · subst h
    split <;> rw [zs_eq, zs_eq]
  · split
    · rw [zs_ni h, zs_ni h, zs_na (by decide)]
    · rw [zs_ni h, zs_ni h, zs_na (by decide), zs_na (by decide)]
theorem yBrS_o (h : i ≠ v) (e : a = 67 ∨ a = 68) : yBrS S u v a i = S a i := by
  unfold yBrS
  split
  · rw [zs_na (by omega), zs_ni h]
  · rw [zs_na (by omega), zs_na (by omega), zs_ni h]
theorem yBrS_v (h1 : 0 ≤ S 67 v ∧ 0 ≤ S 68 v) (h2 : 0 ≤ S 183 u ∧ S 183 u ≤ 20) (h3 : S 67 v + S 68 v ≤ 5000) : (0 ≤ yBrS S u v 67 v ∧ 0 ≤ yBrS S u v 68 v) ∧ yBrS S u v 67 v + yBrS S u v 68 v ≤ S 67 v + S 68 v + 20 := by
  have w1 : w32 (S 67 v + S 183 u) = S 67 v + S 183 u := w32_id ⟨by omega, by omega⟩
  have w2 : w32 (S 68 v + S 183 u) = S 68 v + S 183 u := w32_id ⟨by omega, by omega⟩
  unfold yBrS
  split
  · simp (disch := decide) only [zs_na, zs_eq]
    omega
  · simp (disch := decide) only [zs_na, zs_eq]
    omega
theorem yIv.br (V : yIv S) : yIv (yBrF S x y) := by
  unfold yBrF
  split
  rotate_left 1
  · exact V
  rename_i h
  obtain ⟨h1, h2, h3, h4⟩ := h
  obtain ⟨W, ⟨r1, r2, r3, r4⟩, P⟩ := V
  have tn : ∀ a i, (a ≠ 67 ∧ a ≠ 68 ∧ a ≠ 75 ∧ a ≠ 184) → yBrS S x.toNat y.toNat a i = S a i := fun a i e => yBrS_n e
  refine ⟨W.ag (fun a i e => tn a i (by unfold yKi yKt at e; omega)), ⟨?_, fun u hu => ?_, fun u hu => ?_, fun k hk => ?_⟩, P.ag (tn 37 1 (by omega)) (fun i => tn 57 i (by omega))⟩
  · rw [tn 37 78 (by omega)]
    exact r1
  · rw [tn 37 1 (by omega)] at hu
    rw [tn 37 78 (by omega), yCn_ag (S := zs S 184 x.toNat y.toNat) (fun w => yBrS_184), yCn_br h3 (by omega)]
    have c := r2 u hu
    have cb := yCn_b (S := S) (w := (u : Int)) (S 37 78).toNat
    by_cases e : u = y.toNat
    · have d := yBrS_v (S := S) (u := x.toNat) (v := u) c.1 (r3 x.toNat (by omega)).1 (by omega)
      rw [← e, if_pos ⟨by omega, rfl⟩]
      omega
    · rw [yBrS_o e (Or.inl rfl), yBrS_o e (Or.inr rfl), if_neg (by omega)]
      omega
  · rw [tn 37 78 (by omega)] at hu
    rw [tn 183 u (by omega), tn 181 u (by omega), tn 37 2 (by omega)]
    exact r3 u hu
  · rw [tn 37 2 (by omega)] at hk
    rw [tn 91 k (by omega), tn 92 k (by omega)]
    exact r4 k hk
/-- weeks -/
theorem ySlH_b {B : Int} (h : (0 ≤ S 67 v ∧ 0 ≤ S 68 v) ∧ S 67 v + S 68 v ≤ B) (hB : B ≤ 5000) (hp : 0 < w32 (S 67 v + S 68 v)) : (0 ≤ ySlH S v 67 v ∧ 0 ≤ ySlH S v 68 v) ∧ ySlH S v 67 v + ySlH S v 68 v ≤ B := by
  have w0 : w32 (S 67 v + S 68 v) = S 67 v + S 68 v := w32_id ⟨by omega, by omega⟩
  have w1 : w32 (S 67 v - 1) = S 67 v - 1 := w32_id ⟨by omega, by omega⟩
  have w2 : w32 (S 68 v - 1) = S 68 v - 1 := w32_id ⟨by omega, by omega⟩
  unfold ySlH
  split
  · simp (disch := decide) only [zs_na, zs_eq]
    omega
  · simp (disch := decide) only [zs_na, zs_eq]
    omega
theorem ySlH_o (h : v ≠ u) (e : a = 67 ∨ a = 68) : ySlH S u a v = S a v := by
  unfold ySlH
  split
  · rw [zs_na (by omega), zs_na (by omega), zs_ni h]
  · rw [zs_na (by omega), zs_ni h]
theorem yByd_b {B : Int} (h : (0 ≤ S 67 v ∧ 0 ≤ S 68 v) ∧ S 67 v + S 68 v ≤ B) (hB : B ≤ 5000) : (0 ≤ yByd S k d 67 v ∧ 0 ≤ yByd S k d 68 v) ∧ yByd S k d 67 v + yByd S k d 68 v ≤ B := by
  unfold yByd yBya
  split
  · rename_i e
    have hp : 0 < w32 (S 67 (S 79 k).toNat + S 68 (S 79 k).toNat) := by
      unfold yCho at e
      split at e
      · rename_i f
        exact f.1
      · split at e <;> omega
    rw [zs_na (a := 87) (by decide), zs_na (a := 84) (by decide), zs_na (a := 87) (by decide), zs_na (a := 84) (by decide)]
    by_cases f : v = (S 79 k).toNat
    · rw [← f] at hp ⊢
      exact ySlH_b h hB hp
    · rw [ySlH_o f (Or.inl rfl), ySlH_o f (Or.inr rfl)]
      exact h
  · split
    · rw [zs_na (a := 37) (by decide), zs_na (a := 88) (by decide), zs_na (a := 84) (by decide), ySlM_n (by decide), zs_na (a := 37) (by decide), zs_na (a := 88) (by decide), zs_na (a := 84) (by decide), ySlM_n (by decide)]
      exact h
    · rw [zs_na (a := 86) (by decide), zs_na (a := 86) (by decide)]
      exact h
theorem yBys_b {B : Int} (h : (0 ≤ S 67 v ∧ 0 ≤ S 68 v) ∧ S 67 v + S 68 v ≤ B) (hB : B ≤ 5000) : ∀ k : Nat, (0 ≤ yBys q S k 67 v ∧ 0 ≤ yBys q S k 68 v) ∧ yBys q S k 67 v + yBys q S k 68 v ≤ B
  | 0 => h
  | k + 1 => by
    have ih := yBys_b h hB k
    rw [yBys_s]
    split
    · exact yByd_b ih hB
    · exact ih
theorem yBg2_v : ∀ n : Nat, k < n → yBg2 S n 92 k = 0
  | 0, h => absurd h (Nat.not_lt_zero _)
  | n + 1, h => by
    rw [yBg2_s, zs_if]
    by_cases e : k = n
    · rw [if_pos ⟨rfl, e⟩]
    · rw [if_neg (fun z => e z.2)]
      exact yBg2_v n (by omega)
theorem yBg1_57 (h : 0 < m ∧ m < 157) : ∀ n : Nat, yBg1 S m n 57 (157 * v) = S 57 (157 * v)
  | 0 => rfl
  | n + 1 => by
    rw [yBg1_s, zs_ni (by omega)]
    exact yBg1_57 h n
theorem yWk5_b (e : (a = 37 ∧ (i = 1 ∨ i = 2 ∨ i = 78)) ∨ a = 181 ∨ a = 183 ∨ a = 184 ∨ a = 91 ∨ a = 57) : yWk5 q S a i = S a i := by
  have e3 : yWk3 q S a i = S a i := (yWrA_n (by omega)).trans ((yBys_n (by omega) _).trans (yLyN_n (by omega) _))
  unfold yWk5
  split
  · rw [ySea_n (by omega), e3]
  · exact e3
theorem yIv.wk (V : yIv S) (h : S 37 0 < 156) : yIv (yWkC q S) := by
  obtain ⟨W, ⟨r1, r2, r3, r4⟩, P⟩ := V
  have s0 := W.1.s.1.1
  have t : ∀ a i, (a = 37 ∧ (i = 1 ∨ i = 2 ∨ i = 78)) ∨ a = 181 ∨ a = 183 ∨ a = 184 ∨ a = 91 → yWkC q S a i = S a i := fun a i e => (yWkC_n (by omega)).trans (yWk5_b (by omega))
  have t67 : ∀ a v, a = 67 ∨ a = 68 → yWkC q S a v = yByA q (yLyA S) a v := fun a v e => by
    rw [yWkC_n (by omega)]
    have e3 : yWk3 q S a v = yByA q (yLyA S) a v := yWrA_n (by omega)
    unfold yWk5
    split
    · rw [ySea_n (by omega), e3]
    · exact e3
  refine ⟨W.wk h, ⟨?_, fun u hu => ?_, fun u hu => ?_, fun k hk => ?_⟩, fun u hu => ?_⟩
  · rw [t 37 78 (by omega)]
    exact r1
  · rw [t 37 1 (by omega)] at hu
    have c := r2 u hu
    have cb := yCn_b (S := S) (w := (u : Int)) (S 37 78).toNat
    have l7 : yLyA S 67 u = S 67 u := yLyN_n (by omega) _
    have l8 : yLyA S 68 u = S 68 u := yLyN_n (by omega) _
    rw [t67 67 u (by omega), t67 68 u (by omega), t 37 78 (by omega), yCn_ag (S := S) (fun w => t 184 w (by omega))]
    exact yBys_b (by rw [l7, l8]; exact c) (by omega) _
  · rw [t 37 78 (by omega)] at hu
    rw [t 183 u (by omega), t 181 u (by omega), t 37 2 (by omega)]
    exact r3 u hu
  · rw [t 37 2 (by omega)] at hk
    rw [t 91 k (by omega)]
    refine ⟨(r4 k hk).1, ?_⟩
    have e2 : yWkC q S 92 k = 0 := by
      unfold yWkC yBgA
      refine yBg2_v _ ?_
      rw [zs_ni (by decide), yClo_n (by omega), yWk5_b (by omega)]
      omega
    rw [e2]
    omega
  · rw [t 37 1 (by omega)] at hu
    have e : yWkC q S 57 (157 * u) = yWk5 q S 57 (157 * u) := by
      unfold yWkC yBgA
      have n92 : ∀ (U : zT) (n : Nat), yBg2 U n 57 (157 * u) = U 57 (157 * u) := fun U n => yBg2_n (by decide) _
      rw [n92, yBg1_57 (by rw [zs_eq, yWk5_n (by omega)]; omega), zs_na (by decide), yClo_n (by omega)]
    rw [e, yWk5_b (by omega)]
    exact P u hu
theorem yIv.go (V : yIv S) : ∀ k : Nat, yIv (yGoN q S k)
  | 0 => V
  | k + 1 => by
    rw [yGoN_s]
    split
    · exact (V.go k).wk (by assumption)
    · exact V.go k
theorem yIv.gof (V : yIv S) : yIv (yGoF q S x) := by
  unfold yGoF
  split
  · exact V.go _
  · exact V
end YIW
end
