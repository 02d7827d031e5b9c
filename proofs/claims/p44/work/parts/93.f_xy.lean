/-! joined: 93.f_xy 93.g_my 93.h_yc57 93.i_xg 93.j_add 93.jz_yp 93.k_sp 93.l_xs -/
section
/-! contracts of the class -/
def msx166_n : Zms := [(17, 17, 0, 13)]
-- WheelLand$Rules.begin(I)V
theorem x166_n {sc : List Int} (h : Hp) (C : CI h) (a : Int) (q_a : -2147483648 ≤ a ∧ a ≤ 2147483647) (p1 : 0 ≤ a) : zwC sc 2 166 [(2, 13), (0, a)] h (zwRv (fun g => CI g ∧ zXR msx166_n (0) (0) h g ∧ (n13 17 g (yNm0 a)))) := by
  refine zwC_of (D := 1) 2 (by decide +kernel) rfl (ls := [(2, 13), (0, a)]) rfl ?_
  have X : zXR msx166_n 0 0 h h := zXR.rf _ _
  refine zwW_p [(1, 0, 2)] (q := 1) (ls' := [(2, 13), (0, a)]) (st' := [(2, 13)]) (by decide +kernel) rfl ?_
  refine zwW_gc C.1 (kd := 9) (bn := 4) (n := 6) (c := 17) (nx := 4) (by decide +kernel) ?_
  refine zwW_p [(0, 0, 0)] (q := 5) (ls' := [(2, 13), (0, a)]) (st' := [(0, 0), (2, 17)]) (by decide +kernel) rfl ?_
  refine zwW_csv (k' := 180) (n := 2) (nx := 8) (as := [(2, 17), (0, 0)]) (st' := []) (by decide +kernel) rfl (x180_17 C (by first | omega | exact ⟨by omega, by omega⟩)) rfl ?_
  rintro h1 ⟨Ch1, Qh1, fh1⟩
  have G5 : n13 17 h1 (fun _ => 0) := fun j hj => fh1 j hj
  have Xh1 : zXR msx166_n (0) (0) h h1 := X.tr (c2 := 0) (s2 := 0) Qh1 (by decide +kernel) (by decide) (by decide)
  refine zwW_p [(1, 0, 2)] (q := 9) (ls' := [(2, 13), (0, a)]) (st' := [(2, 13)]) (by decide +kernel) rfl ?_
  refine zwW_gc Ch1.1 (kd := 9) (bn := 4) (n := 6) (c := 17) (nx := 12) (by decide +kernel) ?_
  refine zwW_p [(0, 0, 0), (1, 1, 0)] (q := 14) (ls' := [(2, 13), (0, a)]) (st' := [(0, a), (0, 0), (2, 17)]) (by decide +kernel) rfl ?_
  refine zwW_as Ch1.1 (a1 := 17) (a2 := 17) (n := 13) (lo := -2147483648) (hi := 2147483647) (nx := 15) (by decide +kernel) (by first | decide | exact ⟨by decide, by decide⟩) (by first | decide | exact ⟨by decide, by decide⟩) (by first | omega | exact ⟨by omega, by omega⟩) ?_
  intro h2 eh2 Ih2
  have Ch2 : CI h2 := Ch1.wc eh2 Ih2 (by decide) (by decide)
  have Qh2 : zXR [(17, 17, 0, 13)] 0 0 h1 h2 := zXR.wc eh2 rfl ⟨by decide, by decide, Or.inl (by decide)⟩ (by first | decide | exact ⟨by decide, by decide⟩)
  have G14 : n13 17 h2 (zu (fun _ => 0) 0 a) := G5.zu (fld_zu (Ch1.1.s (a1 := 17) (a2 := 17) (k := 20) (n := 13) (by decide +kernel) (by decide) (by decide)) (by decide) eh2) rfl
  have Xh2 : zXR msx166_n (0) (0) h h2 := Xh1.tr (c2 := 0) (s2 := 0) Qh2 (by decide +kernel) (by decide) (by decide)
  refine zwW_p [(1, 0, 2)] (q := 16) (ls' := [(2, 13), (0, a)]) (st' := [(2, 13)]) (by decide +kernel) rfl ?_
  refine zwW_gc Ch2.1 (kd := 9) (bn := 4) (n := 6) (c := 17) (nx := 19) (by decide +kernel) ?_
  refine zwW_p [(0, 1, 0), (1, 1, 0)] (q := 21) (ls' := [(2, 13), (0, a)]) (st' := [(0, a), (0, 1), (2, 17)]) (by decide +kernel) rfl ?_
  refine zwW_cs (k' := 162) (n := 1) (nx := 24) (as := [(0, a)]) (st' := [(0, 1), (2, 17)]) (by decide +kernel) rfl (x162 h2 Ch2 a (by omega) (by omega)) rfl ?_
  rintro v3 _ ⟨rfl, f4, f5, f6⟩
  refine zwW_as Ch2.1 (a1 := 17) (a2 := 17) (n := 13) (lo := -2147483648) (hi := 2147483647) (nx := 25) (by decide +kernel) (by first | decide | exact ⟨by decide, by decide⟩) (by first | decide | exact ⟨by decide, by decide⟩) (by first | omega | exact ⟨by omega, by omega⟩) ?_
  intro h7 eh7 Ih7
  have Ch7 : CI h7 := Ch2.wc eh7 Ih7 (by decide) (by decide)
  have Qh7 : zXR [(17, 17, 0, 13)] 0 0 h2 h7 := zXR.wc eh7 rfl ⟨by decide, by decide, Or.inl (by decide)⟩ (by first | decide | exact ⟨by decide, by decide⟩)
  have G24 : n13 17 h7 (yNm0 a) := G14.zu (fld_zu (Ch2.1.s (a1 := 17) (a2 := 17) (k := 20) (n := 13) (by decide +kernel) (by decide) (by decide)) (by decide) eh7) (by omega)
  have Xh7 : zXR msx166_n (0) (0) h h7 := Xh2.tr (c2 := 0) (s2 := 0) Qh7 (by decide +kernel) (by decide) (by decide)
  refine zwW_retv (nx := 26) (a := 0) (b := 0) (by decide +kernel) ?_
  exact ⟨Ch7, Xh7.le (by decide) (by decide), by exact G24⟩
def msx214_n : Zms := [(17, 17, 0, 13)]
-- WheelLand$Rules.tellPrice(I)V
theorem x214_n {sc : List Int} (h : Hp) (C : CI h) (a : Int) (N : Nat → Int) (q_a : -2147483648 ≤ a ∧ a ≤ 2147483647) (HN : n13 17 h N) : zwC sc 1 214 [(2, 13), (0, a)] h (zwRv (fun g => CI g ∧ zXR msx214_n (0) (0) h g ∧ (n13 17 g (zu N 12 a)))) := by
  refine zwC_of (D := 0) 2 (by decide +kernel) rfl (ls := [(2, 13), (0, a)]) rfl ?_
  have X : zXR msx214_n 0 0 h h := zXR.rf _ _
  refine zwW_p [(1, 0, 2)] (q := 1) (ls' := [(2, 13), (0, a)]) (st' := [(2, 13)]) (by decide +kernel) rfl ?_
  refine zwW_gc C.1 (kd := 9) (bn := 4) (n := 6) (c := 17) (nx := 4) (by decide +kernel) ?_
  refine zwW_p [(0, 12, 0), (1, 1, 0)] (q := 7) (ls' := [(2, 13), (0, a)]) (st' := [(0, a), (0, 12), (2, 17)]) (by decide +kernel) rfl ?_
  refine zwW_as C.1 (a1 := 17) (a2 := 17) (n := 13) (lo := -2147483648) (hi := 2147483647) (nx := 8) (by decide +kernel) (by first | decide | exact ⟨by decide, by decide⟩) (by first | decide | exact ⟨by decide, by decide⟩) (by first | omega | exact ⟨by omega, by omega⟩) ?_
  intro h1 eh1 Ih1
  have Ch1 : CI h1 := C.wc eh1 Ih1 (by decide) (by decide)
  have Qh1 : zXR [(17, 17, 0, 13)] 0 0 h h1 := zXR.wc eh1 rfl ⟨by decide, by decide, Or.inl (by decide)⟩ (by first | decide | exact ⟨by decide, by decide⟩)
  have G7 : n13 17 h1 (zu N 12 a) := HN.zu (fld_zu (C.1.s (a1 := 17) (a2 := 17) (k := 20) (n := 13) (by decide +kernel) (by decide) (by decide)) (by decide) eh1) rfl
  have Xh1 : zXR msx214_n (0) (0) h h1 := X.tr (c2 := 0) (s2 := 0) Qh1 (by decide +kernel) (by decide) (by decide)
  refine zwW_retv (nx := 9) (a := 0) (b := 0) (by decide +kernel) ?_
  exact ⟨Ch1, Xh1.le (by decide) (by decide), by exact G7⟩
def msx168_n : Zms := [(17, 17, 0, 13)]
-- WheelLand$Rules.tellWork(II)V
theorem x168_n {sc : List Int} (h : Hp) (C : CI h) (a b : Int) (N : Nat → Int) (q_a : -2147483648 ≤ a ∧ a ≤ 2147483647) (q_b : -2147483648 ≤ b ∧ b ≤ 2147483647) (HN : n13 17 h N) : zwC sc 1 168 [(2, 13), (0, a), (0, b)] h (zwRv (fun g => CI g ∧ zXR msx168_n (0) (0) h g ∧ (n13 17 g (zu (zu N 6 a) 11 b)))) := by
  refine zwC_of (D := 0) 3 (by decide +kernel) rfl (ls := [(2, 13), (0, a), (0, b)]) rfl ?_
  have X : zXR msx168_n 0 0 h h := zXR.rf _ _
  refine zwW_p [(1, 0, 2)] (q := 1) (ls' := [(2, 13), (0, a), (0, b)]) (st' := [(2, 13)]) (by decide +kernel) rfl ?_
  refine zwW_gc C.1 (kd := 9) (bn := 4) (n := 6) (c := 17) (nx := 4) (by decide +kernel) ?_
  refine zwW_p [(0, 6, 0), (1, 1, 0)] (q := 7) (ls' := [(2, 13), (0, a), (0, b)]) (st' := [(0, a), (0, 6), (2, 17)]) (by decide +kernel) rfl ?_
  refine zwW_as C.1 (a1 := 17) (a2 := 17) (n := 13) (lo := -2147483648) (hi := 2147483647) (nx := 8) (by decide +kernel) (by first | decide | exact ⟨by decide, by decide⟩) (by first | decide | exact ⟨by decide, by decide⟩) (by first | omega | exact ⟨by omega, by omega⟩) ?_
  intro h1 eh1 Ih1
  have Ch1 : CI h1 := C.wc eh1 Ih1 (by decide) (by decide)
  have Qh1 : zXR [(17, 17, 0, 13)] 0 0 h h1 := zXR.wc eh1 rfl ⟨by decide, by decide, Or.inl (by decide)⟩ (by first | decide | exact ⟨by decide, by decide⟩)
  have G7 : n13 17 h1 (zu N 6 a) := HN.zu (fld_zu (C.1.s (a1 := 17) (a2 := 17) (k := 20) (n := 13) (by decide +kernel) (by decide) (by decide)) (by decide) eh1) rfl
  have Xh1 : zXR msx168_n (0) (0) h h1 := X.tr (c2 := 0) (s2 := 0) Qh1 (by decide +kernel) (by decide) (by decide)
  refine zwW_p [(1, 0, 2)] (q := 9) (ls' := [(2, 13), (0, a), (0, b)]) (st' := [(2, 13)]) (by decide +kernel) rfl ?_
  refine zwW_gc Ch1.1 (kd := 9) (bn := 4) (n := 6) (c := 17) (nx := 12) (by decide +kernel) ?_
  refine zwW_p [(0, 11, 0), (1, 2, 0)] (q := 15) (ls' := [(2, 13), (0, a), (0, b)]) (st' := [(0, b), (0, 11), (2, 17)]) (by decide +kernel) rfl ?_
  refine zwW_as Ch1.1 (a1 := 17) (a2 := 17) (n := 13) (lo := -2147483648) (hi := 2147483647) (nx := 16) (by decide +kernel) (by first | decide | exact ⟨by decide, by decide⟩) (by first | decide | exact ⟨by decide, by decide⟩) (by first | omega | exact ⟨by omega, by omega⟩) ?_
  intro h2 eh2 Ih2
  have Ch2 : CI h2 := Ch1.wc eh2 Ih2 (by decide) (by decide)
  have Qh2 : zXR [(17, 17, 0, 13)] 0 0 h1 h2 := zXR.wc eh2 rfl ⟨by decide, by decide, Or.inl (by decide)⟩ (by first | decide | exact ⟨by decide, by decide⟩)
  have G15 : n13 17 h2 (zu (zu N 6 a) 11 b) := G7.zu (fld_zu (Ch1.1.s (a1 := 17) (a2 := 17) (k := 20) (n := 13) (by decide +kernel) (by decide) (by decide)) (by decide) eh2) rfl
  have Xh2 : zXR msx168_n (0) (0) h h2 := Xh1.tr (c2 := 0) (s2 := 0) Qh2 (by decide +kernel) (by decide) (by decide)
  refine zwW_retv (nx := 17) (a := 0) (b := 0) (by decide +kernel) ?_
  exact ⟨Ch2, Xh2.le (by decide) (by decide), by exact G15⟩
def msx171_n : Zms := [(17, 17, 0, 13)]
-- WheelLand$Rules.tellYarn(III)V
theorem x171_n {sc : List Int} (h : Hp) (C : CI h) (a b c : Int) (N : Nat → Int) (q_a : -2147483648 ≤ a ∧ a ≤ 2147483647) (q_b : -2147483648 ≤ b ∧ b ≤ 2147483647) (q_c : -2147483648 ≤ c ∧ c ≤ 2147483647) (HN : n13 17 h N) : zwC sc 1 171 [(2, 13), (0, a), (0, b), (0, c)] h (zwRv (fun g => CI g ∧ zXR msx171_n (0) (0) h g ∧ (n13 17 g (zu (zu (zu N 7 a) 8 b) 9 c)))) := by
  refine zwC_of (D := 0) 4 (by decide +kernel) rfl (ls := [(2, 13), (0, a), (0, b), (0, c)]) rfl ?_
  have X : zXR msx171_n 0 0 h h := zXR.rf _ _
  refine zwW_p [(1, 0, 2)] (q := 1) (ls' := [(2, 13), (0, a), (0, b), (0, c)]) (st' := [(2, 13)]) (by decide +kernel) rfl ?_
  refine zwW_gc C.1 (kd := 9) (bn := 4) (n := 6) (c := 17) (nx := 4) (by decide +kernel) ?_
  refine zwW_p [(0, 7, 0), (1, 1, 0)] (q := 7) (ls' := [(2, 13), (0, a), (0, b), (0, c)]) (st' := [(0, a), (0, 7), (2, 17)]) (by decide +kernel) rfl ?_
  refine zwW_as C.1 (a1 := 17) (a2 := 17) (n := 13) (lo := -2147483648) (hi := 2147483647) (nx := 8) (by decide +kernel) (by first | decide | exact ⟨by decide, by decide⟩) (by first | decide | exact ⟨by decide, by decide⟩) (by first | omega | exact ⟨by omega, by omega⟩) ?_
  intro h1 eh1 Ih1
  have Ch1 : CI h1 := C.wc eh1 Ih1 (by decide) (by decide)
  have Qh1 : zXR [(17, 17, 0, 13)] 0 0 h h1 := zXR.wc eh1 rfl ⟨by decide, by decide, Or.inl (by decide)⟩ (by first | decide | exact ⟨by decide, by decide⟩)
  have G7 : n13 17 h1 (zu N 7 a) := HN.zu (fld_zu (C.1.s (a1 := 17) (a2 := 17) (k := 20) (n := 13) (by decide +kernel) (by decide) (by decide)) (by decide) eh1) rfl
  have Xh1 : zXR msx171_n (0) (0) h h1 := X.tr (c2 := 0) (s2 := 0) Qh1 (by decide +kernel) (by decide) (by decide)
  refine zwW_p [(1, 0, 2)] (q := 9) (ls' := [(2, 13), (0, a), (0, b), (0, c)]) (st' := [(2, 13)]) (by decide +kernel) rfl ?_
  refine zwW_gc Ch1.1 (kd := 9) (bn := 4) (n := 6) (c := 17) (nx := 12) (by decide +kernel) ?_
  refine zwW_p [(0, 8, 0), (1, 2, 0)] (q := 15) (ls' := [(2, 13), (0, a), (0, b), (0, c)]) (st' := [(0, b), (0, 8), (2, 17)]) (by decide +kernel) rfl ?_
  refine zwW_as Ch1.1 (a1 := 17) (a2 := 17) (n := 13) (lo := -2147483648) (hi := 2147483647) (nx := 16) (by decide +kernel) (by first | decide | exact ⟨by decide, by decide⟩) (by first | decide | exact ⟨by decide, by decide⟩) (by first | omega | exact ⟨by omega, by omega⟩) ?_
  intro h2 eh2 Ih2
  have Ch2 : CI h2 := Ch1.wc eh2 Ih2 (by decide) (by decide)
  have Qh2 : zXR [(17, 17, 0, 13)] 0 0 h1 h2 := zXR.wc eh2 rfl ⟨by decide, by decide, Or.inl (by decide)⟩ (by first | decide | exact ⟨by decide, by decide⟩)
  have G15 : n13 17 h2 (zu (zu N 7 a) 8 b) := G7.zu (fld_zu (Ch1.1.s (a1 := 17) (a2 := 17) (k := 20) (n := 13) (by decide +kernel) (by decide) (by decide)) (by decide) eh2) rfl
  have Xh2 : zXR msx171_n (0) (0) h h2 := Xh1.tr (c2 := 0) (s2 := 0) Qh2 (by decide +kernel) (by decide) (by decide)
  refine zwW_p [(1, 0, 2)] (q := 17) (ls' := [(2, 13), (0, a), (0, b), (0, c)]) (st' := [(2, 13)]) (by decide +kernel) rfl ?_
  refine zwW_gc Ch2.1 (kd := 9) (bn := 4) (n := 6) (c := 17) (nx := 20) (by decide +kernel) ?_
  refine zwW_p [(0, 9, 0), (1, 3, 0)] (q := 23) (ls' := [(2, 13), (0, a), (0, b), (0, c)]) (st' := [(0, c), (0, 9), (2, 17)]) (by decide +kernel) rfl ?_
  refine zwW_as Ch2.1 (a1 := 17) (a2 := 17) (n := 13) (lo := -2147483648) (hi := 2147483647) (nx := 24) (by decide +kernel) (by first | decide | exact ⟨by decide, by decide⟩) (by first | decide | exact ⟨by decide, by decide⟩) (by first | omega | exact ⟨by omega, by omega⟩) ?_
  intro h3 eh3 Ih3
  have Ch3 : CI h3 := Ch2.wc eh3 Ih3 (by decide) (by decide)
  have Qh3 : zXR [(17, 17, 0, 13)] 0 0 h2 h3 := zXR.wc eh3 rfl ⟨by decide, by decide, Or.inl (by decide)⟩ (by first | decide | exact ⟨by decide, by decide⟩)
  have G23 : n13 17 h3 (zu (zu (zu N 7 a) 8 b) 9 c) := G15.zu (fld_zu (Ch2.1.s (a1 := 17) (a2 := 17) (k := 20) (n := 13) (by decide +kernel) (by decide) (by decide)) (by decide) eh3) rfl
  have Xh3 : zXR msx171_n (0) (0) h h3 := Xh2.tr (c2 := 0) (s2 := 0) Qh3 (by decide +kernel) (by decide) (by decide)
  refine zwW_retv (nx := 25) (a := 0) (b := 0) (by decide +kernel) ?_
  exact ⟨Ch3, Xh3.le (by decide) (by decide), by exact G23⟩
-- WheelLand$Village.idleIn(I)I
theorem x222_z {sc : List Int} (h : Hp) (C : CI h) (r a : Int) (G_r : gV h r) (q_a : -2147483648 ≤ a ∧ a ≤ 2147483647) (J : yR h) (k : Nat) (P_r : r = zv h 2 k ∧ (k : Int) < fld h 2 2) (pa : 0 ≤ a ∧ a ≤ 3) (pj : 0 ≤ yIdl (yC h) k a ∧ yIdl (yC h) k a ≤ 40) : zwC sc 1 222 [(2, r), (0, a)] h (zwRt 0 (fun x g => h = g ∧ (-2147483648 ≤ x ∧ x ≤ 2147483647) ∧ (x = yIdl (yC h) k a))) := by
  refine zwC_of (D := 0) 2 (by decide +kernel) rfl (ls := [(2, r), (0, a)]) rfl ?_
  have lw_r := G_r.1
  have u0 : yC h 37 0 = fld h 1 0 := rfl
  have u1 : yC h 37 1 = fld h 2 2 := rfl
  have u2 : yC h 37 2 = fld h 3 2 := rfl
  have u64 : yC h 37 64 = fld h 4 2 := rfl
  have u78 : yC h 37 78 = fld h 5 2 := rfl
  have b22 := zLb_2 C
  have I39 : yIdl (yC h) k a = zid (fld h r 1) a.toNat := by
    rw [P_r.1]
    exact yC_39 P_r.2 (by omega) (by omega)
  rw [I39] at pj
  have pi : 0 ≤ fld h r 1 := by rw [P_r.1]; exact J.2.2.2.2.1 k P_r.2
  refine zwW_p [(1, 1, 0)] (q := 1) (ls' := [(2, r), (0, a)]) (st' := [(0, a)]) (by decide +kernel) rfl ?_
  refine zwW_sw (d := 59) (os := [0, 28, 1, 36, 2, 48]) (by decide +kernel) ?_
  refine ⟨fun c1 => ?_, fun c1 => ?_⟩
  · show zwW _ _ _ 28 _ _ _ _
    refine zwW_p [(1, 0, 2)] (q := 29) (ls' := [(2, r), (0, a)]) (st' := [(2, r)]) (by decide +kernel) rfl ?_
    refine zwX_gi C (kd := 11) (bn := 1) (n := 17) (nx := 32) (by decide +kernel) G_r.2.1 G_r.1 rfl ?_
    intro v2 ev2 lv2 uv2
    refine zwW_p [(0, 1000000, 0)] (q := 34) (ls' := [(2, r), (0, a)]) (st' := [(0, 1000000), (0, v2)]) (by decide +kernel) rfl ?_
    refine zwW_div (nx := 35) (by decide +kernel) (by omega) (by omega) (by omega) ?_
    refine zwW_ret (nx := 36) (a := 0) (b := 0) (by decide +kernel) rfl (Or.inl rfl) ?_
    exact ⟨rfl, by omega, by rw [I39]; unfold zid; first | (rw [if_pos (by omega)]; omega) | (rw [if_neg (by omega), if_pos (by omega)]; omega) | (rw [if_neg (by omega), if_neg (by omega), if_pos (by omega)]; omega) | (rw [if_neg (by omega), if_neg (by omega), if_neg (by omega)]; omega)⟩
  refine ⟨fun c3 => ?_, fun c3 => ?_⟩
  · show zwW _ _ _ 36 _ _ _ _
    refine zwW_p [(1, 0, 2)] (q := 37) (ls' := [(2, r), (0, a)]) (st' := [(2, r)]) (by decide +kernel) rfl ?_
    refine zwX_gi C (kd := 11) (bn := 1) (n := 17) (nx := 40) (by decide +kernel) G_r.2.1 G_r.1 rfl ?_
    intro v4 ev4 lv4 uv4
    refine zwW_p [(0, 10000, 0)] (q := 43) (ls' := [(2, r), (0, a)]) (st' := [(0, 10000), (0, v4)]) (by decide +kernel) rfl ?_
    refine zwW_div (nx := 44) (by decide +kernel) (by omega) (by omega) (by omega) ?_
    refine zwW_p [(0, 100, 0)] (q := 46) (ls' := [(2, r), (0, a)]) (st' := [(0, 100), (0, (v4 / 10000))]) (by decide +kernel) rfl ?_
    refine zwW_rem (nx := 47) (by decide +kernel) (by omega) (by omega) ?_
    refine zwW_ret (nx := 48) (a := 0) (b := 0) (by decide +kernel) rfl (Or.inl rfl) ?_
    exact ⟨rfl, by omega, by rw [I39]; unfold zid; first | (rw [if_pos (by omega)]; omega) | (rw [if_neg (by omega), if_pos (by omega)]; omega) | (rw [if_neg (by omega), if_neg (by omega), if_pos (by omega)]; omega) | (rw [if_neg (by omega), if_neg (by omega), if_neg (by omega)]; omega)⟩
  refine ⟨fun c5 => ?_, fun c5 => ?_⟩
  · show zwW _ _ _ 48 _ _ _ _
    refine zwW_p [(1, 0, 2)] (q := 49) (ls' := [(2, r), (0, a)]) (st' := [(2, r)]) (by decide +kernel) rfl ?_
    refine zwX_gi C (kd := 11) (bn := 1) (n := 17) (nx := 52) (by decide +kernel) G_r.2.1 G_r.1 rfl ?_
    intro v6 ev6 lv6 uv6
    refine zwW_p [(0, 100, 0)] (q := 54) (ls' := [(2, r), (0, a)]) (st' := [(0, 100), (0, v6)]) (by decide +kernel) rfl ?_
    refine zwW_div (nx := 55) (by decide +kernel) (by omega) (by omega) (by omega) ?_
    refine zwW_p [(0, 100, 0)] (q := 57) (ls' := [(2, r), (0, a)]) (st' := [(0, 100), (0, (v6 / 100))]) (by decide +kernel) rfl ?_
    refine zwW_rem (nx := 58) (by decide +kernel) (by omega) (by omega) ?_
    refine zwW_ret (nx := 59) (a := 0) (b := 0) (by decide +kernel) rfl (Or.inl rfl) ?_
    exact ⟨rfl, by omega, by rw [I39]; unfold zid; first | (rw [if_pos (by omega)]; omega) | (rw [if_neg (by omega), if_pos (by omega)]; omega) | (rw [if_neg (by omega), if_neg (by omega), if_pos (by omega)]; omega) | (rw [if_neg (by omega), if_neg (by omega), if_neg (by omega)]; omega)⟩
  show zwW _ _ _ 59 _ _ _ _
  refine zwW_p [(1, 0, 2)] (q := 60) (ls' := [(2, r), (0, a)]) (st' := [(2, r)]) (by decide +kernel) rfl ?_
  refine zwX_gi C (kd := 11) (bn := 1) (n := 17) (nx := 63) (by decide +kernel) G_r.2.1 G_r.1 rfl ?_
  intro v7 ev7 lv7 uv7
  refine zwW_p [(0, 100, 0)] (q := 65) (ls' := [(2, r), (0, a)]) (st' := [(0, 100), (0, v7)]) (by decide +kernel) rfl ?_
  refine zwW_rem (nx := 66) (by decide +kernel) (by omega) (by omega) ?_
  refine zwW_ret (nx := 67) (a := 0) (b := 0) (by decide +kernel) rfl (Or.inl rfl) ?_
  exact ⟨rfl, by omega, by rw [I39]; unfold zid; first | (rw [if_pos (by omega)]; omega) | (rw [if_neg (by omega), if_pos (by omega)]; omega) | (rw [if_neg (by omega), if_neg (by omega), if_pos (by omega)]; omega) | (rw [if_neg (by omega), if_neg (by omega), if_neg (by omega)]; omega)⟩
def msx167_z : Zms := [(17, 17, 0, 13)]
-- WheelLand$Rules.tellHouse(LWheelLand$House;I)V
theorem x167_z {sc : List Int} (h : Hp) (C : CI h) (r a : Int) (N : Nat → Int) (G_r : gH h r) (q_a : -2147483648 ≤ a ∧ a ≤ 2147483647) (J : yR h) (k : Nat) (P_r : r = zv h 3 k ∧ (k : Int) < fld h 3 2) (ok : yOK (yC h)) (HN : n13 17 h N) (pa : a = yC h 37 0 / 13 % 4) : zwC sc 2 167 [(2, 13), (2, r), (0, a)] h (zwRv (fun g => CI g ∧ zXR msx167_z (0) (0) h g ∧ (n13 17 g (yNmH (yC h) k N)) ∧ (yR g))) := by
  refine zwC_of (D := 1) 3 (by decide +kernel) rfl (ls := [(2, 13), (2, r), (0, a)]) rfl ?_
  have lw_r := G_r.1
  have X : zXR msx167_z 0 0 h h := zXR.rf _ _
  have u0 : yC h 37 0 = fld h 1 0 := rfl
  have u1 : yC h 37 1 = fld h 2 2 := rfl
  have u2 : yC h 37 2 = fld h 3 2 := rfl
  have u64 : yC h 37 64 = fld h 4 2 := rfl
  have u78 : yC h 37 78 = fld h 5 2 := rfl
  have K167 := ok.ho (k := k) (by have := P_r.2; omega)
  refine zwW_p [(1, 0, 2)] (q := 1) (ls' := [(2, 13), (2, r), (0, a)]) (st' := [(2, 13)]) (by decide +kernel) rfl ?_
  refine zwW_gc C.1 (kd := 9) (bn := 4) (n := 6) (c := 17) (nx := 4) (by decide +kernel) ?_
  refine zwW_p [(0, 2, 0), (1, 1, 2)] (q := 6) (ls' := [(2, 13), (2, r), (0, a)]) (st' := [(2, r), (0, 2), (2, 17)]) (by decide +kernel) rfl ?_
  refine zwX_gi C (kd := 4) (bn := 5) (n := 19) (nx := 9) (by decide +kernel) G_r.2.1 G_r.1 rfl ?_
  intro v1 ev1 lv1 uv1
  have sv1 : v1 = (yC h) 83 k := Eq.trans ev1 (Eq.trans (congrArg (fun q => fld h q 5) P_r.1) (Eq.trans (Eq.symm (yC_f (h := h) (a := 83) (A := 3) (j := 5) (i := k) rfl P_r.2)) (Eq.trans (congrFun (congrFun (rfl : yC h = yC h) 83) k) rfl)))
  refine zwW_as C.1 (a1 := 17) (a2 := 17) (n := 13) (lo := -2147483648) (hi := 2147483647) (nx := 10) (by decide +kernel) (by first | decide | exact ⟨by decide, by decide⟩) (by first | decide | exact ⟨by decide, by decide⟩) (by first | omega | exact ⟨by omega, by omega⟩) ?_
  intro h2 eh2 Ih2
  have Ch2 : CI h2 := C.wc eh2 Ih2 (by decide) (by decide)
  have Qh2 : zXR [(17, 17, 0, 13)] 0 0 h h2 := zXR.wc eh2 rfl ⟨by decide, by decide, Or.inl (by decide)⟩ (by first | decide | exact ⟨by decide, by decide⟩)
  have G9 : n13 17 h2 (zu N 2 (yC h 83 k)) := HN.zu (fld_zu (C.1.s (a1 := 17) (a2 := 17) (k := 20) (n := 13) (by decide +kernel) (by decide) (by decide)) (by decide) eh2) sv1
  have Xh2 : zXR msx167_z (0) (0) h h2 := X.tr (c2 := 0) (s2 := 0) Qh2 (by decide +kernel) (by decide) (by decide)
  have Gh2_0 : gH h2 r := G_r.x Qh2
  have Zh2 : yC h2 = (yC h) := (yC_fr C Qh2 (by decide +kernel) (C.1.b (a1 := 37) (a2 := 37) (j1 := 86) (j2 := 87) (lo := 0) (hi := 6) (by decide +kernel) (r := 37) (j := 86) (by decide) (by decide) (by decide) (by decide)).2).trans (rfl : yC h = yC h)
  have Jh2 : yR h2 := J.fr C Qh2 (by decide +kernel)
  have pr_h2 : r = zv h2 3 k ∧ ((k : Nat) : Int) < fld h2 3 2 := zpv C Qh2 (A := 3) (by decide) (by decide +kernel) P_r
  refine zwW_p [(1, 0, 2)] (q := 11) (ls' := [(2, 13), (2, r), (0, a)]) (st' := [(2, 13)]) (by decide +kernel) rfl ?_
  refine zwW_gc Ch2.1 (kd := 9) (bn := 4) (n := 6) (c := 17) (nx := 14) (by decide +kernel) ?_
  refine zwW_p [(0, 3, 0), (1, 1, 2)] (q := 16) (ls' := [(2, 13), (2, r), (0, a)]) (st' := [(2, r), (0, 3), (2, 17)]) (by decide +kernel) rfl ?_
  refine zwX_gi Ch2 (kd := 4) (bn := 2) (n := 19) (nx := 19) (by decide +kernel) Gh2_0.2.1 Gh2_0.1 rfl ?_
  intro v3 ev3 lv3 uv3
  have sv3 : v3 = (yC h) 80 k := Eq.trans ev3 (Eq.trans (congrArg (fun q => fld h2 q 2) pr_h2.1) (Eq.trans (Eq.symm (yC_f (h := h2) (a := 80) (A := 3) (j := 2) (i := k) rfl pr_h2.2)) (Eq.trans (congrFun (congrFun Zh2 80) k) rfl)))
  refine zwW_as Ch2.1 (a1 := 17) (a2 := 17) (n := 13) (lo := -2147483648) (hi := 2147483647) (nx := 20) (by decide +kernel) (by first | decide | exact ⟨by decide, by decide⟩) (by first | decide | exact ⟨by decide, by decide⟩) (by first | omega | exact ⟨by omega, by omega⟩) ?_
  intro h4 eh4 Ih4
  have Ch4 : CI h4 := Ch2.wc eh4 Ih4 (by decide) (by decide)
  have Qh4 : zXR [(17, 17, 0, 13)] 0 0 h2 h4 := zXR.wc eh4 rfl ⟨by decide, by decide, Or.inl (by decide)⟩ (by first | decide | exact ⟨by decide, by decide⟩)
  have G19 : n13 17 h4 (zu (zu N 2 (yC h 83 k)) 3 (yC h 80 k)) := G9.zu (fld_zu (Ch2.1.s (a1 := 17) (a2 := 17) (k := 20) (n := 13) (by decide +kernel) (by decide) (by decide)) (by decide) eh4) sv3
  have Xh4 : zXR msx167_z (0) (0) h h4 := Xh2.tr (c2 := 0) (s2 := 0) Qh4 (by decide +kernel) (by decide) (by decide)
  have Gh4_0 : gH h4 r := Gh2_0.x Qh4
  have Zh4 : yC h4 = (yC h) := (yC_fr Ch2 Qh4 (by decide +kernel) (Ch2.1.b (a1 := 37) (a2 := 37) (j1 := 86) (j2 := 87) (lo := 0) (hi := 6) (by decide +kernel) (r := 37) (j := 86) (by decide) (by decide) (by decide) (by decide)).2).trans Zh2
  have Jh4 : yR h4 := Jh2.fr Ch2 Qh4 (by decide +kernel)
  have pr_h4 : r = zv h4 3 k ∧ ((k : Nat) : Int) < fld h4 3 2 := zpv Ch2 Qh4 (A := 3) (by decide) (by decide +kernel) pr_h2
  refine zwW_p [(1, 0, 2)] (q := 21) (ls' := [(2, 13), (2, r), (0, a)]) (st' := [(2, 13)]) (by decide +kernel) rfl ?_
  refine zwW_gc Ch4.1 (kd := 9) (bn := 4) (n := 6) (c := 17) (nx := 24) (by decide +kernel) ?_
  refine zwW_p [(0, 4, 0), (1, 1, 2)] (q := 26) (ls' := [(2, 13), (2, r), (0, a)]) (st' := [(2, r), (0, 4), (2, 17)]) (by decide +kernel) rfl ?_
  refine zwX_gi Ch4 (kd := 4) (bn := 3) (n := 19) (nx := 29) (by decide +kernel) Gh4_0.2.1 Gh4_0.1 rfl ?_
  intro v5 ev5 lv5 uv5
  have sv5 : v5 = (yC h) 81 k := Eq.trans ev5 (Eq.trans (congrArg (fun q => fld h4 q 3) pr_h4.1) (Eq.trans (Eq.symm (yC_f (h := h4) (a := 81) (A := 3) (j := 3) (i := k) rfl pr_h4.2)) (Eq.trans (congrFun (congrFun Zh4 81) k) rfl)))
  refine zwW_as Ch4.1 (a1 := 17) (a2 := 17) (n := 13) (lo := -2147483648) (hi := 2147483647) (nx := 30) (by decide +kernel) (by first | decide | exact ⟨by decide, by decide⟩) (by first | decide | exact ⟨by decide, by decide⟩) (by first | omega | exact ⟨by omega, by omega⟩) ?_
  intro h6 eh6 Ih6
  have Ch6 : CI h6 := Ch4.wc eh6 Ih6 (by decide) (by decide)
  have Qh6 : zXR [(17, 17, 0, 13)] 0 0 h4 h6 := zXR.wc eh6 rfl ⟨by decide, by decide, Or.inl (by decide)⟩ (by first | decide | exact ⟨by decide, by decide⟩)
  have G29 : n13 17 h6 (zu (zu (zu N 2 (yC h 83 k)) 3 (yC h 80 k)) 4 (yC h 81 k)) := G19.zu (fld_zu (Ch4.1.s (a1 := 17) (a2 := 17) (k := 20) (n := 13) (by decide +kernel) (by decide) (by decide)) (by decide) eh6) sv5
  have Xh6 : zXR msx167_z (0) (0) h h6 := Xh4.tr (c2 := 0) (s2 := 0) Qh6 (by decide +kernel) (by decide) (by decide)
  have Gh6_0 : gH h6 r := Gh4_0.x Qh6
  have Zh6 : yC h6 = (yC h) := (yC_fr Ch4 Qh6 (by decide +kernel) (Ch4.1.b (a1 := 37) (a2 := 37) (j1 := 86) (j2 := 87) (lo := 0) (hi := 6) (by decide +kernel) (r := 37) (j := 86) (by decide) (by decide) (by decide) (by decide)).2).trans Zh4
  have Jh6 : yR h6 := Jh4.fr Ch4 Qh6 (by decide +kernel)
  have pr_h6 : r = zv h6 3 k ∧ ((k : Nat) : Int) < fld h6 3 2 := zpv Ch4 Qh6 (A := 3) (by decide) (by decide +kernel) pr_h4
  refine zwW_p [(1, 0, 2)] (q := 31) (ls' := [(2, 13), (2, r), (0, a)]) (st' := [(2, 13)]) (by decide +kernel) rfl ?_
  refine zwW_gc Ch6.1 (kd := 9) (bn := 4) (n := 6) (c := 17) (nx := 34) (by decide +kernel) ?_
  refine zwW_p [(0, 5, 0), (1, 1, 2)] (q := 36) (ls' := [(2, 13), (2, r), (0, a)]) (st' := [(2, r), (0, 5), (2, 17)]) (by decide +kernel) rfl ?_
  refine zwX_gi Ch6 (kd := 4) (bn := 4) (n := 19) (nx := 39) (by decide +kernel) Gh6_0.2.1 Gh6_0.1 rfl ?_
  intro v7 ev7 lv7 uv7
  have sv7 : v7 = (yC h) 82 k := Eq.trans ev7 (Eq.trans (congrArg (fun q => fld h6 q 4) pr_h6.1) (Eq.trans (Eq.symm (yC_f (h := h6) (a := 82) (A := 3) (j := 4) (i := k) rfl pr_h6.2)) (Eq.trans (congrFun (congrFun Zh6 82) k) rfl)))
  refine zwW_as Ch6.1 (a1 := 17) (a2 := 17) (n := 13) (lo := -2147483648) (hi := 2147483647) (nx := 40) (by decide +kernel) (by first | decide | exact ⟨by decide, by decide⟩) (by first | decide | exact ⟨by decide, by decide⟩) (by first | omega | exact ⟨by omega, by omega⟩) ?_
  intro h8 eh8 Ih8
  have Ch8 : CI h8 := Ch6.wc eh8 Ih8 (by decide) (by decide)
  have Qh8 : zXR [(17, 17, 0, 13)] 0 0 h6 h8 := zXR.wc eh8 rfl ⟨by decide, by decide, Or.inl (by decide)⟩ (by first | decide | exact ⟨by decide, by decide⟩)
  have G39 : n13 17 h8 (zu (zu (zu (zu N 2 (yC h 83 k)) 3 (yC h 80 k)) 4 (yC h 81 k)) 5 (yC h 82 k)) := G29.zu (fld_zu (Ch6.1.s (a1 := 17) (a2 := 17) (k := 20) (n := 13) (by decide +kernel) (by decide) (by decide)) (by decide) eh8) sv7
  have Xh8 : zXR msx167_z (0) (0) h h8 := Xh6.tr (c2 := 0) (s2 := 0) Qh8 (by decide +kernel) (by decide) (by decide)
  have Gh8_0 : gH h8 r := Gh6_0.x Qh8
  have Zh8 : yC h8 = (yC h) := (yC_fr Ch6 Qh8 (by decide +kernel) (Ch6.1.b (a1 := 37) (a2 := 37) (j1 := 86) (j2 := 87) (lo := 0) (hi := 6) (by decide +kernel) (r := 37) (j := 86) (by decide) (by decide) (by decide) (by decide)).2).trans Zh6
  have Jh8 : yR h8 := Jh6.fr Ch6 Qh8 (by decide +kernel)
  have pr_h8 : r = zv h8 3 k ∧ ((k : Nat) : Int) < fld h8 3 2 := zpv Ch6 Qh8 (A := 3) (by decide) (by decide +kernel) pr_h6
  refine zwW_p [(1, 0, 2)] (q := 41) (ls' := [(2, 13), (2, r), (0, a)]) (st' := [(2, 13)]) (by decide +kernel) rfl ?_
  refine zwW_gc Ch8.1 (kd := 9) (bn := 4) (n := 6) (c := 17) (nx := 44) (by decide +kernel) ?_
  refine zwW_p [(0, 10, 0), (1, 1, 2)] (q := 47) (ls' := [(2, 13), (2, r), (0, a)]) (st' := [(2, r), (0, 10), (2, 17)]) (by decide +kernel) rfl ?_
  refine zwW_get (kd := 4) (bn := 1) (t := 2) (n := 19) (nx := 50) (by decide +kernel) Gh8_0.2.1 rfl ?_
  obtain ⟨v9, ev9⟩ : ∃ z, z = fld h8 r 1 := ⟨_, rfl⟩
  rw [← ev9]
  have Gv9 : gV h8 v9 := by rw [ev9]; exact Gh8_0.2.2
  have lv9 := Gv9.1
  have qv9 : yC h8 79 k = (yC h) 79 k := Eq.trans (congrFun (congrFun Zh8 79) k) rfl
  have wv9 := Jh8.r (a := 79) (A := 3) (j := 1) (B := 2) (i := k) rfl pr_h8.2
  rw [qv9] at wv9
  have pv9 : v9 = zv h8 2 (((yC h) 79 k).toNat) ∧ ((((yC h) 79 k).toNat : Nat) : Int) < fld h8 2 2 := ⟨by rw [ev9, pr_h8.1]; exact wv9.2.2, wv9.2.1⟩
  refine zwW_p [(1, 2, 0)] (q := 51) (ls' := [(2, 13), (2, r), (0, a)]) (st' := [(0, a), (2, v9), (0, 10), (2, 17)]) (by decide +kernel) rfl ?_
  refine zwW_cv (op := 60) (k' := 222) (n := 1) (kd := 11) (m := 17) (nx := 54) (r := v9) (tl := [(0, a)]) (st' := [(0, 10), (2, 17)]) (by decide +kernel) rfl (by decide +kernel) Gv9.2.1 (x222_z h8 Ch8 v9 a Gv9 (by omega) Jh8 (((yC h) 79 k).toNat) pv9 (by first | omega | exact ⟨by omega, by omega⟩) (by rw [Zh8]; exact ok.id (by omega) (by first | omega | exact ⟨by omega, by omega⟩))) rfl ?_
  rintro v10 _ ⟨rfl, f11, f12⟩
  have sv10 : v10 = yIdl (yC h) (((yC h) 79 k).toNat) a := by rw [f12, Zh8]
  refine zwW_as Ch8.1 (a1 := 17) (a2 := 17) (n := 13) (lo := -2147483648) (hi := 2147483647) (nx := 55) (by decide +kernel) (by first | decide | exact ⟨by decide, by decide⟩) (by first | decide | exact ⟨by decide, by decide⟩) (by first | omega | exact ⟨by omega, by omega⟩) ?_
  intro h13 eh13 Ih13
  have Ch13 : CI h13 := Ch8.wc eh13 Ih13 (by decide) (by decide)
  have Qh13 : zXR [(17, 17, 0, 13)] 0 0 h8 h13 := zXR.wc eh13 rfl ⟨by decide, by decide, Or.inl (by decide)⟩ (by first | decide | exact ⟨by decide, by decide⟩)
  have G54 : n13 17 h13 (yNmH (yC h) k N) := G39.zu (fld_zu (Ch8.1.s (a1 := 17) (a2 := 17) (k := 20) (n := 13) (by decide +kernel) (by decide) (by decide)) (by decide) eh13) (by rw [sv10, pa])
  have Xh13 : zXR msx167_z (0) (0) h h13 := Xh8.tr (c2 := 0) (s2 := 0) Qh13 (by decide +kernel) (by decide) (by decide)
  have Gh13_0 : gH h13 r := Gh8_0.x Qh13
  have Zh13 : yC h13 = (yC h) := (yC_fr Ch8 Qh13 (by decide +kernel) (Ch8.1.b (a1 := 37) (a2 := 37) (j1 := 86) (j2 := 87) (lo := 0) (hi := 6) (by decide +kernel) (r := 37) (j := 86) (by decide) (by decide) (by decide) (by decide)).2).trans Zh8
  have Jh13 : yR h13 := Jh8.fr Ch8 Qh13 (by decide +kernel)
  have pr_h13 : r = zv h13 3 k ∧ ((k : Nat) : Int) < fld h13 3 2 := zpv Ch8 Qh13 (A := 3) (by decide) (by decide +kernel) pr_h8
  refine zwW_retv (nx := 56) (a := 0) (b := 0) (by decide +kernel) ?_
  exact ⟨Ch13, Xh13.le (by decide) (by decide), by exact G54, by exact Jh13⟩
def msx153_z : Zms := [(17, 17, 0, 13), (18, 18, 0, 400)]
-- WheelLand.dutyIn(LWheelLand$Village;)I
theorem x153_z {sc : List Int} (h : Hp) (C : CI h) (r : Int) (q : qT) (G_r : gV h r) (J : yR h) (k : Nat) (P_r : r = zv h 2 k ∧ (k : Int) < fld h 2 2) (V : zRq q h) (ok : yOK (yC h)) : zwC sc 4 153 [(2, 1), (2, r)] h (zwRt 0 (fun x g => CI g ∧ zXR msx153_z (0) (0) h g ∧ (-2147483648 ≤ x ∧ x ≤ 2147483647) ∧ (0 ≤ x ∧ x ≤ 1000000) ∧ (x = yDut q (yC h) k) ∧ (yR g))) := by
  refine zwC_of (D := 3) 2 (by decide +kernel) rfl (ls := [(2, 1), (2, r)]) rfl ?_
  have lw_r := G_r.1
  have X : zXR msx153_z 0 0 h h := zXR.rf _ _
  have u0 : yC h 37 0 = fld h 1 0 := rfl
  have u1 : yC h 37 1 = fld h 2 2 := rfl
  have u2 : yC h 37 2 = fld h 3 2 := rfl
  have u64 : yC h 37 64 = fld h 4 2 := rfl
  have u78 : yC h 37 78 = fld h 5 2 := rfl
  have B153 : eNum (q 2 (yC h 37 0) (zu (yNm0 (yC h 37 0)) 12 (yC h 71 k))) := V.num (eNs_dut ok (by have := P_r.2; omega)) (by first | decide | exact ⟨by decide, by decide⟩)
  unfold eNum at B153
  refine zwW_p [(1, 0, 2)] (q := 1) (ls' := [(2, 1), (2, r)]) (st' := [(2, 1)]) (by decide +kernel) rfl ?_
  refine zwW_gc C.1 (kd := 12) (bn := 8) (n := 13) (c := 13) (nx := 4) (by decide +kernel) ?_
  refine zwW_p [(1, 0, 2)] (q := 5) (ls' := [(2, 1), (2, r)]) (st' := [(2, 1), (2, 13)]) (by decide +kernel) rfl ?_
  refine zwW_gs C.1 (kd := 12) (bn := 0) (n := 13) (t := 0) (lo := 0) (hi := 156) (nx := 8) (by decide +kernel) ?_
  intro v1 ev1 lv1 uv1
  have sv1 : v1 = (yC h) 37 0 := Eq.trans ev1 (Eq.trans (Eq.symm (yC_s (h := h) (i := 0) rfl)) (Eq.trans (congrFun (congrFun (rfl : yC h = yC h) 37) 0) rfl))
  refine zwW_cmv C.1 (op := 60) (k' := 166) (n := 1) (kd := 9) (m := 6) (nx := 11) (r := 13) (tl := [(0, v1)]) (st' := []) (by decide +kernel) rfl (by decide +kernel) rfl (x166_n h C v1 (by omega) (by omega)) ?_
  rintro h3 ⟨Ch3, Qh3, f2⟩
  have Zh3 : yC h3 = (yC h) := (yC_fr C Qh3 (by decide +kernel) (C.1.b (a1 := 37) (a2 := 37) (j1 := 86) (j2 := 87) (lo := 0) (hi := 6) (by decide +kernel) (r := 37) (j := 86) (by decide) (by decide) (by decide) (by decide)).2).trans (rfl : yC h = yC h)
  have Xh3 : zXR msx153_z (0) (0) h h3 := X.tr (c2 := 0) (s2 := 0) Qh3 (by decide +kernel) (by decide) (by decide)
  have Gh3_0 : gV h3 r := G_r.x Qh3
  have Jh3 : yR h3 := J.fr C Qh3 (by decide +kernel)
  have pr_h3 : r = zv h3 2 k ∧ ((k : Nat) : Int) < fld h3 2 2 := zpv C Qh3 (A := 2) (by decide) (by decide +kernel) P_r
  have Vh3 : zRq q h3 := V.fr C Qh3 (by decide +kernel)
  have G8 : n13 17 h3 (yNm0 (yC h 37 0)) := f2.cg (by rw [sv1])
  refine zwW_p [(1, 0, 2)] (q := 12) (ls' := [(2, 1), (2, r)]) (st' := [(2, 1)]) (by decide +kernel) rfl ?_
  refine zwW_gc Ch3.1 (kd := 12) (bn := 8) (n := 13) (c := 13) (nx := 15) (by decide +kernel) ?_
  refine zwW_p [(1, 1, 2)] (q := 16) (ls' := [(2, 1), (2, r)]) (st' := [(2, r), (2, 13)]) (by decide +kernel) rfl ?_
  refine zwX_gi Ch3 (kd := 11) (bn := 9) (n := 17) (nx := 19) (by decide +kernel) Gh3_0.2.1 Gh3_0.1 rfl ?_
  intro v4 ev4 lv4 uv4
  have sv4 : v4 = (yC h) 71 k := Eq.trans ev4 (Eq.trans (congrArg (fun q => fld h3 q 9) pr_h3.1) (Eq.trans (Eq.symm (yC_f (h := h3) (a := 71) (A := 2) (j := 9) (i := k) rfl pr_h3.2)) (Eq.trans (congrFun (congrFun Zh3 71) k) rfl)))
  refine zwW_cmv Ch3.1 (op := 60) (k' := 214) (n := 1) (kd := 9) (m := 6) (nx := 22) (r := 13) (tl := [(0, v4)]) (st' := []) (by decide +kernel) rfl (by decide +kernel) rfl (x214_n h3 Ch3 v4 (yNm0 (yC h 37 0)) (by omega) G8) ?_
  rintro h6 ⟨Ch6, Qh6, f5⟩
  have Zh6 : yC h6 = (yC h) := (yC_fr Ch3 Qh6 (by decide +kernel) (Ch3.1.b (a1 := 37) (a2 := 37) (j1 := 86) (j2 := 87) (lo := 0) (hi := 6) (by decide +kernel) (r := 37) (j := 86) (by decide) (by decide) (by decide) (by decide)).2).trans Zh3
  have Xh6 : zXR msx153_z (0) (0) h h6 := Xh3.tr (c2 := 0) (s2 := 0) Qh6 (by decide +kernel) (by decide) (by decide)
  have Gh6_0 : gV h6 r := Gh3_0.x Qh6
  have Jh6 : yR h6 := Jh3.fr Ch3 Qh6 (by decide +kernel)
  have pr_h6 : r = zv h6 2 k ∧ ((k : Nat) : Int) < fld h6 2 2 := zpv Ch3 Qh6 (A := 2) (by decide) (by decide +kernel) pr_h3
  have Vh6 : zRq q h6 := Vh3.fr Ch3 Qh6 (by decide +kernel)
  have G19 : n13 17 h6 (zu (yNm0 (yC h 37 0)) 12 (yC h 71 k)) := f5.cg (by rw [sv4])
  refine zwW_p [(1, 0, 2)] (q := 23) (ls' := [(2, 1), (2, r)]) (st' := [(2, 1)]) (by decide +kernel) rfl ?_
  refine zwW_gc Ch6.1 (kd := 12) (bn := 8) (n := 13) (c := 13) (nx := 26) (by decide +kernel) ?_
  refine zwW_p [(0, 2, 0), (1, 0, 2)] (q := 28) (ls' := [(2, 1), (2, r)]) (st' := [(2, 1), (0, 2), (2, 13)]) (by decide +kernel) rfl ?_
  refine zwW_gs Ch6.1 (kd := 12) (bn := 0) (n := 13) (t := 0) (lo := 0) (hi := 156) (nx := 31) (by decide +kernel) ?_
  intro v7 ev7 lv7 uv7
  have sv7 : v7 = (yC h) 37 0 := Eq.trans ev7 (Eq.trans (Eq.symm (yC_s (h := h6) (i := 0) rfl)) (Eq.trans (congrFun (congrFun Zh6 37) 0) rfl))
  refine zwW_cm Ch6.1 (op := 60) (k' := 172) (n := 2) (kd := 9) (m := 6) (nx := 34) (r := 13) (tl := [(0, 2), (0, v7)]) (st' := []) (by decide +kernel) rfl (by decide +kernel) rfl (x172_e h6 Ch6 2 v7 (by omega) (by omega) (by first | decide | exact ⟨by decide, by decide⟩) Vh6.1.1 Vh6.1.2.1 Vh6.1.2.2 (G19.ns (eNs_dut ok (by have := P_r.2; omega))) Vh6.2.1.1 Vh6.2.1.2) ?_
  rintro v10 h11 ⟨Ch11, Qh11, f8, f9⟩
  have Zh11 : yC h11 = (yC h) := (yC_fr Ch6 Qh11 (by decide +kernel) (Ch6.1.b (a1 := 37) (a2 := 37) (j1 := 86) (j2 := 87) (lo := 0) (hi := 6) (by decide +kernel) (r := 37) (j := 86) (by decide) (by decide) (by decide) (by decide)).2).trans Zh6
  have Xh11 : zXR msx153_z (0) (0) h h11 := Xh6.tr (c2 := 0) (s2 := 0) Qh11 (by decide +kernel) (by decide) (by decide)
  have Gh11_0 : gV h11 r := Gh6_0.x Qh11
  have Jh11 : yR h11 := Jh6.fr Ch6 Qh11 (by decide +kernel)
  have pr_h11 : r = zv h11 2 k ∧ ((k : Nat) : Int) < fld h11 2 2 := zpv Ch6 Qh11 (A := 2) (by decide) (by decide +kernel) pr_h6
  have Vh11 : zRq q h11 := Vh6.fr Ch6 Qh11 (by decide +kernel)
  have A31 : v10 = q 2 (yC h 37 0) (zu (yNm0 (yC h 37 0)) 12 (yC h 71 k)) := by
    have z := f9
    rw [z, G19.tl, Vh6.2.2 _ _ _ (by decide) (by decide), sv7]
  refine zwW_p [(0, 0, 0)] (q := 35) (ls' := [(2, 1), (2, r)]) (st' := [(0, 0), (0, v10)]) (by decide +kernel) rfl ?_
  refine zwW_max (nx := 38) (by decide +kernel) rfl ?_
  intro v12 ev12
  refine zwW_ret (nx := 39) (a := 0) (b := 0) (by decide +kernel) rfl (Or.inl rfl) ?_
  exact ⟨Ch11, Xh11.le (by decide) (by decide), by omega, by omega, by unfold yDut; omega, by exact Jh11⟩
-- WheelLand$Village.choiceOf(II)I
theorem x154_z {sc : List Int} (h : Hp) (C : CI h) (r a b : Int) (G_r : gV h r) (q_a : -2147483648 ≤ a ∧ a ≤ 2147483647) (q_b : -2147483648 ≤ b ∧ b ≤ 2147483647) (J : yR h) (k : Nat) (P_r : r = zv h 2 k ∧ (k : Int) < fld h 2 2) : zwC sc 1 154 [(2, r), (0, a), (0, b)] h (zwRt 0 (fun x g => h = g ∧ (-2147483648 ≤ x ∧ x ≤ 2147483647) ∧ (x = yCho (yC h) k a b))) := by
  refine zwC_of (D := 0) 5 (by decide +kernel) rfl (ls := [(2, r), (0, a), (0, b), (9, 0), (9, 0)]) rfl ?_
  have lw_r := G_r.1
  have u0 : yC h 37 0 = fld h 1 0 := rfl
  have u1 : yC h 37 1 = fld h 2 2 := rfl
  have u2 : yC h 37 2 = fld h 3 2 := rfl
  have u64 : yC h 37 64 = fld h 4 2 := rfl
  have u78 : yC h 37 78 = fld h 5 2 := rfl
  refine zwW_p [(1, 0, 2)] (q := 1) (ls' := [(2, r), (0, a), (0, b), (9, 0), (9, 0)]) (st' := [(2, r)]) (by decide +kernel) rfl ?_
  refine zwX_gi C (kd := 11) (bn := 5) (n := 17) (nx := 4) (by decide +kernel) G_r.2.1 G_r.1 rfl ?_
  intro v1 ev1 lv1 uv1
  have sv1 : v1 = (yC h) 67 k := Eq.trans ev1 (Eq.trans (congrArg (fun q => fld h q 5) P_r.1) (Eq.trans (Eq.symm (yC_f (h := h) (a := 67) (A := 2) (j := 5) (i := k) rfl P_r.2)) (Eq.trans (congrFun (congrFun (rfl : yC h = yC h) 67) k) rfl)))
  refine zwW_p [(1, 0, 2)] (q := 5) (ls' := [(2, r), (0, a), (0, b), (9, 0), (9, 0)]) (st' := [(2, r), (0, v1)]) (by decide +kernel) rfl ?_
  refine zwX_gi C (kd := 11) (bn := 6) (n := 17) (nx := 8) (by decide +kernel) G_r.2.1 G_r.1 rfl ?_
  intro v2 ev2 lv2 uv2
  have sv2 : v2 = (yC h) 68 k := Eq.trans ev2 (Eq.trans (congrArg (fun q => fld h q 6) P_r.1) (Eq.trans (Eq.symm (yC_f (h := h) (a := 68) (A := 2) (j := 6) (i := k) rfl P_r.2)) (Eq.trans (congrFun (congrFun (rfl : yC h = yC h) 68) k) rfl)))
  refine zwW_adw (nx := 9) (by decide +kernel) ?_
  intro v3 ev3 lv3 uv3
  have Ev3 : v3 = w32 (((yC h) 67 k) + ((yC h) 68 k)) := by rw [ev3, sv1, sv2]
  refine zwif_le (q := 24) (nx := 12) (by decide +kernel) (fun c4 => ?_) (fun c4 => ?_)
  · refine zwW_p [(0, 0, 0), (2, 3, 0), (1, 0, 2)] (q := 27) (ls' := [(2, r), (0, a), (0, b), (0, 0), (9, 0)]) (st' := [(2, r)]) (by decide +kernel) rfl ?_
    refine zwX_gi C (kd := 11) (bn := 7) (n := 17) (nx := 30) (by decide +kernel) G_r.2.1 G_r.1 rfl ?_
    intro v5 ev5 lv5 uv5
    have sv5 : v5 = (yC h) 69 k := Eq.trans ev5 (Eq.trans (congrArg (fun q => fld h q 7) P_r.1) (Eq.trans (Eq.symm (yC_f (h := h) (a := 69) (A := 2) (j := 7) (i := k) rfl P_r.2)) (Eq.trans (congrFun (congrFun (rfl : yC h = yC h) 69) k) rfl)))
    refine zwif_le (q := 47) (nx := 33) (by decide +kernel) (fun c6 => ?_) (fun c6 => ?_)
    · refine zwW_p [(0, 0, 0), (2, 4, 0), (1, 3, 0)] (q := 51) (ls' := [(2, r), (0, a), (0, b), (0, 0), (0, 0)]) (st' := [(0, 0)]) (by decide +kernel) rfl ?_
      refine zwif_eq (q := 83) (nx := 54) (by decide +kernel) (fun c7 => ?_) (fun c7 => ?_)
      · refine zwW_p [(1, 3, 0)] (q := 84) (ls' := [(2, r), (0, a), (0, b), (0, 0), (0, 0)]) (st' := [(0, 0)]) (by decide +kernel) rfl ?_
        refine zwif_eq (q := 89) (nx := 87) (by decide +kernel) (fun c8 => ?_) (fun c8 => ?_)
        · refine zwW_p [(1, 4, 0)] (q := 91) (ls' := [(2, r), (0, a), (0, b), (0, 0), (0, 0)]) (st' := [(0, 0)]) (by decide +kernel) rfl ?_
          refine zwif_eq (q := 98) (nx := 94) (by decide +kernel) (fun c9 => ?_) (fun c9 => ?_)
          · refine zwW_p [(0, -1, 0)] (q := 99) (ls' := [(2, r), (0, a), (0, b), (0, 0), (0, 0)]) (st' := [(0, -1)]) (by decide +kernel) rfl ?_
            refine zwW_ret (nx := 100) (a := 0) (b := 0) (by decide +kernel) rfl (Or.inl rfl) ?_
            exact ⟨rfl, by omega, by unfold yCho; (repeat' (first | rw [if_neg (by omega)] | rw [if_pos (by omega)])); all_goals (first | rfl | omega)⟩
          · exfalso; omega
        · exfalso; omega
      · exfalso; omega
    · refine zwW_p [(1, 1, 0), (1, 0, 2)] (q := 35) (ls' := [(2, r), (0, a), (0, b), (0, 0), (9, 0)]) (st' := [(2, r), (0, a)]) (by decide +kernel) rfl ?_
      refine zwX_gi C (kd := 11) (bn := 9) (n := 17) (nx := 38) (by decide +kernel) G_r.2.1 G_r.1 rfl ?_
      intro v10 ev10 lv10 uv10
      have sv10 : v10 = (yC h) 71 k := Eq.trans ev10 (Eq.trans (congrArg (fun q => fld h q 9) P_r.1) (Eq.trans (Eq.symm (yC_f (h := h) (a := 71) (A := 2) (j := 9) (i := k) rfl P_r.2)) (Eq.trans (congrFun (congrFun (rfl : yC h = yC h) 71) k) rfl)))
      refine zwW_p [(1, 2, 0)] (q := 39) (ls' := [(2, r), (0, a), (0, b), (0, 0), (9, 0)]) (st' := [(0, b), (0, v10), (0, a)]) (by decide +kernel) rfl ?_
      refine zwW_adw (nx := 40) (by decide +kernel) ?_
      intro v11 ev11 lv11 uv11
      have Ev11 : v11 = w32 (((yC h) 71 k) + b) := by rw [ev11, sv10]
      refine zwic_lt (q := 47) (nx := 43) (by decide +kernel) (fun c12 => ?_) (fun c12 => ?_)
      · refine zwW_p [(0, 0, 0), (2, 4, 0), (1, 3, 0)] (q := 51) (ls' := [(2, r), (0, a), (0, b), (0, 0), (0, 0)]) (st' := [(0, 0)]) (by decide +kernel) rfl ?_
        refine zwif_eq (q := 83) (nx := 54) (by decide +kernel) (fun c13 => ?_) (fun c13 => ?_)
        · refine zwW_p [(1, 3, 0)] (q := 84) (ls' := [(2, r), (0, a), (0, b), (0, 0), (0, 0)]) (st' := [(0, 0)]) (by decide +kernel) rfl ?_
          refine zwif_eq (q := 89) (nx := 87) (by decide +kernel) (fun c14 => ?_) (fun c14 => ?_)
          · refine zwW_p [(1, 4, 0)] (q := 91) (ls' := [(2, r), (0, a), (0, b), (0, 0), (0, 0)]) (st' := [(0, 0)]) (by decide +kernel) rfl ?_
            refine zwif_eq (q := 98) (nx := 94) (by decide +kernel) (fun c15 => ?_) (fun c15 => ?_)
            · refine zwW_p [(0, -1, 0)] (q := 99) (ls' := [(2, r), (0, a), (0, b), (0, 0), (0, 0)]) (st' := [(0, -1)]) (by decide +kernel) rfl ?_
              refine zwW_ret (nx := 100) (a := 0) (b := 0) (by decide +kernel) rfl (Or.inl rfl) ?_
              exact ⟨rfl, by omega, by unfold yCho; (repeat' (first | rw [if_neg (by omega)] | rw [if_pos (by omega)])); all_goals (first | rfl | omega)⟩
            · exfalso; omega
          · exfalso; omega
        · exfalso; omega
      · refine zwW_p [(0, 1, 0), (24, 48, 0), (2, 4, 0), (1, 3, 0)] (q := 51) (ls' := [(2, r), (0, a), (0, b), (0, 0), (0, 1)]) (st' := [(0, 0)]) (by decide +kernel) rfl ?_
        refine zwif_eq (q := 83) (nx := 54) (by decide +kernel) (fun c16 => ?_) (fun c16 => ?_)
        · refine zwW_p [(1, 3, 0)] (q := 84) (ls' := [(2, r), (0, a), (0, b), (0, 0), (0, 1)]) (st' := [(0, 0)]) (by decide +kernel) rfl ?_
          refine zwif_eq (q := 89) (nx := 87) (by decide +kernel) (fun c17 => ?_) (fun c17 => ?_)
          · refine zwW_p [(1, 4, 0)] (q := 91) (ls' := [(2, r), (0, a), (0, b), (0, 0), (0, 1)]) (st' := [(0, 1)]) (by decide +kernel) rfl ?_
            refine zwif_eq (q := 98) (nx := 94) (by decide +kernel) (fun c18 => ?_) (fun c18 => ?_)
            · exfalso; omega
            · refine zwW_p [(0, 1, 0), (24, 99, 0)] (q := 99) (ls' := [(2, r), (0, a), (0, b), (0, 0), (0, 1)]) (st' := [(0, 1)]) (by decide +kernel) rfl ?_
              refine zwW_ret (nx := 100) (a := 0) (b := 0) (by decide +kernel) rfl (Or.inl rfl) ?_
              exact ⟨rfl, by omega, by unfold yCho; (repeat' (first | rw [if_pos (by omega)] | rw [if_neg (by omega)])); all_goals (first | rfl | omega)⟩
          · exfalso; omega
        · exfalso; omega
  · refine zwW_p [(1, 1, 0), (1, 0, 2)] (q := 14) (ls' := [(2, r), (0, a), (0, b), (9, 0), (9, 0)]) (st' := [(2, r), (0, a)]) (by decide +kernel) rfl ?_
    refine zwX_gi C (kd := 11) (bn := 8) (n := 17) (nx := 17) (by decide +kernel) G_r.2.1 G_r.1 rfl ?_
    intro v19 ev19 lv19 uv19
    have sv19 : v19 = (yC h) 70 k := Eq.trans ev19 (Eq.trans (congrArg (fun q => fld h q 8) P_r.1) (Eq.trans (Eq.symm (yC_f (h := h) (a := 70) (A := 2) (j := 8) (i := k) rfl P_r.2)) (Eq.trans (congrFun (congrFun (rfl : yC h = yC h) 70) k) rfl)))
    refine zwic_lt (q := 24) (nx := 20) (by decide +kernel) (fun c20 => ?_) (fun c20 => ?_)
    · refine zwW_p [(0, 0, 0), (2, 3, 0), (1, 0, 2)] (q := 27) (ls' := [(2, r), (0, a), (0, b), (0, 0), (9, 0)]) (st' := [(2, r)]) (by decide +kernel) rfl ?_
      refine zwX_gi C (kd := 11) (bn := 7) (n := 17) (nx := 30) (by decide +kernel) G_r.2.1 G_r.1 rfl ?_
      intro v21 ev21 lv21 uv21
      have sv21 : v21 = (yC h) 69 k := Eq.trans ev21 (Eq.trans (congrArg (fun q => fld h q 7) P_r.1) (Eq.trans (Eq.symm (yC_f (h := h) (a := 69) (A := 2) (j := 7) (i := k) rfl P_r.2)) (Eq.trans (congrFun (congrFun (rfl : yC h = yC h) 69) k) rfl)))
      refine zwif_le (q := 47) (nx := 33) (by decide +kernel) (fun c22 => ?_) (fun c22 => ?_)
      · refine zwW_p [(0, 0, 0), (2, 4, 0), (1, 3, 0)] (q := 51) (ls' := [(2, r), (0, a), (0, b), (0, 0), (0, 0)]) (st' := [(0, 0)]) (by decide +kernel) rfl ?_
        refine zwif_eq (q := 83) (nx := 54) (by decide +kernel) (fun c23 => ?_) (fun c23 => ?_)
        · refine zwW_p [(1, 3, 0)] (q := 84) (ls' := [(2, r), (0, a), (0, b), (0, 0), (0, 0)]) (st' := [(0, 0)]) (by decide +kernel) rfl ?_
          refine zwif_eq (q := 89) (nx := 87) (by decide +kernel) (fun c24 => ?_) (fun c24 => ?_)
          · refine zwW_p [(1, 4, 0)] (q := 91) (ls' := [(2, r), (0, a), (0, b), (0, 0), (0, 0)]) (st' := [(0, 0)]) (by decide +kernel) rfl ?_
            refine zwif_eq (q := 98) (nx := 94) (by decide +kernel) (fun c25 => ?_) (fun c25 => ?_)
            · refine zwW_p [(0, -1, 0)] (q := 99) (ls' := [(2, r), (0, a), (0, b), (0, 0), (0, 0)]) (st' := [(0, -1)]) (by decide +kernel) rfl ?_
              refine zwW_ret (nx := 100) (a := 0) (b := 0) (by decide +kernel) rfl (Or.inl rfl) ?_
              exact ⟨rfl, by omega, by unfold yCho; (repeat' (first | rw [if_neg (by omega)] | rw [if_pos (by omega)])); all_goals (first | rfl | omega)⟩
            · exfalso; omega
          · exfalso; omega
        · exfalso; omega
      · refine zwW_p [(1, 1, 0), (1, 0, 2)] (q := 35) (ls' := [(2, r), (0, a), (0, b), (0, 0), (9, 0)]) (st' := [(2, r), (0, a)]) (by decide +kernel) rfl ?_
        refine zwX_gi C (kd := 11) (bn := 9) (n := 17) (nx := 38) (by decide +kernel) G_r.2.1 G_r.1 rfl ?_
        intro v26 ev26 lv26 uv26
        have sv26 : v26 = (yC h) 71 k := Eq.trans ev26 (Eq.trans (congrArg (fun q => fld h q 9) P_r.1) (Eq.trans (Eq.symm (yC_f (h := h) (a := 71) (A := 2) (j := 9) (i := k) rfl P_r.2)) (Eq.trans (congrFun (congrFun (rfl : yC h = yC h) 71) k) rfl)))
        refine zwW_p [(1, 2, 0)] (q := 39) (ls' := [(2, r), (0, a), (0, b), (0, 0), (9, 0)]) (st' := [(0, b), (0, v26), (0, a)]) (by decide +kernel) rfl ?_
        refine zwW_adw (nx := 40) (by decide +kernel) ?_
        intro v27 ev27 lv27 uv27
        have Ev27 : v27 = w32 (((yC h) 71 k) + b) := by rw [ev27, sv26]
        refine zwic_lt (q := 47) (nx := 43) (by decide +kernel) (fun c28 => ?_) (fun c28 => ?_)
        · refine zwW_p [(0, 0, 0), (2, 4, 0), (1, 3, 0)] (q := 51) (ls' := [(2, r), (0, a), (0, b), (0, 0), (0, 0)]) (st' := [(0, 0)]) (by decide +kernel) rfl ?_
          refine zwif_eq (q := 83) (nx := 54) (by decide +kernel) (fun c29 => ?_) (fun c29 => ?_)
          · refine zwW_p [(1, 3, 0)] (q := 84) (ls' := [(2, r), (0, a), (0, b), (0, 0), (0, 0)]) (st' := [(0, 0)]) (by decide +kernel) rfl ?_
            refine zwif_eq (q := 89) (nx := 87) (by decide +kernel) (fun c30 => ?_) (fun c30 => ?_)
            · refine zwW_p [(1, 4, 0)] (q := 91) (ls' := [(2, r), (0, a), (0, b), (0, 0), (0, 0)]) (st' := [(0, 0)]) (by decide +kernel) rfl ?_
              refine zwif_eq (q := 98) (nx := 94) (by decide +kernel) (fun c31 => ?_) (fun c31 => ?_)
              · refine zwW_p [(0, -1, 0)] (q := 99) (ls' := [(2, r), (0, a), (0, b), (0, 0), (0, 0)]) (st' := [(0, -1)]) (by decide +kernel) rfl ?_
                refine zwW_ret (nx := 100) (a := 0) (b := 0) (by decide +kernel) rfl (Or.inl rfl) ?_
                exact ⟨rfl, by omega, by unfold yCho; (repeat' (first | rw [if_neg (by omega)] | rw [if_pos (by omega)])); all_goals (first | rfl | omega)⟩
              · exfalso; omega
            · exfalso; omega
          · exfalso; omega
        · refine zwW_p [(0, 1, 0), (24, 48, 0), (2, 4, 0), (1, 3, 0)] (q := 51) (ls' := [(2, r), (0, a), (0, b), (0, 0), (0, 1)]) (st' := [(0, 0)]) (by decide +kernel) rfl ?_
          refine zwif_eq (q := 83) (nx := 54) (by decide +kernel) (fun c32 => ?_) (fun c32 => ?_)
          · refine zwW_p [(1, 3, 0)] (q := 84) (ls' := [(2, r), (0, a), (0, b), (0, 0), (0, 1)]) (st' := [(0, 0)]) (by decide +kernel) rfl ?_
            refine zwif_eq (q := 89) (nx := 87) (by decide +kernel) (fun c33 => ?_) (fun c33 => ?_)
            · refine zwW_p [(1, 4, 0)] (q := 91) (ls' := [(2, r), (0, a), (0, b), (0, 0), (0, 1)]) (st' := [(0, 1)]) (by decide +kernel) rfl ?_
              refine zwif_eq (q := 98) (nx := 94) (by decide +kernel) (fun c34 => ?_) (fun c34 => ?_)
              · exfalso; omega
              · refine zwW_p [(0, 1, 0), (24, 99, 0)] (q := 99) (ls' := [(2, r), (0, a), (0, b), (0, 0), (0, 1)]) (st' := [(0, 1)]) (by decide +kernel) rfl ?_
                refine zwW_ret (nx := 100) (a := 0) (b := 0) (by decide +kernel) rfl (Or.inl rfl) ?_
                exact ⟨rfl, by omega, by unfold yCho; (repeat' (first | rw [if_pos (by omega)] | rw [if_neg (by omega)])); all_goals (first | rfl | omega)⟩
            · exfalso; omega
          · exfalso; omega
    · refine zwW_p [(0, 1, 0), (24, 25, 0), (2, 3, 0), (1, 0, 2)] (q := 27) (ls' := [(2, r), (0, a), (0, b), (0, 1), (9, 0)]) (st' := [(2, r)]) (by decide +kernel) rfl ?_
      refine zwX_gi C (kd := 11) (bn := 7) (n := 17) (nx := 30) (by decide +kernel) G_r.2.1 G_r.1 rfl ?_
      intro v35 ev35 lv35 uv35
      have sv35 : v35 = (yC h) 69 k := Eq.trans ev35 (Eq.trans (congrArg (fun q => fld h q 7) P_r.1) (Eq.trans (Eq.symm (yC_f (h := h) (a := 69) (A := 2) (j := 7) (i := k) rfl P_r.2)) (Eq.trans (congrFun (congrFun (rfl : yC h = yC h) 69) k) rfl)))
      refine zwif_le (q := 47) (nx := 33) (by decide +kernel) (fun c36 => ?_) (fun c36 => ?_)
      · refine zwW_p [(0, 0, 0), (2, 4, 0), (1, 3, 0)] (q := 51) (ls' := [(2, r), (0, a), (0, b), (0, 1), (0, 0)]) (st' := [(0, 1)]) (by decide +kernel) rfl ?_
        refine zwif_eq (q := 83) (nx := 54) (by decide +kernel) (fun c37 => ?_) (fun c37 => ?_)
        · exfalso; omega
        · refine zwW_p [(1, 4, 0)] (q := 56) (ls' := [(2, r), (0, a), (0, b), (0, 1), (0, 0)]) (st' := [(0, 0)]) (by decide +kernel) rfl ?_
          refine zwif_eq (q := 83) (nx := 59) (by decide +kernel) (fun c38 => ?_) (fun c38 => ?_)
          · refine zwW_p [(1, 3, 0)] (q := 84) (ls' := [(2, r), (0, a), (0, b), (0, 1), (0, 0)]) (st' := [(0, 1)]) (by decide +kernel) rfl ?_
            refine zwif_eq (q := 89) (nx := 87) (by decide +kernel) (fun c39 => ?_) (fun c39 => ?_)
            · exfalso; omega
            · refine zwW_p [(0, 0, 0)] (q := 88) (ls' := [(2, r), (0, a), (0, b), (0, 1), (0, 0)]) (st' := [(0, 0)]) (by decide +kernel) rfl ?_
              refine zwW_ret (nx := 89) (a := 0) (b := 0) (by decide +kernel) rfl (Or.inl rfl) ?_
              exact ⟨rfl, by omega, by unfold yCho; (repeat' (first | rw [if_pos (by omega)] | rw [if_neg (by omega)])); all_goals (first | rfl | omega)⟩
          · exfalso; omega
      · refine zwW_p [(1, 1, 0), (1, 0, 2)] (q := 35) (ls' := [(2, r), (0, a), (0, b), (0, 1), (9, 0)]) (st' := [(2, r), (0, a)]) (by decide +kernel) rfl ?_
        refine zwX_gi C (kd := 11) (bn := 9) (n := 17) (nx := 38) (by decide +kernel) G_r.2.1 G_r.1 rfl ?_
        intro v40 ev40 lv40 uv40
        have sv40 : v40 = (yC h) 71 k := Eq.trans ev40 (Eq.trans (congrArg (fun q => fld h q 9) P_r.1) (Eq.trans (Eq.symm (yC_f (h := h) (a := 71) (A := 2) (j := 9) (i := k) rfl P_r.2)) (Eq.trans (congrFun (congrFun (rfl : yC h = yC h) 71) k) rfl)))
        refine zwW_p [(1, 2, 0)] (q := 39) (ls' := [(2, r), (0, a), (0, b), (0, 1), (9, 0)]) (st' := [(0, b), (0, v40), (0, a)]) (by decide +kernel) rfl ?_
        refine zwW_adw (nx := 40) (by decide +kernel) ?_
        intro v41 ev41 lv41 uv41
        have Ev41 : v41 = w32 (((yC h) 71 k) + b) := by rw [ev41, sv40]
        refine zwic_lt (q := 47) (nx := 43) (by decide +kernel) (fun c42 => ?_) (fun c42 => ?_)
        · refine zwW_p [(0, 0, 0), (2, 4, 0), (1, 3, 0)] (q := 51) (ls' := [(2, r), (0, a), (0, b), (0, 1), (0, 0)]) (st' := [(0, 1)]) (by decide +kernel) rfl ?_
          refine zwif_eq (q := 83) (nx := 54) (by decide +kernel) (fun c43 => ?_) (fun c43 => ?_)
          · exfalso; omega
          · refine zwW_p [(1, 4, 0)] (q := 56) (ls' := [(2, r), (0, a), (0, b), (0, 1), (0, 0)]) (st' := [(0, 0)]) (by decide +kernel) rfl ?_
            refine zwif_eq (q := 83) (nx := 59) (by decide +kernel) (fun c44 => ?_) (fun c44 => ?_)
            · refine zwW_p [(1, 3, 0)] (q := 84) (ls' := [(2, r), (0, a), (0, b), (0, 1), (0, 0)]) (st' := [(0, 1)]) (by decide +kernel) rfl ?_
              refine zwif_eq (q := 89) (nx := 87) (by decide +kernel) (fun c45 => ?_) (fun c45 => ?_)
              · exfalso; omega
              · refine zwW_p [(0, 0, 0)] (q := 88) (ls' := [(2, r), (0, a), (0, b), (0, 1), (0, 0)]) (st' := [(0, 0)]) (by decide +kernel) rfl ?_
                refine zwW_ret (nx := 89) (a := 0) (b := 0) (by decide +kernel) rfl (Or.inl rfl) ?_
                exact ⟨rfl, by omega, by unfold yCho; (repeat' (first | rw [if_pos (by omega)] | rw [if_neg (by omega)])); all_goals (first | rfl | omega)⟩
            · exfalso; omega
        · refine zwW_p [(0, 1, 0), (24, 48, 0), (2, 4, 0), (1, 3, 0)] (q := 51) (ls' := [(2, r), (0, a), (0, b), (0, 1), (0, 1)]) (st' := [(0, 1)]) (by decide +kernel) rfl ?_
          refine zwif_eq (q := 83) (nx := 54) (by decide +kernel) (fun c46 => ?_) (fun c46 => ?_)
          · exfalso; omega
          · refine zwW_p [(1, 4, 0)] (q := 56) (ls' := [(2, r), (0, a), (0, b), (0, 1), (0, 1)]) (st' := [(0, 1)]) (by decide +kernel) rfl ?_
            refine zwif_eq (q := 83) (nx := 59) (by decide +kernel) (fun c47 => ?_) (fun c47 => ?_)
            · exfalso; omega
            · refine zwW_p [(1, 0, 2)] (q := 60) (ls' := [(2, r), (0, a), (0, b), (0, 1), (0, 1)]) (st' := [(2, r)]) (by decide +kernel) rfl ?_
              refine zwX_gi C (kd := 11) (bn := 8) (n := 17) (nx := 63) (by decide +kernel) G_r.2.1 G_r.1 rfl ?_
              intro v48 ev48 lv48 uv48
              have sv48 : v48 = (yC h) 70 k := Eq.trans ev48 (Eq.trans (congrArg (fun q => fld h q 8) P_r.1) (Eq.trans (Eq.symm (yC_f (h := h) (a := 70) (A := 2) (j := 8) (i := k) rfl P_r.2)) (Eq.trans (congrFun (congrFun (rfl : yC h = yC h) 70) k) rfl)))
              refine zwW_p [(1, 0, 2)] (q := 64) (ls' := [(2, r), (0, a), (0, b), (0, 1), (0, 1)]) (st' := [(2, r), (0, v48)]) (by decide +kernel) rfl ?_
              refine zwX_gi C (kd := 11) (bn := 9) (n := 17) (nx := 67) (by decide +kernel) G_r.2.1 G_r.1 rfl ?_
              intro v49 ev49 lv49 uv49
              have sv49 : v49 = (yC h) 71 k := Eq.trans ev49 (Eq.trans (congrArg (fun q => fld h q 9) P_r.1) (Eq.trans (Eq.symm (yC_f (h := h) (a := 71) (A := 2) (j := 9) (i := k) rfl P_r.2)) (Eq.trans (congrFun (congrFun (rfl : yC h = yC h) 71) k) rfl)))
              refine zwW_p [(1, 2, 0)] (q := 68) (ls' := [(2, r), (0, a), (0, b), (0, 1), (0, 1)]) (st' := [(0, b), (0, v49), (0, v48)]) (by decide +kernel) rfl ?_
              refine zwW_adw (nx := 69) (by decide +kernel) ?_
              intro v50 ev50 lv50 uv50
              have Ev50 : v50 = w32 (((yC h) 71 k) + b) := by rw [ev50, sv49]
              refine zwW_p [(1, 0, 2)] (q := 70) (ls' := [(2, r), (0, a), (0, b), (0, 1), (0, 1)]) (st' := [(2, r), (0, v50), (0, v48)]) (by decide +kernel) rfl ?_
              refine zwX_gi C (kd := 11) (bn := 4) (n := 17) (nx := 73) (by decide +kernel) G_r.2.1 G_r.1 rfl ?_
              intro v51 ev51 lv51 uv51
              have sv51 : v51 = (yC h) 72 k := Eq.trans ev51 (Eq.trans (congrArg (fun q => fld h q 4) P_r.1) (Eq.trans (Eq.symm (yC_f (h := h) (a := 72) (A := 2) (j := 4) (i := k) rfl P_r.2)) (Eq.trans (congrFun (congrFun (rfl : yC h = yC h) 72) k) rfl)))
              refine zwW_adw (nx := 74) (by decide +kernel) ?_
              intro v52 ev52 lv52 uv52
              have Ev52 : v52 = w32 ((w32 (((yC h) 71 k) + b)) + ((yC h) 72 k)) := by rw [ev52, Ev50, sv51]
              refine zwic_gt (q := 81) (nx := 77) (by decide +kernel) (fun c53 => ?_) (fun c53 => ?_)
              · refine zwW_p [(0, 1, 0)] (q := 82) (ls' := [(2, r), (0, a), (0, b), (0, 1), (0, 1)]) (st' := [(0, 1)]) (by decide +kernel) rfl ?_
                refine zwW_ret (nx := 83) (a := 0) (b := 0) (by decide +kernel) rfl (Or.inl rfl) ?_
                exact ⟨rfl, by omega, by unfold yCho; (repeat' (first | rw [if_pos (by omega)] | rw [if_neg (by omega)])); all_goals (first | rfl | omega)⟩
              · refine zwW_p [(0, 0, 0), (24, 82, 0)] (q := 82) (ls' := [(2, r), (0, a), (0, b), (0, 1), (0, 1)]) (st' := [(0, 0)]) (by decide +kernel) rfl ?_
                refine zwW_ret (nx := 83) (a := 0) (b := 0) (by decide +kernel) rfl (Or.inl rfl) ?_
                exact ⟨rfl, by omega, by unfold yCho; (repeat' (first | rw [if_pos (by omega)] | rw [if_neg (by omega)])); all_goals (first | rfl | omega)⟩
def msx258_z : Zms := [(1011, 1011, 5, 6), (1011, 1011, 6, 7), (1011, 1011, 10, 11), (1011, 1011, 13, 14)]
-- WheelLand$Village.sellHand()V
theorem x258_z {sc : List Int} (h : Hp) (C : CI h) (r : Int) (G_r : gV h r) (J : yR h) (k : Nat) (P_r : r = zv h 2 k ∧ (k : Int) < fld h 2 2) : zwC sc 1 258 [(2, r)] h (zwRv (fun g => CI g ∧ zXR msx258_z (0) (0) h g ∧ (yC g = ySlH (yC h) k) ∧ (yR g))) := by
  refine zwC_of (D := 0) 1 (by decide +kernel) rfl (ls := [(2, r)]) rfl ?_
  have lw_r := G_r.1
  have X : zXR msx258_z 0 0 h h := zXR.rf _ _
  have u0 : yC h 37 0 = fld h 1 0 := rfl
  have u1 : yC h 37 1 = fld h 2 2 := rfl
  have u2 : yC h 37 2 = fld h 3 2 := rfl
  have u64 : yC h 37 64 = fld h 4 2 := rfl
  have u78 : yC h 37 78 = fld h 5 2 := rfl
  refine zwW_p [(1, 0, 2)] (q := 1) (ls' := [(2, r)]) (st' := [(2, r)]) (by decide +kernel) rfl ?_
  refine zwX_gi C (kd := 11) (bn := 5) (n := 17) (nx := 4) (by decide +kernel) G_r.2.1 G_r.1 rfl ?_
  intro v1 ev1 lv1 uv1
  have sv1 : v1 = (yC h) 67 k := Eq.trans ev1 (Eq.trans (congrArg (fun q => fld h q 5) P_r.1) (Eq.trans (Eq.symm (yC_f (h := h) (a := 67) (A := 2) (j := 5) (i := k) rfl P_r.2)) (Eq.trans (congrFun (congrFun (rfl : yC h = yC h) 67) k) rfl)))
  refine zwif_le (q := 30) (nx := 7) (by decide +kernel) (fun c2 => ?_) (fun c2 => ?_)
  · refine zwW_p [(1, 0, 2), (12, 0, 0)] (q := 32) (ls' := [(2, r)]) (st' := [(2, r), (2, r)]) (by decide +kernel) rfl ?_
    refine zwX_gi C (kd := 11) (bn := 6) (n := 17) (nx := 35) (by decide +kernel) G_r.2.1 G_r.1 rfl ?_
    intro v3 ev3 lv3 uv3
    have sv3 : v3 = (yC h) 68 k := Eq.trans ev3 (Eq.trans (congrArg (fun q => fld h q 6) P_r.1) (Eq.trans (Eq.symm (yC_f (h := h) (a := 68) (A := 2) (j := 6) (i := k) rfl P_r.2)) (Eq.trans (congrFun (congrFun (rfl : yC h = yC h) 68) k) rfl)))
    refine zwW_p [(0, 1, 0)] (q := 36) (ls' := [(2, r)]) (st' := [(0, 1), (0, v3), (2, r)]) (by decide +kernel) rfl ?_
    refine zwW_sbw (nx := 37) (by decide +kernel) ?_
    intro v4 ev4 lv4 uv4
    have Ev4 : v4 = w32 (((yC h) 68 k) - 1) := by rw [ev4, sv3]
    refine zwX_pi C (kd := 11) (bn := 6) (n := 17) (nx := 40) (by decide +kernel) G_r.2.1 G_r.1 (by first | omega | exact ⟨by omega, by omega⟩) ?_
    rintro h5 eh5 Ch5 Qh5
    have Zh5 : yC h5 = (zs (yC h) 68 k (w32 (((yC h) 68 k) - 1))) := by rw [yC_w (a := 68) (A := 2) (j := 6) (k := k) C J rfl P_r eh5, Ev4]
    have Xh5 : zXR msx258_z (0) (0) h h5 := X.tr (c2 := 0) (s2 := 0) Qh5 (by decide +kernel) (by decide) (by decide)
    have Gh5_0 : gV h5 r := G_r.x Qh5
    have Jh5 : yR h5 := J.fr C Qh5 (by decide +kernel)
    have pr_h5 : r = zv h5 2 k ∧ ((k : Nat) : Int) < fld h5 2 2 := zpv C Qh5 (A := 2) (by decide) (by decide +kernel) P_r
    refine zwW_p [(1, 0, 2), (12, 0, 0)] (q := 42) (ls' := [(2, r)]) (st' := [(2, r), (2, r)]) (by decide +kernel) rfl ?_
    refine zwX_gi Ch5 (kd := 11) (bn := 10) (n := 17) (nx := 45) (by decide +kernel) Gh5_0.2.1 Gh5_0.1 rfl ?_
    intro v6 ev6 lv6 uv6
    have sv6 : v6 = (yC h) 73 k := Eq.trans ev6 (Eq.trans (congrArg (fun q => fld h5 q 10) pr_h5.1) (Eq.trans (Eq.symm (yC_f (h := h5) (a := 73) (A := 2) (j := 10) (i := k) rfl pr_h5.2)) (Eq.trans (congrFun (congrFun Zh5 73) k) (Eq.trans (zs_na (by decide) : (zs (yC h) 68 k (w32 (((yC h) 68 k) - 1))) 73 k = (yC h) 73 k) rfl))))
    refine zwW_p [(1, 0, 2)] (q := 46) (ls' := [(2, r)]) (st' := [(2, r), (0, v6), (2, r)]) (by decide +kernel) rfl ?_
    refine zwX_gi Ch5 (kd := 11) (bn := 8) (n := 17) (nx := 49) (by decide +kernel) Gh5_0.2.1 Gh5_0.1 rfl ?_
    intro v7 ev7 lv7 uv7
    have sv7 : v7 = (yC h) 70 k := Eq.trans ev7 (Eq.trans (congrArg (fun q => fld h5 q 8) pr_h5.1) (Eq.trans (Eq.symm (yC_f (h := h5) (a := 70) (A := 2) (j := 8) (i := k) rfl pr_h5.2)) (Eq.trans (congrFun (congrFun Zh5 70) k) (Eq.trans (zs_na (by decide) : (zs (yC h) 68 k (w32 (((yC h) 68 k) - 1))) 70 k = (yC h) 70 k) rfl))))
    refine zwW_adw (nx := 50) (by decide +kernel) ?_
    intro v8 ev8 lv8 uv8
    have Ev8 : v8 = w32 (((yC h) 73 k) + ((yC h) 70 k)) := by rw [ev8, sv6, sv7]
    refine zwX_pi Ch5 (kd := 11) (bn := 10) (n := 17) (nx := 53) (by decide +kernel) Gh5_0.2.1 Gh5_0.1 (by first | omega | exact ⟨by omega, by omega⟩) ?_
    rintro h9 eh9 Ch9 Qh9
    have Zh9 : yC h9 = (zs (zs (yC h) 68 k (w32 (((yC h) 68 k) - 1))) 73 k (w32 (((yC h) 73 k) + ((yC h) 70 k)))) := by rw [yC_w (a := 73) (A := 2) (j := 10) (k := k) Ch5 Jh5 rfl pr_h5 eh9, Zh5, Ev8]
    have Xh9 : zXR msx258_z (0) (0) h h9 := Xh5.tr (c2 := 0) (s2 := 0) Qh9 (by decide +kernel) (by decide) (by decide)
    have Gh9_0 : gV h9 r := Gh5_0.x Qh9
    have Jh9 : yR h9 := Jh5.fr Ch5 Qh9 (by decide +kernel)
    have pr_h9 : r = zv h9 2 k ∧ ((k : Nat) : Int) < fld h9 2 2 := zpv Ch5 Qh9 (A := 2) (by decide) (by decide +kernel) pr_h5
    refine zwW_retv (nx := 54) (a := 0) (b := 0) (by decide +kernel) ?_
    exact ⟨Ch9, Xh9.le (by decide) (by decide), by refine Eq.trans Zh9 ?_; unfold ySlH; (repeat' (first | rw [if_pos (by omega)] | rw [if_neg (by omega)])); all_goals (repeat' (first | rfl | apply zs_cg | omega)), by exact Jh9⟩
  · refine zwW_p [(1, 0, 2), (12, 0, 0)] (q := 9) (ls' := [(2, r)]) (st' := [(2, r), (2, r)]) (by decide +kernel) rfl ?_
    refine zwX_gi C (kd := 11) (bn := 5) (n := 17) (nx := 12) (by decide +kernel) G_r.2.1 G_r.1 rfl ?_
    intro v10 ev10 lv10 uv10
    have sv10 : v10 = (yC h) 67 k := Eq.trans ev10 (Eq.trans (congrArg (fun q => fld h q 5) P_r.1) (Eq.trans (Eq.symm (yC_f (h := h) (a := 67) (A := 2) (j := 5) (i := k) rfl P_r.2)) (Eq.trans (congrFun (congrFun (rfl : yC h = yC h) 67) k) rfl)))
    refine zwW_p [(0, 1, 0)] (q := 13) (ls' := [(2, r)]) (st' := [(0, 1), (0, v10), (2, r)]) (by decide +kernel) rfl ?_
    refine zwW_sbw (nx := 14) (by decide +kernel) ?_
    intro v11 ev11 lv11 uv11
    have Ev11 : v11 = w32 (((yC h) 67 k) - 1) := by rw [ev11, sv10]
    refine zwX_pi C (kd := 11) (bn := 5) (n := 17) (nx := 17) (by decide +kernel) G_r.2.1 G_r.1 (by first | omega | exact ⟨by omega, by omega⟩) ?_
    rintro h12 eh12 Ch12 Qh12
    have Zh12 : yC h12 = (zs (yC h) 67 k (w32 (((yC h) 67 k) - 1))) := by rw [yC_w (a := 67) (A := 2) (j := 5) (k := k) C J rfl P_r eh12, Ev11]
    have Xh12 : zXR msx258_z (0) (0) h h12 := X.tr (c2 := 0) (s2 := 0) Qh12 (by decide +kernel) (by decide) (by decide)
    have Gh12_0 : gV h12 r := G_r.x Qh12
    have Jh12 : yR h12 := J.fr C Qh12 (by decide +kernel)
    have pr_h12 : r = zv h12 2 k ∧ ((k : Nat) : Int) < fld h12 2 2 := zpv C Qh12 (A := 2) (by decide) (by decide +kernel) P_r
    refine zwW_p [(1, 0, 2), (12, 0, 0)] (q := 19) (ls' := [(2, r)]) (st' := [(2, r), (2, r)]) (by decide +kernel) rfl ?_
    refine zwX_gi Ch12 (kd := 11) (bn := 13) (n := 17) (nx := 22) (by decide +kernel) Gh12_0.2.1 Gh12_0.1 rfl ?_
    intro v13 ev13 lv13 uv13
    have sv13 : v13 = (yC h) 76 k := Eq.trans ev13 (Eq.trans (congrArg (fun q => fld h12 q 13) pr_h12.1) (Eq.trans (Eq.symm (yC_f (h := h12) (a := 76) (A := 2) (j := 13) (i := k) rfl pr_h12.2)) (Eq.trans (congrFun (congrFun Zh12 76) k) (Eq.trans (zs_na (by decide) : (zs (yC h) 67 k (w32 (((yC h) 67 k) - 1))) 76 k = (yC h) 76 k) rfl))))
    refine zwW_p [(0, 1, 0)] (q := 23) (ls' := [(2, r)]) (st' := [(0, 1), (0, v13), (2, r)]) (by decide +kernel) rfl ?_
    refine zwW_adw (nx := 24) (by decide +kernel) ?_
    intro v14 ev14 lv14 uv14
    have Ev14 : v14 = w32 (((yC h) 76 k) + 1) := by rw [ev14, sv13]
    refine zwX_pi Ch12 (kd := 11) (bn := 13) (n := 17) (nx := 27) (by decide +kernel) Gh12_0.2.1 Gh12_0.1 (by first | omega | exact ⟨by omega, by omega⟩) ?_
    rintro h15 eh15 Ch15 Qh15
    have Zh15 : yC h15 = (zs (zs (yC h) 67 k (w32 (((yC h) 67 k) - 1))) 76 k (w32 (((yC h) 76 k) + 1))) := by rw [yC_w (a := 76) (A := 2) (j := 13) (k := k) Ch12 Jh12 rfl pr_h12 eh15, Zh12, Ev14]
    have Xh15 : zXR msx258_z (0) (0) h h15 := Xh12.tr (c2 := 0) (s2 := 0) Qh15 (by decide +kernel) (by decide) (by decide)
    have Gh15_0 : gV h15 r := Gh12_0.x Qh15
    have Jh15 : yR h15 := Jh12.fr Ch12 Qh15 (by decide +kernel)
    have pr_h15 : r = zv h15 2 k ∧ ((k : Nat) : Int) < fld h15 2 2 := zpv Ch12 Qh15 (A := 2) (by decide) (by decide +kernel) pr_h12
    refine zwW_p [(24, 40, 0), (1, 0, 2), (12, 0, 0)] (q := 42) (ls' := [(2, r)]) (st' := [(2, r), (2, r)]) (by decide +kernel) rfl ?_
    refine zwX_gi Ch15 (kd := 11) (bn := 10) (n := 17) (nx := 45) (by decide +kernel) Gh15_0.2.1 Gh15_0.1 rfl ?_
    intro v16 ev16 lv16 uv16
    have sv16 : v16 = (yC h) 73 k := Eq.trans ev16 (Eq.trans (congrArg (fun q => fld h15 q 10) pr_h15.1) (Eq.trans (Eq.symm (yC_f (h := h15) (a := 73) (A := 2) (j := 10) (i := k) rfl pr_h15.2)) (Eq.trans (congrFun (congrFun Zh15 73) k) (Eq.trans (zs_na (by decide) : (zs (zs (yC h) 67 k (w32 (((yC h) 67 k) - 1))) 76 k (w32 (((yC h) 76 k) + 1))) 73 k = (zs (yC h) 67 k (w32 (((yC h) 67 k) - 1))) 73 k) (Eq.trans (zs_na (by decide) : (zs (yC h) 67 k (w32 (((yC h) 67 k) - 1))) 73 k = (yC h) 73 k) rfl)))))
    refine zwW_p [(1, 0, 2)] (q := 46) (ls' := [(2, r)]) (st' := [(2, r), (0, v16), (2, r)]) (by decide +kernel) rfl ?_
    refine zwX_gi Ch15 (kd := 11) (bn := 8) (n := 17) (nx := 49) (by decide +kernel) Gh15_0.2.1 Gh15_0.1 rfl ?_
    intro v17 ev17 lv17 uv17
    have sv17 : v17 = (yC h) 70 k := Eq.trans ev17 (Eq.trans (congrArg (fun q => fld h15 q 8) pr_h15.1) (Eq.trans (Eq.symm (yC_f (h := h15) (a := 70) (A := 2) (j := 8) (i := k) rfl pr_h15.2)) (Eq.trans (congrFun (congrFun Zh15 70) k) (Eq.trans (zs_na (by decide) : (zs (zs (yC h) 67 k (w32 (((yC h) 67 k) - 1))) 76 k (w32 (((yC h) 76 k) + 1))) 70 k = (zs (yC h) 67 k (w32 (((yC h) 67 k) - 1))) 70 k) (Eq.trans (zs_na (by decide) : (zs (yC h) 67 k (w32 (((yC h) 67 k) - 1))) 70 k = (yC h) 70 k) rfl)))))
    refine zwW_adw (nx := 50) (by decide +kernel) ?_
    intro v18 ev18 lv18 uv18
    have Ev18 : v18 = w32 (((yC h) 73 k) + ((yC h) 70 k)) := by rw [ev18, sv16, sv17]
    refine zwX_pi Ch15 (kd := 11) (bn := 10) (n := 17) (nx := 53) (by decide +kernel) Gh15_0.2.1 Gh15_0.1 (by first | omega | exact ⟨by omega, by omega⟩) ?_
    rintro h19 eh19 Ch19 Qh19
    have Uh19 : yC h19 = (zs (zs (zs (yC h) 67 k (w32 (((yC h) 67 k) - 1))) 76 k (w32 (((yC h) 76 k) + 1))) 73 k (w32 (((yC h) 73 k) + ((yC h) 70 k)))) := by rw [yC_w (a := 73) (A := 2) (j := 10) (k := k) Ch15 Jh15 rfl pr_h15 eh19, Zh15, Ev18]
    have Zh19 : yC h19 = (zs (zs (zs (yC h) 67 k (w32 (((yC h) 67 k) - 1))) 73 k (w32 (((yC h) 73 k) + ((yC h) 70 k)))) 76 k (w32 (((yC h) 76 k) + 1))) := by rw [Uh19, zs_sw (a := 76) (b := 73) (by decide)]
    have Xh19 : zXR msx258_z (0) (0) h h19 := Xh15.tr (c2 := 0) (s2 := 0) Qh19 (by decide +kernel) (by decide) (by decide)
    have Gh19_0 : gV h19 r := Gh15_0.x Qh19
    have Jh19 : yR h19 := Jh15.fr Ch15 Qh19 (by decide +kernel)
    have pr_h19 : r = zv h19 2 k ∧ ((k : Nat) : Int) < fld h19 2 2 := zpv Ch15 Qh19 (A := 2) (by decide) (by decide +kernel) pr_h15
    refine zwW_retv (nx := 54) (a := 0) (b := 0) (by decide +kernel) ?_
    exact ⟨Ch19, Xh19.le (by decide) (by decide), by refine Eq.trans Zh19 ?_; unfold ySlH; (repeat' (first | rw [if_pos (by omega)] | rw [if_neg (by omega)])); all_goals (repeat' (first | rfl | apply zs_cg | omega)), by exact Jh19⟩
def msx259_z : Zms := [(1011, 1011, 7, 8), (1011, 1011, 10, 11), (1011, 1011, 14, 15)]
-- WheelLand$Village.sellMill()V
theorem x259_z {sc : List Int} (h : Hp) (C : CI h) (r : Int) (G_r : gV h r) (J : yR h) (k : Nat) (P_r : r = zv h 2 k ∧ (k : Int) < fld h 2 2) : zwC sc 1 259 [(2, r)] h (zwRv (fun g => CI g ∧ zXR msx259_z (0) (0) h g ∧ (yC g = ySlM (yC h) k) ∧ (yR g))) := by
  refine zwC_of (D := 0) 1 (by decide +kernel) rfl (ls := [(2, r)]) rfl ?_
  have lw_r := G_r.1
  have X : zXR msx259_z 0 0 h h := zXR.rf _ _
  have u0 : yC h 37 0 = fld h 1 0 := rfl
  have u1 : yC h 37 1 = fld h 2 2 := rfl
  have u2 : yC h 37 2 = fld h 3 2 := rfl
  have u64 : yC h 37 64 = fld h 4 2 := rfl
  have u78 : yC h 37 78 = fld h 5 2 := rfl
  refine zwW_p [(1, 0, 2), (12, 0, 0)] (q := 2) (ls' := [(2, r)]) (st' := [(2, r), (2, r)]) (by decide +kernel) rfl ?_
  refine zwX_gi C (kd := 11) (bn := 7) (n := 17) (nx := 5) (by decide +kernel) G_r.2.1 G_r.1 rfl ?_
  intro v1 ev1 lv1 uv1
  have sv1 : v1 = (yC h) 69 k := Eq.trans ev1 (Eq.trans (congrArg (fun q => fld h q 7) P_r.1) (Eq.trans (Eq.symm (yC_f (h := h) (a := 69) (A := 2) (j := 7) (i := k) rfl P_r.2)) (Eq.trans (congrFun (congrFun (rfl : yC h = yC h) 69) k) rfl)))
  refine zwW_p [(0, 1, 0)] (q := 6) (ls' := [(2, r)]) (st' := [(0, 1), (0, v1), (2, r)]) (by decide +kernel) rfl ?_
  refine zwW_sbw (nx := 7) (by decide +kernel) ?_
  intro v2 ev2 lv2 uv2
  have Ev2 : v2 = w32 (((yC h) 69 k) - 1) := by rw [ev2, sv1]
  refine zwX_pi C (kd := 11) (bn := 7) (n := 17) (nx := 10) (by decide +kernel) G_r.2.1 G_r.1 (by first | omega | exact ⟨by omega, by omega⟩) ?_
  rintro h3 eh3 Ch3 Qh3
  have Zh3 : yC h3 = (zs (yC h) 69 k (w32 (((yC h) 69 k) - 1))) := by rw [yC_w (a := 69) (A := 2) (j := 7) (k := k) C J rfl P_r eh3, Ev2]
  have Xh3 : zXR msx259_z (0) (0) h h3 := X.tr (c2 := 0) (s2 := 0) Qh3 (by decide +kernel) (by decide) (by decide)
  have Gh3_0 : gV h3 r := G_r.x Qh3
  have Jh3 : yR h3 := J.fr C Qh3 (by decide +kernel)
  have pr_h3 : r = zv h3 2 k ∧ ((k : Nat) : Int) < fld h3 2 2 := zpv C Qh3 (A := 2) (by decide) (by decide +kernel) P_r
  refine zwW_p [(1, 0, 2), (12, 0, 0)] (q := 12) (ls' := [(2, r)]) (st' := [(2, r), (2, r)]) (by decide +kernel) rfl ?_
  refine zwX_gi Ch3 (kd := 11) (bn := 14) (n := 17) (nx := 15) (by decide +kernel) Gh3_0.2.1 Gh3_0.1 rfl ?_
  intro v4 ev4 lv4 uv4
  have sv4 : v4 = (yC h) 77 k := Eq.trans ev4 (Eq.trans (congrArg (fun q => fld h3 q 14) pr_h3.1) (Eq.trans (Eq.symm (yC_f (h := h3) (a := 77) (A := 2) (j := 14) (i := k) rfl pr_h3.2)) (Eq.trans (congrFun (congrFun Zh3 77) k) (Eq.trans (zs_na (by decide) : (zs (yC h) 69 k (w32 (((yC h) 69 k) - 1))) 77 k = (yC h) 77 k) rfl))))
  refine zwW_p [(0, 1, 0)] (q := 16) (ls' := [(2, r)]) (st' := [(0, 1), (0, v4), (2, r)]) (by decide +kernel) rfl ?_
  refine zwW_adw (nx := 17) (by decide +kernel) ?_
  intro v5 ev5 lv5 uv5
  have Ev5 : v5 = w32 (((yC h) 77 k) + 1) := by rw [ev5, sv4]
  refine zwX_pi Ch3 (kd := 11) (bn := 14) (n := 17) (nx := 20) (by decide +kernel) Gh3_0.2.1 Gh3_0.1 (by first | omega | exact ⟨by omega, by omega⟩) ?_
  rintro h6 eh6 Ch6 Qh6
  have Zh6 : yC h6 = (zs (zs (yC h) 69 k (w32 (((yC h) 69 k) - 1))) 77 k (w32 (((yC h) 77 k) + 1))) := by rw [yC_w (a := 77) (A := 2) (j := 14) (k := k) Ch3 Jh3 rfl pr_h3 eh6, Zh3, Ev5]
  have Xh6 : zXR msx259_z (0) (0) h h6 := Xh3.tr (c2 := 0) (s2 := 0) Qh6 (by decide +kernel) (by decide) (by decide)
  have Gh6_0 : gV h6 r := Gh3_0.x Qh6
  have Jh6 : yR h6 := Jh3.fr Ch3 Qh6 (by decide +kernel)
  have pr_h6 : r = zv h6 2 k ∧ ((k : Nat) : Int) < fld h6 2 2 := zpv Ch3 Qh6 (A := 2) (by decide) (by decide +kernel) pr_h3
  refine zwW_p [(1, 0, 2), (12, 0, 0)] (q := 22) (ls' := [(2, r)]) (st' := [(2, r), (2, r)]) (by decide +kernel) rfl ?_
  refine zwX_gi Ch6 (kd := 11) (bn := 10) (n := 17) (nx := 25) (by decide +kernel) Gh6_0.2.1 Gh6_0.1 rfl ?_
  intro v7 ev7 lv7 uv7
  have sv7 : v7 = (yC h) 73 k := Eq.trans ev7 (Eq.trans (congrArg (fun q => fld h6 q 10) pr_h6.1) (Eq.trans (Eq.symm (yC_f (h := h6) (a := 73) (A := 2) (j := 10) (i := k) rfl pr_h6.2)) (Eq.trans (congrFun (congrFun Zh6 73) k) (Eq.trans (zs_na (by decide) : (zs (zs (yC h) 69 k (w32 (((yC h) 69 k) - 1))) 77 k (w32 (((yC h) 77 k) + 1))) 73 k = (zs (yC h) 69 k (w32 (((yC h) 69 k) - 1))) 73 k) (Eq.trans (zs_na (by decide) : (zs (yC h) 69 k (w32 (((yC h) 69 k) - 1))) 73 k = (yC h) 73 k) rfl)))))
  refine zwW_p [(1, 0, 2)] (q := 26) (ls' := [(2, r)]) (st' := [(2, r), (0, v7), (2, r)]) (by decide +kernel) rfl ?_
  refine zwX_gi Ch6 (kd := 11) (bn := 9) (n := 17) (nx := 29) (by decide +kernel) Gh6_0.2.1 Gh6_0.1 rfl ?_
  intro v8 ev8 lv8 uv8
  have sv8 : v8 = (yC h) 71 k := Eq.trans ev8 (Eq.trans (congrArg (fun q => fld h6 q 9) pr_h6.1) (Eq.trans (Eq.symm (yC_f (h := h6) (a := 71) (A := 2) (j := 9) (i := k) rfl pr_h6.2)) (Eq.trans (congrFun (congrFun Zh6 71) k) (Eq.trans (zs_na (by decide) : (zs (zs (yC h) 69 k (w32 (((yC h) 69 k) - 1))) 77 k (w32 (((yC h) 77 k) + 1))) 71 k = (zs (yC h) 69 k (w32 (((yC h) 69 k) - 1))) 71 k) (Eq.trans (zs_na (by decide) : (zs (yC h) 69 k (w32 (((yC h) 69 k) - 1))) 71 k = (yC h) 71 k) rfl)))))
  refine zwW_adw (nx := 30) (by decide +kernel) ?_
  intro v9 ev9 lv9 uv9
  have Ev9 : v9 = w32 (((yC h) 73 k) + ((yC h) 71 k)) := by rw [ev9, sv7, sv8]
  refine zwX_pi Ch6 (kd := 11) (bn := 10) (n := 17) (nx := 33) (by decide +kernel) Gh6_0.2.1 Gh6_0.1 (by first | omega | exact ⟨by omega, by omega⟩) ?_
  rintro h10 eh10 Ch10 Qh10
  have Uh10 : yC h10 = (zs (zs (zs (yC h) 69 k (w32 (((yC h) 69 k) - 1))) 77 k (w32 (((yC h) 77 k) + 1))) 73 k (w32 (((yC h) 73 k) + ((yC h) 71 k)))) := by rw [yC_w (a := 73) (A := 2) (j := 10) (k := k) Ch6 Jh6 rfl pr_h6 eh10, Zh6, Ev9]
  have Zh10 : yC h10 = (zs (zs (zs (yC h) 69 k (w32 (((yC h) 69 k) - 1))) 73 k (w32 (((yC h) 73 k) + ((yC h) 71 k)))) 77 k (w32 (((yC h) 77 k) + 1))) := by rw [Uh10, zs_sw (a := 77) (b := 73) (by decide)]
  have Xh10 : zXR msx259_z (0) (0) h h10 := Xh6.tr (c2 := 0) (s2 := 0) Qh10 (by decide +kernel) (by decide) (by decide)
  have Gh10_0 : gV h10 r := Gh6_0.x Qh10
  have Jh10 : yR h10 := Jh6.fr Ch6 Qh10 (by decide +kernel)
  have pr_h10 : r = zv h10 2 k ∧ ((k : Nat) : Int) < fld h10 2 2 := zpv Ch6 Qh10 (A := 2) (by decide) (by decide +kernel) pr_h6
  refine zwW_retv (nx := 34) (a := 0) (b := 0) (by decide +kernel) ?_
  exact ⟨Ch10, Xh10.le (by decide) (by decide), by refine Eq.trans Zh10 ?_; unfold ySlM; (repeat' (first | rw [if_pos (by omega)] | rw [if_neg (by omega)])); all_goals (repeat' (first | rfl | apply zs_cg | omega)), by exact Jh10⟩
def msx232_z : Zms := [(1, 1, 1, 2), (1004, 1004, 6, 7), (1004, 1004, 8, 9), (1004, 1004, 9, 10), (1004, 1004, 10, 11), (1011, 1011, 5, 6), (1011, 1011, 6, 7), (1011, 1011, 7, 8), (1011, 1011, 10, 11), (1011, 1011, 13, 14), (1011, 1011, 14, 15)]
-- WheelLand.buyYard(LWheelLand$House;I)V
theorem x232_z {sc : List Int} (h : Hp) (C : CI h) (r a : Int) (G_r : gH h r) (q_a : -2147483648 ≤ a ∧ a ≤ 2147483647) (J : yR h) (k : Nat) (P_r : r = zv h 3 k ∧ (k : Int) < fld h 3 2) : zwC sc 2 232 [(2, 1), (2, r), (0, a)] h (zwRv (fun g => CI g ∧ zXR msx232_z (0) (0) h g ∧ (yC g = yByd (yC h) k a) ∧ (yR g))) := by
  refine zwC_of (D := 1) 5 (by decide +kernel) rfl (ls := [(2, 1), (2, r), (0, a), (9, 0), (9, 0)]) rfl ?_
  have lw_r := G_r.1
  have X : zXR msx232_z 0 0 h h := zXR.rf _ _
  have u0 : yC h 37 0 = fld h 1 0 := rfl
  have u1 : yC h 37 1 = fld h 2 2 := rfl
  have u2 : yC h 37 2 = fld h 3 2 := rfl
  have u64 : yC h 37 64 = fld h 4 2 := rfl
  have u78 : yC h 37 78 = fld h 5 2 := rfl
  refine zwW_p [(1, 1, 2)] (q := 1) (ls' := [(2, 1), (2, r), (0, a), (9, 0), (9, 0)]) (st' := [(2, r)]) (by decide +kernel) rfl ?_
  refine zwW_get (kd := 4) (bn := 1) (t := 2) (n := 19) (nx := 4) (by decide +kernel) G_r.2.1 rfl ?_
  obtain ⟨v1, ev1⟩ : ∃ z, z = fld h r 1 := ⟨_, rfl⟩
  rw [← ev1]
  have Gv1 : gV h v1 := by rw [ev1]; exact G_r.2.2
  have lv1 := Gv1.1
  have qv1 : yC h 79 k = (yC h) 79 k := Eq.trans (congrFun (congrFun (rfl : yC h = yC h) 79) k) rfl
  have wv1 := J.r (a := 79) (A := 3) (j := 1) (B := 2) (i := k) rfl P_r.2
  rw [qv1] at wv1
  have pv1 : v1 = zv h 2 (((yC h) 79 k).toNat) ∧ ((((yC h) 79 k).toNat : Nat) : Int) < fld h 2 2 := ⟨by rw [ev1, P_r.1]; exact wv1.2.2, wv1.2.1⟩
  refine zwW_p [(2, 3, 2), (1, 3, 2), (1, 1, 2)] (q := 7) (ls' := [(2, 1), (2, r), (0, a), (2, v1), (9, 0)]) (st' := [(2, r), (2, v1)]) (by decide +kernel) rfl ?_
  refine zwX_gi C (kd := 4) (bn := 6) (n := 19) (nx := 10) (by decide +kernel) G_r.2.1 G_r.1 rfl ?_
  intro v2 ev2 lv2 uv2
  have sv2 : v2 = (yC h) 84 k := Eq.trans ev2 (Eq.trans (congrArg (fun q => fld h q 6) P_r.1) (Eq.trans (Eq.symm (yC_f (h := h) (a := 84) (A := 3) (j := 6) (i := k) rfl P_r.2)) (Eq.trans (congrFun (congrFun (rfl : yC h = yC h) 84) k) rfl)))
  refine zwW_p [(1, 2, 0)] (q := 11) (ls' := [(2, 1), (2, r), (0, a), (2, v1), (9, 0)]) (st' := [(0, a), (0, v2), (2, v1)]) (by decide +kernel) rfl ?_
  refine zwW_cv (op := 60) (k' := 154) (n := 2) (kd := 11) (m := 17) (nx := 14) (r := v1) (tl := [(0, v2), (0, a)]) (st' := []) (by decide +kernel) rfl (by decide +kernel) Gv1.2.1 (x154_z h C v1 v2 a Gv1 (by omega) (by omega) J (((yC h) 79 k).toNat) pv1) rfl ?_
  rintro v3 _ ⟨rfl, f4, f5⟩
  have sv3 : v3 = yCho (yC h) (((yC h) 79 k).toNat) ((yC h) 84 k) a := by rw [f5, sv2]
  refine zwW_p [(2, 4, 0), (1, 4, 0)] (q := 18) (ls' := [(2, 1), (2, r), (0, a), (2, v1), (0, v3)]) (st' := [(0, v3)]) (by decide +kernel) rfl ?_
  refine zwif_ne (q := 51) (nx := 21) (by decide +kernel) (fun c6 => ?_) (fun c6 => ?_)
  · refine zwW_p [(1, 4, 0), (0, 1, 0)] (q := 54) (ls' := [(2, 1), (2, r), (0, a), (2, v1), (0, v3)]) (st' := [(0, 1), (0, v3)]) (by decide +kernel) rfl ?_
    refine zwic_ne (q := 99) (nx := 57) (by decide +kernel) (fun c7 => ?_) (fun c7 => ?_)
    · refine zwW_p [(1, 1, 2), (12, 0, 0)] (q := 101) (ls' := [(2, 1), (2, r), (0, a), (2, v1), (0, v3)]) (st' := [(2, r), (2, r)]) (by decide +kernel) rfl ?_
      refine zwX_gi C (kd := 4) (bn := 8) (n := 19) (nx := 104) (by decide +kernel) G_r.2.1 G_r.1 rfl ?_
      intro v8 ev8 lv8 uv8
      have sv8 : v8 = (yC h) 86 k := Eq.trans ev8 (Eq.trans (congrArg (fun q => fld h q 8) P_r.1) (Eq.trans (Eq.symm (yC_f (h := h) (a := 86) (A := 3) (j := 8) (i := k) rfl P_r.2)) (Eq.trans (congrFun (congrFun (rfl : yC h = yC h) 86) k) rfl)))
      refine zwW_p [(0, 1, 0)] (q := 105) (ls' := [(2, 1), (2, r), (0, a), (2, v1), (0, v3)]) (st' := [(0, 1), (0, v8), (2, r)]) (by decide +kernel) rfl ?_
      refine zwW_adw (nx := 106) (by decide +kernel) ?_
      intro v9 ev9 lv9 uv9
      have Ev9 : v9 = w32 (((yC h) 86 k) + 1) := by rw [ev9, sv8]
      refine zwX_pi C (kd := 4) (bn := 8) (n := 19) (nx := 109) (by decide +kernel) G_r.2.1 G_r.1 (by first | omega | exact ⟨by omega, by omega⟩) ?_
      rintro h10 eh10 Ch10 Qh10
      have Zh10 : yC h10 = (zs (yC h) 86 k (w32 (((yC h) 86 k) + 1))) := by rw [yC_w (a := 86) (A := 3) (j := 8) (k := k) C J rfl P_r eh10, Ev9]
      have Xh10 : zXR msx232_z (0) (0) h h10 := X.tr (c2 := 0) (s2 := 0) Qh10 (by decide +kernel) (by decide) (by decide)
      have Gh10_0 : gH h10 r := G_r.x Qh10
      have Gh10_1 : gV h10 v1 := Gv1.x Qh10
      have Jh10 : yR h10 := J.fr C Qh10 (by decide +kernel)
      have pr_h10 : r = zv h10 3 k ∧ ((k : Nat) : Int) < fld h10 3 2 := zpv C Qh10 (A := 3) (by decide) (by decide +kernel) P_r
      have pv1_h10 : v1 = zv h10 2 (((yC h) 79 k).toNat) ∧ ((((yC h) 79 k).toNat : Nat) : Int) < fld h10 2 2 := zpv C Qh10 (A := 2) (by decide) (by decide +kernel) pv1
      refine zwW_retv (nx := 110) (a := 0) (b := 0) (by decide +kernel) ?_
      exact ⟨Ch10, Xh10.le (by decide) (by decide), by refine Eq.trans Zh10 ?_; unfold yByd yBya; (repeat' (first | rw [if_pos (by omega)] | rw [if_neg (by omega)])); all_goals (try simp (disch := decide) only [ySlH_n, ySlM_n]); all_goals (repeat' (first | rfl | apply zs_cg | omega)), by exact Jh10⟩
    · refine zwW_p [(1, 3, 2)] (q := 58) (ls' := [(2, 1), (2, r), (0, a), (2, v1), (0, v3)]) (st' := [(2, v1)]) (by decide +kernel) rfl ?_
      refine zwW_cvv (op := 60) (k' := 259) (n := 0) (kd := 11) (m := 17) (nx := 61) (r := v1) (tl := []) (st' := []) (by decide +kernel) rfl (by decide +kernel) Gv1.2.1 (x259_z h C v1 Gv1 J (((yC h) 79 k).toNat) pv1) rfl ?_
      rintro h13 ⟨Ch13, Qh13, f11, f12⟩
      have Zh13 : yC h13 = (ySlM (yC h) (((yC h) 79 k).toNat)) := by rw [f11]
      have Xh13 : zXR msx232_z (0) (0) h h13 := X.tr (c2 := 0) (s2 := 0) Qh13 (by decide +kernel) (by decide) (by decide)
      have Gh13_0 : gH h13 r := G_r.x Qh13
      have Gh13_1 : gV h13 v1 := Gv1.x Qh13
      have pr_h13 : r = zv h13 3 k ∧ ((k : Nat) : Int) < fld h13 3 2 := zpv C Qh13 (A := 3) (by decide) (by decide +kernel) P_r
      have pv1_h13 : v1 = zv h13 2 (((yC h) 79 k).toNat) ∧ ((((yC h) 79 k).toNat : Nat) : Int) < fld h13 2 2 := zpv C Qh13 (A := 2) (by decide) (by decide +kernel) pv1
      refine zwW_p [(1, 1, 2), (12, 0, 0)] (q := 63) (ls' := [(2, 1), (2, r), (0, a), (2, v1), (0, v3)]) (st' := [(2, r), (2, r)]) (by decide +kernel) rfl ?_
      refine zwX_gi Ch13 (kd := 4) (bn := 10) (n := 19) (nx := 66) (by decide +kernel) Gh13_0.2.1 Gh13_0.1 rfl ?_
      intro v14 ev14 lv14 uv14
      have sv14 : v14 = (ySlM (yC h) (((yC h) 79 k).toNat)) 88 k := Eq.trans ev14 (Eq.trans (congrArg (fun q => fld h13 q 10) pr_h13.1) (Eq.trans (Eq.symm (yC_f (h := h13) (a := 88) (A := 3) (j := 10) (i := k) rfl pr_h13.2)) (Eq.trans (congrFun (congrFun Zh13 88) k) rfl)))
      refine zwW_p [(0, 1, 0)] (q := 67) (ls' := [(2, 1), (2, r), (0, a), (2, v1), (0, v3)]) (st' := [(0, 1), (0, v14), (2, r)]) (by decide +kernel) rfl ?_
      refine zwW_adw (nx := 68) (by decide +kernel) ?_
      intro v15 ev15 lv15 uv15
      have Ev15 : v15 = w32 (((ySlM (yC h) (((yC h) 79 k).toNat)) 88 k) + 1) := by rw [ev15, sv14]
      refine zwX_pi Ch13 (kd := 4) (bn := 10) (n := 19) (nx := 71) (by decide +kernel) Gh13_0.2.1 Gh13_0.1 (by first | omega | exact ⟨by omega, by omega⟩) ?_
      rintro h16 eh16 Ch16 Qh16
      have Zh16 : yC h16 = (zs (ySlM (yC h) (((yC h) 79 k).toNat)) 88 k (w32 (((ySlM (yC h) (((yC h) 79 k).toNat)) 88 k) + 1))) := by rw [yC_w (a := 88) (A := 3) (j := 10) (k := k) Ch13 f12 rfl pr_h13 eh16, Zh13, Ev15]
      have Xh16 : zXR msx232_z (0) (0) h h16 := Xh13.tr (c2 := 0) (s2 := 0) Qh16 (by decide +kernel) (by decide) (by decide)
      have Gh16_0 : gH h16 r := Gh13_0.x Qh16
      have Gh16_1 : gV h16 v1 := Gh13_1.x Qh16
      have Jh16 : yR h16 := f12.fr Ch13 Qh16 (by decide +kernel)
      have pr_h16 : r = zv h16 3 k ∧ ((k : Nat) : Int) < fld h16 3 2 := zpv Ch13 Qh16 (A := 3) (by decide) (by decide +kernel) pr_h13
      have pv1_h16 : v1 = zv h16 2 (((yC h) 79 k).toNat) ∧ ((((yC h) 79 k).toNat : Nat) : Int) < fld h16 2 2 := zpv Ch13 Qh16 (A := 2) (by decide) (by decide +kernel) pv1_h13
      refine zwW_p [(1, 1, 2), (12, 0, 0)] (q := 73) (ls' := [(2, 1), (2, r), (0, a), (2, v1), (0, v3)]) (st' := [(2, r), (2, r)]) (by decide +kernel) rfl ?_
      refine zwX_gi Ch16 (kd := 4) (bn := 6) (n := 19) (nx := 76) (by decide +kernel) Gh16_0.2.1 Gh16_0.1 rfl ?_
      intro v17 ev17 lv17 uv17
      have sv17 : v17 = (ySlM (yC h) (((yC h) 79 k).toNat)) 84 k := Eq.trans ev17 (Eq.trans (congrArg (fun q => fld h16 q 6) pr_h16.1) (Eq.trans (Eq.symm (yC_f (h := h16) (a := 84) (A := 3) (j := 6) (i := k) rfl pr_h16.2)) (Eq.trans (congrFun (congrFun Zh16 84) k) (Eq.trans (zs_na (by decide) : (zs (ySlM (yC h) (((yC h) 79 k).toNat)) 88 k (w32 (((ySlM (yC h) (((yC h) 79 k).toNat)) 88 k) + 1))) 84 k = (ySlM (yC h) (((yC h) 79 k).toNat)) 84 k) rfl))))
      refine zwW_p [(1, 3, 2)] (q := 77) (ls' := [(2, 1), (2, r), (0, a), (2, v1), (0, v3)]) (st' := [(2, v1), (0, v17), (2, r)]) (by decide +kernel) rfl ?_
      refine zwX_gi Ch16 (kd := 11) (bn := 9) (n := 17) (nx := 80) (by decide +kernel) Gh16_1.2.1 Gh16_1.1 rfl ?_
      intro v18 ev18 lv18 uv18
      have sv18 : v18 = (ySlM (yC h) (((yC h) 79 k).toNat)) 71 (((yC h) 79 k).toNat) := Eq.trans ev18 (Eq.trans (congrArg (fun q => fld h16 q 9) pv1_h16.1) (Eq.trans (Eq.symm (yC_f (h := h16) (a := 71) (A := 2) (j := 9) (i := ((yC h) 79 k).toNat) rfl pv1_h16.2)) (Eq.trans (congrFun (congrFun Zh16 71) (((yC h) 79 k).toNat)) (Eq.trans (zs_na (by decide) : (zs (ySlM (yC h) (((yC h) 79 k).toNat)) 88 k (w32 (((ySlM (yC h) (((yC h) 79 k).toNat)) 88 k) + 1))) 71 (((yC h) 79 k).toNat) = (ySlM (yC h) (((yC h) 79 k).toNat)) 71 (((yC h) 79 k).toNat)) rfl))))
      refine zwW_p [(1, 2, 0)] (q := 81) (ls' := [(2, 1), (2, r), (0, a), (2, v1), (0, v3)]) (st' := [(0, a), (0, v18), (0, v17), (2, r)]) (by decide +kernel) rfl ?_
      refine zwW_adw (nx := 82) (by decide +kernel) ?_
      intro v19 ev19 lv19 uv19
      have Ev19 : v19 = w32 (((ySlM (yC h) (((yC h) 79 k).toNat)) 71 (((yC h) 79 k).toNat)) + a) := by rw [ev19, sv18]
      refine zwW_sbw (nx := 83) (by decide +kernel) ?_
      intro v20 ev20 lv20 uv20
      have Ev20 : v20 = w32 (((ySlM (yC h) (((yC h) 79 k).toNat)) 84 k) - (w32 (((ySlM (yC h) (((yC h) 79 k).toNat)) 71 (((yC h) 79 k).toNat)) + a))) := by rw [ev20, sv17, Ev19]
      refine zwX_pi Ch16 (kd := 4) (bn := 6) (n := 19) (nx := 86) (by decide +kernel) Gh16_0.2.1 Gh16_0.1 (by first | omega | exact ⟨by omega, by omega⟩) ?_
      rintro h21 eh21 Ch21 Qh21
      have Uh21 : yC h21 = (zs (zs (ySlM (yC h) (((yC h) 79 k).toNat)) 88 k (w32 (((ySlM (yC h) (((yC h) 79 k).toNat)) 88 k) + 1))) 84 k (w32 (((ySlM (yC h) (((yC h) 79 k).toNat)) 84 k) - (w32 (((ySlM (yC h) (((yC h) 79 k).toNat)) 71 (((yC h) 79 k).toNat)) + a))))) := by rw [yC_w (a := 84) (A := 3) (j := 6) (k := k) Ch16 Jh16 rfl pr_h16 eh21, Zh16, Ev20]
      have Zh21 : yC h21 = (zs (zs (ySlM (yC h) (((yC h) 79 k).toNat)) 84 k (w32 (((ySlM (yC h) (((yC h) 79 k).toNat)) 84 k) - (w32 (((ySlM (yC h) (((yC h) 79 k).toNat)) 71 (((yC h) 79 k).toNat)) + a))))) 88 k (w32 (((ySlM (yC h) (((yC h) 79 k).toNat)) 88 k) + 1))) := by rw [Uh21, zs_sw (a := 88) (b := 84) (by decide)]
      have Xh21 : zXR msx232_z (0) (0) h h21 := Xh16.tr (c2 := 0) (s2 := 0) Qh21 (by decide +kernel) (by decide) (by decide)
      have Gh21_0 : gH h21 r := Gh16_0.x Qh21
      have Gh21_1 : gV h21 v1 := Gh16_1.x Qh21
      have Jh21 : yR h21 := Jh16.fr Ch16 Qh21 (by decide +kernel)
      have pr_h21 : r = zv h21 3 k ∧ ((k : Nat) : Int) < fld h21 3 2 := zpv Ch16 Qh21 (A := 3) (by decide) (by decide +kernel) pr_h16
      have pv1_h21 : v1 = zv h21 2 (((yC h) 79 k).toNat) ∧ ((((yC h) 79 k).toNat : Nat) : Int) < fld h21 2 2 := zpv Ch16 Qh21 (A := 2) (by decide) (by decide +kernel) pv1_h16
      refine zwW_p [(1, 0, 2), (12, 0, 0)] (q := 88) (ls' := [(2, 1), (2, r), (0, a), (2, v1), (0, v3)]) (st' := [(2, 1), (2, 1)]) (by decide +kernel) rfl ?_
      refine zwW_gs Ch21.1 (kd := 12) (bn := 1) (n := 13) (t := 0) (lo := -2147483648) (hi := 2147483647) (nx := 91) (by decide +kernel) ?_
      intro v22 ev22 lv22 uv22
      have sv22 : v22 = (ySlM (yC h) (((yC h) 79 k).toNat)) 37 38 := Eq.trans ev22 (Eq.trans (Eq.symm (yC_s (h := h21) (i := 38) rfl)) (Eq.trans (congrFun (congrFun Zh21 37) 38) (Eq.trans (zs_na (by decide) : (zs (zs (ySlM (yC h) (((yC h) 79 k).toNat)) 84 k (w32 (((ySlM (yC h) (((yC h) 79 k).toNat)) 84 k) - (w32 (((ySlM (yC h) (((yC h) 79 k).toNat)) 71 (((yC h) 79 k).toNat)) + a))))) 88 k (w32 (((ySlM (yC h) (((yC h) 79 k).toNat)) 88 k) + 1))) 37 38 = (zs (ySlM (yC h) (((yC h) 79 k).toNat)) 84 k (w32 (((ySlM (yC h) (((yC h) 79 k).toNat)) 84 k) - (w32 (((ySlM (yC h) (((yC h) 79 k).toNat)) 71 (((yC h) 79 k).toNat)) + a))))) 37 38) (Eq.trans (zs_na (by decide) : (zs (ySlM (yC h) (((yC h) 79 k).toNat)) 84 k (w32 (((ySlM (yC h) (((yC h) 79 k).toNat)) 84 k) - (w32 (((ySlM (yC h) (((yC h) 79 k).toNat)) 71 (((yC h) 79 k).toNat)) + a))))) 37 38 = (ySlM (yC h) (((yC h) 79 k).toNat)) 37 38) rfl))))
      refine zwW_p [(1, 2, 0)] (q := 92) (ls' := [(2, 1), (2, r), (0, a), (2, v1), (0, v3)]) (st' := [(0, a), (0, v22), (2, 1)]) (by decide +kernel) rfl ?_
      refine zwW_adw (nx := 93) (by decide +kernel) ?_
      intro v23 ev23 lv23 uv23
      have Ev23 : v23 = w32 (((ySlM (yC h) (((yC h) 79 k).toNat)) 37 38) + a) := by rw [ev23, sv22]
      refine zwW_ps Ch21.1 (kd := 12) (bn := 1) (n := 13) (lo := -2147483648) (hi := 2147483647) (nx := 96) (by decide +kernel) (by first | omega | exact ⟨by omega, by omega⟩) ?_
      intro h24 eh24 Ih24
      have Ch24 : CI h24 := Ch21.wc eh24 Ih24 (by decide) (by decide)
      have Qh24 : zXR [(1, 1, 1, 2)] 0 0 h21 h24 := zXR.wc eh24 rfl ⟨by decide, by decide, Or.inl (by decide)⟩ (by first | decide | exact ⟨by decide, by decide⟩)
      have Zh24 : yC h24 = (zs (zs (zs (ySlM (yC h) (((yC h) 79 k).toNat)) 84 k (w32 (((ySlM (yC h) (((yC h) 79 k).toNat)) 84 k) - (w32 (((ySlM (yC h) (((yC h) 79 k).toNat)) 71 (((yC h) 79 k).toNat)) + a))))) 88 k (w32 (((ySlM (yC h) (((yC h) 79 k).toNat)) 88 k) + 1))) 37 38 (w32 (((ySlM (yC h) (((yC h) 79 k).toNat)) 37 38) + a))) := by rw [yC_ws (q := 38) (r := 1) (j := 1) (kd := 12) (n := 13) rfl (Ch21.1.s (a1 := 1) (a2 := 1) (by decide +kernel) (by decide) (by decide)) (by decide) Ch21 eh24, Zh21, Ev23]
      have Xh24 : zXR msx232_z (0) (0) h h24 := Xh21.tr (c2 := 0) (s2 := 0) Qh24 (by decide +kernel) (by decide) (by decide)
      have Gh24_0 : gH h24 r := Gh21_0.x Qh24
      have Gh24_1 : gV h24 v1 := Gh21_1.x Qh24
      have Jh24 : yR h24 := Jh21.fr Ch21 Qh24 (by decide +kernel)
      have pr_h24 : r = zv h24 3 k ∧ ((k : Nat) : Int) < fld h24 3 2 := zpv Ch21 Qh24 (A := 3) (by decide) (by decide +kernel) pr_h21
      have pv1_h24 : v1 = zv h24 2 (((yC h) 79 k).toNat) ∧ ((((yC h) 79 k).toNat : Nat) : Int) < fld h24 2 2 := zpv Ch21 Qh24 (A := 2) (by decide) (by decide +kernel) pv1_h21
      refine zwW_p [(24, 109, 0)] (q := 109) (ls' := [(2, 1), (2, r), (0, a), (2, v1), (0, v3)]) (st' := []) (by decide +kernel) rfl ?_
      refine zwW_retv (nx := 110) (a := 0) (b := 0) (by decide +kernel) ?_
      exact ⟨Ch24, Xh24.le (by decide) (by decide), by refine Eq.trans Zh24 ?_; unfold yByd yBya; (repeat' (first | rw [if_pos (by omega)] | rw [if_neg (by omega)])); all_goals (try simp (disch := decide) only [ySlH_n, ySlM_n]); all_goals (repeat' (first | rfl | apply zs_cg | omega)), by exact Jh24⟩
  · refine zwW_p [(1, 3, 2)] (q := 22) (ls' := [(2, 1), (2, r), (0, a), (2, v1), (0, v3)]) (st' := [(2, v1)]) (by decide +kernel) rfl ?_
    refine zwW_cvv (op := 60) (k' := 258) (n := 0) (kd := 11) (m := 17) (nx := 25) (r := v1) (tl := []) (st' := []) (by decide +kernel) rfl (by decide +kernel) Gv1.2.1 (x258_z h C v1 Gv1 J (((yC h) 79 k).toNat) pv1) rfl ?_
    rintro h27 ⟨Ch27, Qh27, f25, f26⟩
    have Zh27 : yC h27 = (ySlH (yC h) (((yC h) 79 k).toNat)) := by rw [f25]
    have Xh27 : zXR msx232_z (0) (0) h h27 := X.tr (c2 := 0) (s2 := 0) Qh27 (by decide +kernel) (by decide) (by decide)
    have Gh27_0 : gH h27 r := G_r.x Qh27
    have Gh27_1 : gV h27 v1 := Gv1.x Qh27
    have pr_h27 : r = zv h27 3 k ∧ ((k : Nat) : Int) < fld h27 3 2 := zpv C Qh27 (A := 3) (by decide) (by decide +kernel) P_r
    have pv1_h27 : v1 = zv h27 2 (((yC h) 79 k).toNat) ∧ ((((yC h) 79 k).toNat : Nat) : Int) < fld h27 2 2 := zpv C Qh27 (A := 2) (by decide) (by decide +kernel) pv1
    refine zwW_p [(1, 1, 2), (12, 0, 0)] (q := 27) (ls' := [(2, 1), (2, r), (0, a), (2, v1), (0, v3)]) (st' := [(2, r), (2, r)]) (by decide +kernel) rfl ?_
    refine zwX_gi Ch27 (kd := 4) (bn := 9) (n := 19) (nx := 30) (by decide +kernel) Gh27_0.2.1 Gh27_0.1 rfl ?_
    intro v28 ev28 lv28 uv28
    have sv28 : v28 = (ySlH (yC h) (((yC h) 79 k).toNat)) 87 k := Eq.trans ev28 (Eq.trans (congrArg (fun q => fld h27 q 9) pr_h27.1) (Eq.trans (Eq.symm (yC_f (h := h27) (a := 87) (A := 3) (j := 9) (i := k) rfl pr_h27.2)) (Eq.trans (congrFun (congrFun Zh27 87) k) rfl)))
    refine zwW_p [(0, 1, 0)] (q := 31) (ls' := [(2, 1), (2, r), (0, a), (2, v1), (0, v3)]) (st' := [(0, 1), (0, v28), (2, r)]) (by decide +kernel) rfl ?_
    refine zwW_adw (nx := 32) (by decide +kernel) ?_
    intro v29 ev29 lv29 uv29
    have Ev29 : v29 = w32 (((ySlH (yC h) (((yC h) 79 k).toNat)) 87 k) + 1) := by rw [ev29, sv28]
    refine zwX_pi Ch27 (kd := 4) (bn := 9) (n := 19) (nx := 35) (by decide +kernel) Gh27_0.2.1 Gh27_0.1 (by first | omega | exact ⟨by omega, by omega⟩) ?_
    rintro h30 eh30 Ch30 Qh30
    have Zh30 : yC h30 = (zs (ySlH (yC h) (((yC h) 79 k).toNat)) 87 k (w32 (((ySlH (yC h) (((yC h) 79 k).toNat)) 87 k) + 1))) := by rw [yC_w (a := 87) (A := 3) (j := 9) (k := k) Ch27 f26 rfl pr_h27 eh30, Zh27, Ev29]
    have Xh30 : zXR msx232_z (0) (0) h h30 := Xh27.tr (c2 := 0) (s2 := 0) Qh30 (by decide +kernel) (by decide) (by decide)
    have Gh30_0 : gH h30 r := Gh27_0.x Qh30
    have Gh30_1 : gV h30 v1 := Gh27_1.x Qh30
    have Jh30 : yR h30 := f26.fr Ch27 Qh30 (by decide +kernel)
    have pr_h30 : r = zv h30 3 k ∧ ((k : Nat) : Int) < fld h30 3 2 := zpv Ch27 Qh30 (A := 3) (by decide) (by decide +kernel) pr_h27
    have pv1_h30 : v1 = zv h30 2 (((yC h) 79 k).toNat) ∧ ((((yC h) 79 k).toNat : Nat) : Int) < fld h30 2 2 := zpv Ch27 Qh30 (A := 2) (by decide) (by decide +kernel) pv1_h27
    refine zwW_p [(1, 1, 2), (12, 0, 0)] (q := 37) (ls' := [(2, 1), (2, r), (0, a), (2, v1), (0, v3)]) (st' := [(2, r), (2, r)]) (by decide +kernel) rfl ?_
    refine zwX_gi Ch30 (kd := 4) (bn := 6) (n := 19) (nx := 40) (by decide +kernel) Gh30_0.2.1 Gh30_0.1 rfl ?_
    intro v31 ev31 lv31 uv31
    have sv31 : v31 = (ySlH (yC h) (((yC h) 79 k).toNat)) 84 k := Eq.trans ev31 (Eq.trans (congrArg (fun q => fld h30 q 6) pr_h30.1) (Eq.trans (Eq.symm (yC_f (h := h30) (a := 84) (A := 3) (j := 6) (i := k) rfl pr_h30.2)) (Eq.trans (congrFun (congrFun Zh30 84) k) (Eq.trans (zs_na (by decide) : (zs (ySlH (yC h) (((yC h) 79 k).toNat)) 87 k (w32 (((ySlH (yC h) (((yC h) 79 k).toNat)) 87 k) + 1))) 84 k = (ySlH (yC h) (((yC h) 79 k).toNat)) 84 k) rfl))))
    refine zwW_p [(1, 3, 2)] (q := 41) (ls' := [(2, 1), (2, r), (0, a), (2, v1), (0, v3)]) (st' := [(2, v1), (0, v31), (2, r)]) (by decide +kernel) rfl ?_
    refine zwX_gi Ch30 (kd := 11) (bn := 8) (n := 17) (nx := 44) (by decide +kernel) Gh30_1.2.1 Gh30_1.1 rfl ?_
    intro v32 ev32 lv32 uv32
    have sv32 : v32 = (ySlH (yC h) (((yC h) 79 k).toNat)) 70 (((yC h) 79 k).toNat) := Eq.trans ev32 (Eq.trans (congrArg (fun q => fld h30 q 8) pv1_h30.1) (Eq.trans (Eq.symm (yC_f (h := h30) (a := 70) (A := 2) (j := 8) (i := ((yC h) 79 k).toNat) rfl pv1_h30.2)) (Eq.trans (congrFun (congrFun Zh30 70) (((yC h) 79 k).toNat)) (Eq.trans (zs_na (by decide) : (zs (ySlH (yC h) (((yC h) 79 k).toNat)) 87 k (w32 (((ySlH (yC h) (((yC h) 79 k).toNat)) 87 k) + 1))) 70 (((yC h) 79 k).toNat) = (ySlH (yC h) (((yC h) 79 k).toNat)) 70 (((yC h) 79 k).toNat)) rfl))))
    refine zwW_sbw (nx := 45) (by decide +kernel) ?_
    intro v33 ev33 lv33 uv33
    have Ev33 : v33 = w32 (((ySlH (yC h) (((yC h) 79 k).toNat)) 84 k) - ((ySlH (yC h) (((yC h) 79 k).toNat)) 70 (((yC h) 79 k).toNat))) := by rw [ev33, sv31, sv32]
    refine zwX_pi Ch30 (kd := 4) (bn := 6) (n := 19) (nx := 48) (by decide +kernel) Gh30_0.2.1 Gh30_0.1 (by first | omega | exact ⟨by omega, by omega⟩) ?_
    rintro h34 eh34 Ch34 Qh34
    have Uh34 : yC h34 = (zs (zs (ySlH (yC h) (((yC h) 79 k).toNat)) 87 k (w32 (((ySlH (yC h) (((yC h) 79 k).toNat)) 87 k) + 1))) 84 k (w32 (((ySlH (yC h) (((yC h) 79 k).toNat)) 84 k) - ((ySlH (yC h) (((yC h) 79 k).toNat)) 70 (((yC h) 79 k).toNat))))) := by rw [yC_w (a := 84) (A := 3) (j := 6) (k := k) Ch30 Jh30 rfl pr_h30 eh34, Zh30, Ev33]
    have Zh34 : yC h34 = (zs (zs (ySlH (yC h) (((yC h) 79 k).toNat)) 84 k (w32 (((ySlH (yC h) (((yC h) 79 k).toNat)) 84 k) - ((ySlH (yC h) (((yC h) 79 k).toNat)) 70 (((yC h) 79 k).toNat))))) 87 k (w32 (((ySlH (yC h) (((yC h) 79 k).toNat)) 87 k) + 1))) := by rw [Uh34, zs_sw (a := 87) (b := 84) (by decide)]
    have Xh34 : zXR msx232_z (0) (0) h h34 := Xh30.tr (c2 := 0) (s2 := 0) Qh34 (by decide +kernel) (by decide) (by decide)
    have Gh34_0 : gH h34 r := Gh30_0.x Qh34
    have Gh34_1 : gV h34 v1 := Gh30_1.x Qh34
    have Jh34 : yR h34 := Jh30.fr Ch30 Qh34 (by decide +kernel)
    have pr_h34 : r = zv h34 3 k ∧ ((k : Nat) : Int) < fld h34 3 2 := zpv Ch30 Qh34 (A := 3) (by decide) (by decide +kernel) pr_h30
    have pv1_h34 : v1 = zv h34 2 (((yC h) 79 k).toNat) ∧ ((((yC h) 79 k).toNat : Nat) : Int) < fld h34 2 2 := zpv Ch30 Qh34 (A := 2) (by decide) (by decide +kernel) pv1_h30
    refine zwW_p [(24, 109, 0)] (q := 109) (ls' := [(2, 1), (2, r), (0, a), (2, v1), (0, v3)]) (st' := []) (by decide +kernel) rfl ?_
    refine zwW_retv (nx := 110) (a := 0) (b := 0) (by decide +kernel) ?_
    exact ⟨Ch34, Xh34.le (by decide) (by decide), by refine Eq.trans Zh34 ?_; unfold yByd yBya; (repeat' (first | rw [if_pos (by omega)] | rw [if_neg (by omega)])); all_goals (try simp (disch := decide) only [ySlH_n, ySlM_n]); all_goals (repeat' (first | rfl | apply zs_cg | omega)), by exact Jh34⟩
def msx186_z : Zms := [(1, 1, 1, 2), (17, 17, 0, 13), (18, 18, 0, 400), (1004, 1004, 6, 7), (1004, 1004, 8, 9), (1004, 1004, 9, 10), (1004, 1004, 10, 11), (1011, 1011, 5, 6), (1011, 1011, 6, 7), (1011, 1011, 7, 8), (1011, 1011, 10, 11), (1011, 1011, 13, 14), (1011, 1011, 14, 15)]
-- WheelLand.buyAll()V
theorem x186_z {sc : List Int} (h : Hp) (C : CI h) (q : qT) (J : yR h) (V : zRq q h) (ok : yOK (yC h)) : zwC sc 5 186 [(2, 1)] h (zwRv (fun g => CI g ∧ zXR msx186_z (0) (0) h g ∧ (yC g = yByA q (yC h)) ∧ (yR g))) := by
  refine zwC_of (D := 4) 3 (by decide +kernel) rfl (ls := [(2, 1), (9, 0), (9, 0)]) rfl ?_
  have X : zXR msx186_z 0 0 h h := zXR.rf _ _
  have u0 : yC h 37 0 = fld h 1 0 := rfl
  have u1 : yC h 37 1 = fld h 2 2 := rfl
  have u2 : yC h 37 2 = fld h 3 2 := rfl
  have u64 : yC h 37 64 = fld h 4 2 := rfl
  have u78 : yC h 37 78 = fld h 5 2 := rfl
  have b33 := zLb_3 C
  refine zwW_p [(0, 0, 0), (2, 1, 0)] (q := 2) (ls' := [(2, 1), (0, 0), (9, 0)]) (st' := []) (by decide +kernel) rfl ?_
  have L1 : ∀ (n0 : Nat) (kL1 : Int) (w2L1 : Vl) (hL1 : Hp), n0 = ((1000 - kL1)).toNat → (zRq q hL1) → (fld hL1 3 2 = fld h 3 2 ∧ kL1 ≤ fld h 3 2) → (0 ≤ kL1 ∧ kL1 ≤ 20) → (yC hL1 = (yBys q (yC h) (kL1).toNat)) → (yR hL1) → CI hL1 → zXR msx186_z (0) (0) h hL1 → zwW sc (4) 186 2 [(2, 1), (0, kL1), w2L1] [] hL1 (zwRv (fun g => CI g ∧ zXR msx186_z (0) (0) h g ∧ (yC g = yByA q (yC h)) ∧ (yR g))) := by
    intro n0
    induction n0 using Nat.strongRecOn with
    | ind n0 IHL1 =>
      intro kL1 w2L1 hL1 hnL1 iL1_0 iL1_1 iL1_2 iL1_3 iL1_4 ChL1 XhL1
      refine zwW_p [(1, 1, 0), (1, 0, 2)] (q := 4) (ls' := [(2, 1), (0, kL1), w2L1]) (st' := [(2, 1), (0, kL1)]) (by decide +kernel) rfl ?_
      refine zwW_gc ChL1.1 (kd := 12) (bn := 3) (n := 13) (c := 3) (nx := 7) (by decide +kernel) ?_
      refine zwW_cm ChL1.1 (op := 60) (k' := 96) (n := 0) (kd := 0) (m := 3) (nx := 10) (r := 3) (tl := []) (st' := [(0, kL1)]) (by decide +kernel) rfl (by decide +kernel) rfl (x96_3 ChL1) ?_
      rintro v2 _ ⟨rfl, ev2⟩
      have bv2 := zLb_3 ChL1
      have sv2 : v2 = (yBys q (yC h) (kL1).toNat) 37 2 := Eq.trans ev2 (Eq.trans (Eq.symm (yC_s (h := hL1) (i := 2) rfl)) (Eq.trans (congrFun (congrFun iL1_3 37) 2) rfl))
      refine zwic_ge (q := 58) (nx := 13) (by decide +kernel) (fun c3 => ?_) (fun c3 => ?_)
      · refine zwW_retv (nx := 59) (a := 0) (b := 0) (by decide +kernel) ?_
        exact ⟨ChL1, XhL1.le (by decide) (by decide), by refine Eq.trans iL1_3 ?_; unfold yByA; rw [show (yC h 37 2).toNat = (kL1).toNat by omega], by exact iL1_4⟩
      · refine zwW_p [(1, 0, 2)] (q := 14) (ls' := [(2, 1), (0, kL1), w2L1]) (st' := [(2, 1)]) (by decide +kernel) rfl ?_
        refine zwW_gc ChL1.1 (kd := 12) (bn := 3) (n := 13) (c := 3) (nx := 17) (by decide +kernel) ?_
        refine zwW_p [(1, 1, 0)] (q := 18) (ls' := [(2, 1), (0, kL1), w2L1]) (st' := [(0, kL1), (2, 3)]) (by decide +kernel) rfl ?_
        refine zwW_cm ChL1.1 (op := 60) (k' := 123) (n := 1) (kd := 0) (m := 3) (nx := 21) (r := 3) (tl := [(0, kL1)]) (st' := []) (by decide +kernel) rfl (by decide +kernel) rfl (x123_3 ChL1 (i := kL1) (by first | omega | exact ⟨by omega, by omega⟩)) ?_
        rintro v4 _ ⟨rfl, Gv4, ev4⟩
        have lv4 := Gv4.1
        have pv4 : v4 = zv hL1 3 kL1.toNat ∧ ((kL1.toNat : Nat) : Int) < fld hL1 3 2 := ⟨ev4, by omega⟩
        refine zwW_cast (a := 4) (kd := 4) (n := 19) (nx := 24) (by decide +kernel) rfl (Or.inr Gv4.2.1) ?_
        have OK2 : yOK (yC hL1) := by rw [iL1_3]; exact ok.bys _
        have K24 := OK2.ho (k := (kL1).toNat) (by rw [iL1_3]; omega)
        rw [iL1_3] at K24
        refine zwW_p [(2, 2, 2), (1, 0, 2)] (q := 26) (ls' := [(2, 1), (0, kL1), (2, v4)]) (st' := [(2, 1)]) (by decide +kernel) rfl ?_
        refine zwW_gs ChL1.1 (kd := 12) (bn := 0) (n := 13) (t := 0) (lo := 0) (hi := 156) (nx := 29) (by decide +kernel) ?_
        intro v5 ev5 lv5 uv5
        have sv5 : v5 = (yBys q (yC h) (kL1).toNat) 37 0 := Eq.trans ev5 (Eq.trans (Eq.symm (yC_s (h := hL1) (i := 0) rfl)) (Eq.trans (congrFun (congrFun iL1_3 37) 0) rfl))
        refine zwW_p [(1, 2, 2)] (q := 30) (ls' := [(2, 1), (0, kL1), (2, v4)]) (st' := [(2, v4), (0, v5)]) (by decide +kernel) rfl ?_
        refine zwX_gi ChL1 (kd := 4) (bn := 5) (n := 19) (nx := 33) (by decide +kernel) Gv4.2.1 Gv4.1 rfl ?_
        intro v6 ev6 lv6 uv6
        have sv6 : v6 = (yBys q (yC h) (kL1).toNat) 83 kL1.toNat := Eq.trans ev6 (Eq.trans (congrArg (fun q => fld hL1 q 5) pv4.1) (Eq.trans (Eq.symm (yC_f (h := hL1) (a := 83) (A := 3) (j := 5) (i := kL1.toNat) rfl pv4.2)) (Eq.trans (congrFun (congrFun iL1_3 83) kL1.toNat) rfl)))
        refine zwW_add (nx := 34) (by decide +kernel) (by first | omega | exact ⟨by omega, by omega⟩) ?_
        refine zwW_p [(0, 4, 0)] (q := 35) (ls' := [(2, 1), (0, kL1), (2, v4)]) (st' := [(0, 4), (0, (v5 + v6))]) (by decide +kernel) rfl ?_
        refine zwW_rem (nx := 36) (by decide +kernel) (by omega) (by omega) ?_
        refine zwif_ne (q := 52) (nx := 39) (by decide +kernel) (fun c7 => ?_) (fun c7 => ?_)
        · refine zwW_inc (i := 1) (c := 1) (x := kL1) (nx := 55) (by decide +kernel) rfl (by first | omega | exact ⟨by omega, by omega⟩) (ls' := [(2, 1), (0, (kL1 + 1)), (2, v4)]) rfl ?_
          refine zwW_p [(24, 2, 0)] (q := 2) (ls' := [(2, 1), (0, (kL1 + 1)), (2, v4)]) (st' := []) (by decide +kernel) rfl ?_
          exact IHL1 ((1000 - (kL1 + 1))).toNat (by omega) (kL1 + 1) (2, v4) hL1 rfl (iL1_0) (by omega) (by omega) (by rw [show (kL1 + 1).toNat = (kL1).toNat + 1 by omega]; rw [yBys_s]; first | (rw [if_pos (by omega)]; exact iL1_3) | (rw [if_neg (by omega)]; exact iL1_3)) (iL1_4) ChL1 (XhL1.le (by decide) (by decide))
        · refine zwW_p [(1, 0, 2), (1, 2, 2), (1, 0, 2), (1, 2, 2)] (q := 43) (ls' := [(2, 1), (0, kL1), (2, v4)]) (st' := [(2, v4), (2, 1), (2, v4), (2, 1)]) (by decide +kernel) rfl ?_
          refine zwW_get (kd := 4) (bn := 1) (t := 2) (n := 19) (nx := 46) (by decide +kernel) Gv4.2.1 rfl ?_
          obtain ⟨v8, ev8⟩ : ∃ z, z = fld hL1 v4 1 := ⟨_, rfl⟩
          rw [← ev8]
          have Gv8 : gV hL1 v8 := by rw [ev8]; exact Gv4.2.2
          have lv8 := Gv8.1
          have qv8 : yC hL1 79 kL1.toNat = (yBys q (yC h) (kL1).toNat) 79 kL1.toNat := Eq.trans (congrFun (congrFun iL1_3 79) kL1.toNat) rfl
          have wv8 := iL1_4.r (a := 79) (A := 3) (j := 1) (B := 2) (i := kL1.toNat) rfl pv4.2
          rw [qv8] at wv8
          have pv8 : v8 = zv hL1 2 (((yBys q (yC h) (kL1).toNat) 79 kL1.toNat).toNat) ∧ ((((yBys q (yC h) (kL1).toNat) 79 kL1.toNat).toNat : Nat) : Int) < fld hL1 2 2 := ⟨by rw [ev8, pv4.1]; exact wv8.2.2, wv8.2.1⟩
          refine zwW_cm ChL1.1 (op := 60) (k' := 153) (n := 1) (kd := 12) (m := 13) (nx := 49) (r := 1) (tl := [(2, v8)]) (st' := [(2, v4), (2, 1)]) (by decide +kernel) rfl (by decide +kernel) rfl (x153_z hL1 ChL1 v8 q Gv8 iL1_4 (((yBys q (yC h) (kL1).toNat) 79 kL1.toNat).toNat) pv8 iL1_0 OK2) ?_
          rintro v13 h14 ⟨Ch14, Qh14, f9, f10, f11, f12⟩
          have sv13 : v13 = yDut q (yBys q (yC h) (kL1).toNat) (((yBys q (yC h) (kL1).toNat) 79 kL1.toNat).toNat) := by rw [f11, iL1_3]
          have Zh14 : yC h14 = (yBys q (yC h) (kL1).toNat) := (yC_fr ChL1 Qh14 (by decide +kernel) (ChL1.1.b (a1 := 37) (a2 := 37) (j1 := 86) (j2 := 87) (lo := 0) (hi := 6) (by decide +kernel) (r := 37) (j := 86) (by decide) (by decide) (by decide) (by decide)).2).trans iL1_3
          have Xh14 : zXR msx186_z (0) (0) h h14 := XhL1.tr (c2 := 0) (s2 := 0) Qh14 (by decide +kernel) (by decide) (by decide)
          have Gh14_0 : gH h14 v4 := Gv4.x Qh14
          have pv4_h14 : v4 = zv h14 3 kL1.toNat ∧ ((kL1.toNat : Nat) : Int) < fld h14 3 2 := zpv ChL1 Qh14 (A := 3) (by decide) (by decide +kernel) pv4
          have th14_3_2 : fld h14 3 2 = fld hL1 3 2 := Qh14.f (a1 := 3) (a2 := 3) (j1 := 2) (j2 := 3) (by decide +kernel) (by first | decide | exact ⟨by decide, by decide⟩) (by first | decide | exact ⟨by decide, by decide⟩) (by first | decide | exact ⟨by decide, by decide⟩)
          have Vh14 : zRq q h14 := iL1_0.fr ChL1 Qh14 (by decide +kernel)
          refine zwW_cmv Ch14.1 (op := 60) (k' := 232) (n := 2) (kd := 12) (m := 13) (nx := 52) (r := 1) (tl := [(2, v4), (0, v13)]) (st' := []) (by decide +kernel) rfl (by decide +kernel) rfl (x232_z h14 Ch14 v4 v13 Gh14_0 (by omega) f12 kL1.toNat pv4_h14) ?_
          rintro h17 ⟨Ch17, Qh17, f15, f16⟩
          have Zh17 : yC h17 = (yByd (yBys q (yC h) (kL1).toNat) kL1.toNat (yDut q (yBys q (yC h) (kL1).toNat) (((yBys q (yC h) (kL1).toNat) 79 kL1.toNat).toNat))) := by rw [f15, Zh14, sv13]
          have Xh17 : zXR msx186_z (0) (0) h h17 := Xh14.tr (c2 := 0) (s2 := 0) Qh17 (by decide +kernel) (by decide) (by decide)
          have Gh17_0 : gH h17 v4 := Gh14_0.x Qh17
          have pv4_h17 : v4 = zv h17 3 kL1.toNat ∧ ((kL1.toNat : Nat) : Int) < fld h17 3 2 := zpv Ch14 Qh17 (A := 3) (by decide) (by decide +kernel) pv4_h14
          have th17_3_2 : fld h17 3 2 = fld h14 3 2 := Qh17.f (a1 := 3) (a2 := 3) (j1 := 2) (j2 := 3) (by decide +kernel) (by first | decide | exact ⟨by decide, by decide⟩) (by first | decide | exact ⟨by decide, by decide⟩) (by first | decide | exact ⟨by decide, by decide⟩)
          have Vh17 : zRq q h17 := Vh14.fr Ch14 Qh17 (by decide +kernel)
          refine zwW_inc (i := 1) (c := 1) (x := kL1) (nx := 55) (by decide +kernel) rfl (by first | omega | exact ⟨by omega, by omega⟩) (ls' := [(2, 1), (0, (kL1 + 1)), (2, v4)]) rfl ?_
          refine zwW_p [(24, 2, 0)] (q := 2) (ls' := [(2, 1), (0, (kL1 + 1)), (2, v4)]) (st' := []) (by decide +kernel) rfl ?_
          exact IHL1 ((1000 - (kL1 + 1))).toNat (by omega) (kL1 + 1) (2, v4) h17 rfl (Vh17) (by omega) (by omega) (by rw [show (kL1 + 1).toNat = (kL1).toNat + 1 by omega]; rw [yBys_s]; first | (rw [if_pos (by omega)]; exact Zh17) | (rw [if_neg (by omega)]; exact Zh17)) (f16) Ch17 (Xh17.le (by decide) (by decide))
  exact L1 _ 0 (9, 0) h rfl (V) (by omega) (by omega) (rfl) (J) C (X.le (by decide) (by decide))
def msx188_z : Zms := [(17, 17, 0, 13), (18, 18, 0, 400), (1004, 1004, 15, 16)]
-- WheelLand.raiseDues()V
theorem x188_z {sc : List Int} (h : Hp) (C : CI h) (q : qT) (J : yR h) (V : zRq q h) (ok : yOK (yC h)) : zwC sc 5 188 [(2, 1)] h (zwRv (fun g => CI g ∧ zXR msx188_z (0) (0) h g ∧ (yC g = yDuA q (yC h)) ∧ (yR g))) := by
  refine zwC_of (D := 4) 3 (by decide +kernel) rfl (ls := [(2, 1), (9, 0), (9, 0)]) rfl ?_
  have X : zXR msx188_z 0 0 h h := zXR.rf _ _
  have u0 : yC h 37 0 = fld h 1 0 := rfl
  have u1 : yC h 37 1 = fld h 2 2 := rfl
  have u2 : yC h 37 2 = fld h 3 2 := rfl
  have u64 : yC h 37 64 = fld h 4 2 := rfl
  have u78 : yC h 37 78 = fld h 5 2 := rfl
  have b33 := zLb_3 C
  refine zwW_p [(0, 0, 0), (2, 1, 0)] (q := 2) (ls' := [(2, 1), (0, 0), (9, 0)]) (st' := []) (by decide +kernel) rfl ?_
  have L1 : ∀ (n0 : Nat) (kL1 : Int) (w2L1 : Vl) (hL1 : Hp), n0 = ((1000 - kL1)).toNat → (zRq q hL1) → (fld hL1 3 2 = fld h 3 2 ∧ kL1 ≤ fld h 3 2) → (0 ≤ kL1 ∧ kL1 ≤ 20) → (yC hL1 = (yDus q (yC h) (kL1).toNat)) → (yR hL1) → CI hL1 → zXR msx188_z (0) (0) h hL1 → zwW sc (4) 188 2 [(2, 1), (0, kL1), w2L1] [] hL1 (zwRv (fun g => CI g ∧ zXR msx188_z (0) (0) h g ∧ (yC g = yDuA q (yC h)) ∧ (yR g))) := by
    intro n0
    induction n0 using Nat.strongRecOn with
    | ind n0 IHL1 =>
      intro kL1 w2L1 hL1 hnL1 iL1_0 iL1_1 iL1_2 iL1_3 iL1_4 ChL1 XhL1
      refine zwW_p [(1, 1, 0), (1, 0, 2)] (q := 4) (ls' := [(2, 1), (0, kL1), w2L1]) (st' := [(2, 1), (0, kL1)]) (by decide +kernel) rfl ?_
      refine zwW_gc ChL1.1 (kd := 12) (bn := 3) (n := 13) (c := 3) (nx := 7) (by decide +kernel) ?_
      refine zwW_cm ChL1.1 (op := 60) (k' := 96) (n := 0) (kd := 0) (m := 3) (nx := 10) (r := 3) (tl := []) (st' := [(0, kL1)]) (by decide +kernel) rfl (by decide +kernel) rfl (x96_3 ChL1) ?_
      rintro v2 _ ⟨rfl, ev2⟩
      have bv2 := zLb_3 ChL1
      have sv2 : v2 = (yDus q (yC h) (kL1).toNat) 37 2 := Eq.trans ev2 (Eq.trans (Eq.symm (yC_s (h := hL1) (i := 2) rfl)) (Eq.trans (congrFun (congrFun iL1_3 37) 2) rfl))
      refine zwic_ge (q := 89) (nx := 13) (by decide +kernel) (fun c3 => ?_) (fun c3 => ?_)
      · refine zwW_retv (nx := 90) (a := 0) (b := 0) (by decide +kernel) ?_
        exact ⟨ChL1, XhL1.le (by decide) (by decide), by refine Eq.trans iL1_3 ?_; unfold yDuA; rw [show (yC h 37 2).toNat = (kL1).toNat by omega], by exact iL1_4⟩
      · refine zwW_p [(1, 0, 2)] (q := 14) (ls' := [(2, 1), (0, kL1), w2L1]) (st' := [(2, 1)]) (by decide +kernel) rfl ?_
        refine zwW_gc ChL1.1 (kd := 12) (bn := 3) (n := 13) (c := 3) (nx := 17) (by decide +kernel) ?_
        refine zwW_p [(1, 1, 0)] (q := 18) (ls' := [(2, 1), (0, kL1), w2L1]) (st' := [(0, kL1), (2, 3)]) (by decide +kernel) rfl ?_
        refine zwW_cm ChL1.1 (op := 60) (k' := 123) (n := 1) (kd := 0) (m := 3) (nx := 21) (r := 3) (tl := [(0, kL1)]) (st' := []) (by decide +kernel) rfl (by decide +kernel) rfl (x123_3 ChL1 (i := kL1) (by first | omega | exact ⟨by omega, by omega⟩)) ?_
        rintro v4 _ ⟨rfl, Gv4, ev4⟩
        have lv4 := Gv4.1
        have pv4 : v4 = zv hL1 3 kL1.toNat ∧ ((kL1.toNat : Nat) : Int) < fld hL1 3 2 := ⟨ev4, by omega⟩
        refine zwW_cast (a := 4) (kd := 4) (n := 19) (nx := 24) (by decide +kernel) rfl (Or.inr Gv4.2.1) ?_
        have OKT : yOK (yDus q (yC h) (kL1).toNat) := ok.dus _
        refine zwW_p [(2, 2, 2), (1, 2, 2)] (q := 26) (ls' := [(2, 1), (0, kL1), (2, v4)]) (st' := [(2, v4)]) (by decide +kernel) rfl ?_
        refine zwX_gi ChL1 (kd := 4) (bn := 2) (n := 19) (nx := 29) (by decide +kernel) Gv4.2.1 Gv4.1 rfl ?_
        intro v5 ev5 lv5 uv5
        have sv5 : v5 = (yDus q (yC h) (kL1).toNat) 80 kL1.toNat := Eq.trans ev5 (Eq.trans (congrArg (fun q => fld hL1 q 2) pv4.1) (Eq.trans (Eq.symm (yC_f (h := hL1) (a := 80) (A := 3) (j := 2) (i := kL1.toNat) rfl pv4.2)) (Eq.trans (congrFun (congrFun iL1_3 80) kL1.toNat) rfl)))
        refine zwif_le (q := 83) (nx := 32) (by decide +kernel) (fun c6 => ?_) (fun c6 => ?_)
        · refine zwW_inc (i := 1) (c := 1) (x := kL1) (nx := 86) (by decide +kernel) rfl (by first | omega | exact ⟨by omega, by omega⟩) (ls' := [(2, 1), (0, (kL1 + 1)), (2, v4)]) rfl ?_
          refine zwW_p [(24, 2, 0)] (q := 2) (ls' := [(2, 1), (0, (kL1 + 1)), (2, v4)]) (st' := []) (by decide +kernel) rfl ?_
          exact IHL1 ((1000 - (kL1 + 1))).toNat (by omega) (kL1 + 1) (2, v4) hL1 rfl (iL1_0) (by omega) (by omega) (by rw [show (kL1 + 1).toNat = (kL1).toNat + 1 by omega]; show _ = yDu1 q _ _; unfold yDu1; first | (rw [if_neg (by omega)]; exact iL1_3) | (rw [if_pos (by omega)]; unfold yOwe; rw [← A72]; first | exact iL1_3 | exact iL1_3.trans (by congr 1; omega))) (iL1_4) ChL1 (XhL1.le (by decide) (by decide))
        · refine zwW_p [(1, 0, 2)] (q := 33) (ls' := [(2, 1), (0, kL1), (2, v4)]) (st' := [(2, 1)]) (by decide +kernel) rfl ?_
          refine zwW_gc ChL1.1 (kd := 12) (bn := 8) (n := 13) (c := 13) (nx := 36) (by decide +kernel) ?_
          refine zwW_p [(1, 0, 2)] (q := 37) (ls' := [(2, 1), (0, kL1), (2, v4)]) (st' := [(2, 1), (2, 13)]) (by decide +kernel) rfl ?_
          refine zwW_gs ChL1.1 (kd := 12) (bn := 0) (n := 13) (t := 0) (lo := 0) (hi := 156) (nx := 40) (by decide +kernel) ?_
          intro v7 ev7 lv7 uv7
          have sv7 : v7 = (yDus q (yC h) (kL1).toNat) 37 0 := Eq.trans ev7 (Eq.trans (Eq.symm (yC_s (h := hL1) (i := 0) rfl)) (Eq.trans (congrFun (congrFun iL1_3 37) 0) rfl))
          refine zwW_cmv ChL1.1 (op := 60) (k' := 166) (n := 1) (kd := 9) (m := 6) (nx := 43) (r := 13) (tl := [(0, v7)]) (st' := []) (by decide +kernel) rfl (by decide +kernel) rfl (x166_n hL1 ChL1 v7 (by omega) (by omega)) ?_
          rintro h9 ⟨Ch9, Qh9, f8⟩
          have Zh9 : yC h9 = (yDus q (yC h) (kL1).toNat) := (yC_fr ChL1 Qh9 (by decide +kernel) (ChL1.1.b (a1 := 37) (a2 := 37) (j1 := 86) (j2 := 87) (lo := 0) (hi := 6) (by decide +kernel) (r := 37) (j := 86) (by decide) (by decide) (by decide) (by decide)).2).trans iL1_3
          have Xh9 : zXR msx188_z (0) (0) h h9 := XhL1.tr (c2 := 0) (s2 := 0) Qh9 (by decide +kernel) (by decide) (by decide)
          have Gh9_0 : gH h9 v4 := Gv4.x Qh9
          have Jh9 : yR h9 := iL1_4.fr ChL1 Qh9 (by decide +kernel)
          have pv4_h9 : v4 = zv h9 3 kL1.toNat ∧ ((kL1.toNat : Nat) : Int) < fld h9 3 2 := zpv ChL1 Qh9 (A := 3) (by decide) (by decide +kernel) pv4
          have th9_3_2 : fld h9 3 2 = fld hL1 3 2 := Qh9.f (a1 := 3) (a2 := 3) (j1 := 2) (j2 := 3) (by decide +kernel) (by first | decide | exact ⟨by decide, by decide⟩) (by first | decide | exact ⟨by decide, by decide⟩) (by first | decide | exact ⟨by decide, by decide⟩)
          have Vh9 : zRq q h9 := iL1_0.fr ChL1 Qh9 (by decide +kernel)
          have G40 : n13 17 h9 (yNm0 ((yDus q (yC h) (kL1).toNat) 37 0)) := f8.cg (by rw [sv7])
          refine zwW_p [(1, 0, 2)] (q := 44) (ls' := [(2, 1), (0, kL1), (2, v4)]) (st' := [(2, 1)]) (by decide +kernel) rfl ?_
          refine zwW_gc Ch9.1 (kd := 12) (bn := 8) (n := 13) (c := 13) (nx := 47) (by decide +kernel) ?_
          refine zwW_p [(1, 2, 2), (1, 0, 2)] (q := 49) (ls' := [(2, 1), (0, kL1), (2, v4)]) (st' := [(2, 1), (2, v4), (2, 13)]) (by decide +kernel) rfl ?_
          refine zwW_gs Ch9.1 (kd := 12) (bn := 0) (n := 13) (t := 0) (lo := 0) (hi := 156) (nx := 52) (by decide +kernel) ?_
          intro v10 ev10 lv10 uv10
          have sv10 : v10 = (yDus q (yC h) (kL1).toNat) 37 0 := Eq.trans ev10 (Eq.trans (Eq.symm (yC_s (h := h9) (i := 0) rfl)) (Eq.trans (congrFun (congrFun Zh9 37) 0) rfl))
          refine zwW_cs (k' := 162) (n := 1) (nx := 55) (as := [(0, v10)]) (st' := [(2, v4), (2, 13)]) (by decide +kernel) rfl (x162 h9 Ch9 v10 (by omega) (by omega)) rfl ?_
          rintro v11 _ ⟨rfl, f12, f13, f14⟩
          have Z55 := Zh9
          refine zwW_cmv Ch9.1 (op := 60) (k' := 167) (n := 2) (kd := 9) (m := 6) (nx := 58) (r := 13) (tl := [(2, v4), (0, v11)]) (st' := []) (by decide +kernel) rfl (by decide +kernel) rfl (x167_z h9 Ch9 v4 v11 (yNm0 ((yDus q (yC h) (kL1).toNat) 37 0)) Gh9_0 (by omega) Jh9 kL1.toNat pv4_h9 (by rw [Zh9]; exact OKT) G40 (by rw [Zh9]; omega)) ?_
          rintro h17 ⟨Ch17, Qh17, f15, f16⟩
          have Zh17 : yC h17 = (yDus q (yC h) (kL1).toNat) := (yC_fr Ch9 Qh17 (by decide +kernel) (Ch9.1.b (a1 := 37) (a2 := 37) (j1 := 86) (j2 := 87) (lo := 0) (hi := 6) (by decide +kernel) (r := 37) (j := 86) (by decide) (by decide) (by decide) (by decide)).2).trans Zh9
          have Xh17 : zXR msx188_z (0) (0) h h17 := Xh9.tr (c2 := 0) (s2 := 0) Qh17 (by decide +kernel) (by decide) (by decide)
          have Gh17_0 : gH h17 v4 := Gh9_0.x Qh17
          have pv4_h17 : v4 = zv h17 3 kL1.toNat ∧ ((kL1.toNat : Nat) : Int) < fld h17 3 2 := zpv Ch9 Qh17 (A := 3) (by decide) (by decide +kernel) pv4_h9
          have th17_3_2 : fld h17 3 2 = fld h9 3 2 := Qh17.f (a1 := 3) (a2 := 3) (j1 := 2) (j2 := 3) (by decide +kernel) (by first | decide | exact ⟨by decide, by decide⟩) (by first | decide | exact ⟨by decide, by decide⟩) (by first | decide | exact ⟨by decide, by decide⟩)
          have Vh17 : zRq q h17 := Vh9.fr Ch9 Qh17 (by decide +kernel)
          have G55 : n13 17 h17 (yNmH (yDus q (yC h) (kL1).toNat) (kL1).toNat (yNm0 ((yDus q (yC h) (kL1).toNat) 37 0))) := by
            have z := f15
            rw [Z55] at z
            exact z
          refine zwW_p [(1, 2, 2), (12, 0, 0)] (q := 60) (ls' := [(2, 1), (0, kL1), (2, v4)]) (st' := [(2, v4), (2, v4)]) (by decide +kernel) rfl ?_
          refine zwX_gi Ch17 (kd := 4) (bn := 15) (n := 19) (nx := 63) (by decide +kernel) Gh17_0.2.1 Gh17_0.1 rfl ?_
          intro v18 ev18 lv18 uv18
          have sv18 : v18 = (yDus q (yC h) (kL1).toNat) 93 kL1.toNat := Eq.trans ev18 (Eq.trans (congrArg (fun q => fld h17 q 15) pv4_h17.1) (Eq.trans (Eq.symm (yC_f (h := h17) (a := 93) (A := 3) (j := 15) (i := kL1.toNat) rfl pv4_h17.2)) (Eq.trans (congrFun (congrFun Zh17 93) kL1.toNat) rfl)))
          refine zwW_p [(1, 0, 2)] (q := 64) (ls' := [(2, 1), (0, kL1), (2, v4)]) (st' := [(2, 1), (0, v18), (2, v4)]) (by decide +kernel) rfl ?_
          refine zwW_gc Ch17.1 (kd := 12) (bn := 8) (n := 13) (c := 13) (nx := 67) (by decide +kernel) ?_
          refine zwW_p [(0, 0, 0), (1, 0, 2)] (q := 69) (ls' := [(2, 1), (0, kL1), (2, v4)]) (st' := [(2, 1), (0, 0), (2, 13), (0, v18), (2, v4)]) (by decide +kernel) rfl ?_
          refine zwW_gs Ch17.1 (kd := 12) (bn := 0) (n := 13) (t := 0) (lo := 0) (hi := 156) (nx := 72) (by decide +kernel) ?_
          intro v19 ev19 lv19 uv19
          have sv19 : v19 = (yDus q (yC h) (kL1).toNat) 37 0 := Eq.trans ev19 (Eq.trans (Eq.symm (yC_s (h := h17) (i := 0) rfl)) (Eq.trans (congrFun (congrFun Zh17 37) 0) rfl))
          have Z72 := Zh17
          refine zwW_cm Ch17.1 (op := 60) (k' := 172) (n := 2) (kd := 9) (m := 6) (nx := 75) (r := 13) (tl := [(0, 0), (0, v19)]) (st' := [(0, v18), (2, v4)]) (by decide +kernel) rfl (by decide +kernel) rfl (x172_e h17 Ch17 0 v19 (by omega) (by omega) (by first | decide | exact ⟨by decide, by decide⟩) Vh17.1.1 Vh17.1.2.1 Vh17.1.2.2 (G55.ns (eNs_nmh OKT (eNs_nm0 OKT) (by omega))) Vh17.2.1.1 Vh17.2.1.2) ?_
          rintro v22 h23 ⟨Ch23, Qh23, f20, f21⟩
          have Zh23 : yC h23 = (yDus q (yC h) (kL1).toNat) := (yC_fr Ch17 Qh23 (by decide +kernel) (Ch17.1.b (a1 := 37) (a2 := 37) (j1 := 86) (j2 := 87) (lo := 0) (hi := 6) (by decide +kernel) (r := 37) (j := 86) (by decide) (by decide) (by decide) (by decide)).2).trans Zh17
          have Xh23 : zXR msx188_z (0) (0) h h23 := Xh17.tr (c2 := 0) (s2 := 0) Qh23 (by decide +kernel) (by decide) (by decide)
          have Gh23_0 : gH h23 v4 := Gh17_0.x Qh23
          have Jh23 : yR h23 := f16.fr Ch17 Qh23 (by decide +kernel)
          have pv4_h23 : v4 = zv h23 3 kL1.toNat ∧ ((kL1.toNat : Nat) : Int) < fld h23 3 2 := zpv Ch17 Qh23 (A := 3) (by decide) (by decide +kernel) pv4_h17
          have th23_3_2 : fld h23 3 2 = fld h17 3 2 := Qh23.f (a1 := 3) (a2 := 3) (j1 := 2) (j2 := 3) (by decide +kernel) (by first | decide | exact ⟨by decide, by decide⟩) (by first | decide | exact ⟨by decide, by decide⟩) (by first | decide | exact ⟨by decide, by decide⟩)
          have Vh23 : zRq q h23 := Vh17.fr Ch17 Qh23 (by decide +kernel)
          have A72 : v22 = q 0 ((yDus q (yC h) (kL1).toNat) 37 0) (yNmH (yDus q (yC h) (kL1).toNat) (kL1).toNat (yNm0 ((yDus q (yC h) (kL1).toNat) 37 0))) := by
            have z := f21
            rw [z, G55.tl, Vh17.2.2 _ _ _ (by decide) (by decide), sv19]
          refine zwW_p [(0, 0, 0)] (q := 76) (ls' := [(2, 1), (0, kL1), (2, v4)]) (st' := [(0, 0), (0, v22), (0, v18), (2, v4)]) (by decide +kernel) rfl ?_
          refine zwW_max (nx := 79) (by decide +kernel) rfl ?_
          intro v24 ev24
          refine zwW_adw (nx := 80) (by decide +kernel) ?_
          intro v25 ev25 lv25 uv25
          have Ev25 : v25 = w32 (((yDus q (yC h) (kL1).toNat) 93 kL1.toNat) + (max v22 0)) := by rw [ev25, sv18, ev24]
          refine zwX_pi Ch23 (kd := 4) (bn := 15) (n := 19) (nx := 83) (by decide +kernel) Gh23_0.2.1 Gh23_0.1 (by first | omega | exact ⟨by omega, by omega⟩) ?_
          rintro h26 eh26 Ch26 Qh26
          have Zh26 : yC h26 = (zs (yDus q (yC h) (kL1).toNat) 93 kL1.toNat (w32 (((yDus q (yC h) (kL1).toNat) 93 kL1.toNat) + (max v22 0)))) := by rw [yC_w (a := 93) (A := 3) (j := 15) (k := kL1.toNat) Ch23 Jh23 rfl pv4_h23 eh26, Zh23, Ev25]
          have Xh26 : zXR msx188_z (0) (0) h h26 := Xh23.tr (c2 := 0) (s2 := 0) Qh26 (by decide +kernel) (by decide) (by decide)
          have Gh26_0 : gH h26 v4 := Gh23_0.x Qh26
          have Jh26 : yR h26 := Jh23.fr Ch23 Qh26 (by decide +kernel)
          have pv4_h26 : v4 = zv h26 3 kL1.toNat ∧ ((kL1.toNat : Nat) : Int) < fld h26 3 2 := zpv Ch23 Qh26 (A := 3) (by decide) (by decide +kernel) pv4_h23
          have th26_3_2 : fld h26 3 2 = fld h23 3 2 := Qh26.f (a1 := 3) (a2 := 3) (j1 := 2) (j2 := 3) (by decide +kernel) (by first | decide | exact ⟨by decide, by decide⟩) (by first | decide | exact ⟨by decide, by decide⟩) (by first | decide | exact ⟨by decide, by decide⟩)
          have Vh26 : zRq q h26 := Vh23.fr Ch23 Qh26 (by decide +kernel)
          refine zwW_inc (i := 1) (c := 1) (x := kL1) (nx := 86) (by decide +kernel) rfl (by first | omega | exact ⟨by omega, by omega⟩) (ls' := [(2, 1), (0, (kL1 + 1)), (2, v4)]) rfl ?_
          refine zwW_p [(24, 2, 0)] (q := 2) (ls' := [(2, 1), (0, (kL1 + 1)), (2, v4)]) (st' := []) (by decide +kernel) rfl ?_
          exact IHL1 ((1000 - (kL1 + 1))).toNat (by omega) (kL1 + 1) (2, v4) h26 rfl (Vh26) (by omega) (by omega) (by rw [show (kL1 + 1).toNat = (kL1).toNat + 1 by omega]; show _ = yDu1 q _ _; unfold yDu1; first | (rw [if_neg (by omega)]; exact Zh26) | (rw [if_pos (by omega)]; unfold yOwe; rw [← A72]; first | exact Zh26 | exact Zh26.trans (by congr 1; omega))) (Jh26) Ch26 (Xh26.le (by decide) (by decide))
  exact L1 _ 0 (9, 0) h rfl (V) (by omega) (by omega) (rfl) (J) C (X.le (by decide) (by decide))
def msx234_z : Zms := [(1011, 1011, 9, 10), (1011, 1011, 14, 15), (1011, 1011, 15, 16)]
-- WheelLand$Village.endSeason()V
theorem x234_z {sc : List Int} (h : Hp) (C : CI h) (r : Int) (G_r : gV h r) (J : yR h) (k : Nat) (P_r : r = zv h 2 k ∧ (k : Int) < fld h 2 2) (ok : yOK (yC h)) : zwC sc 1 234 [(2, r)] h (zwRv (fun g => CI g ∧ zXR msx234_z (0) (0) h g ∧ (yC g = yMl1 (yC h) k) ∧ (yR g))) := by
  refine zwC_of (D := 0) 1 (by decide +kernel) rfl (ls := [(2, r)]) rfl ?_
  have lw_r := G_r.1
  have X : zXR msx234_z 0 0 h h := zXR.rf _ _
  have u0 : yC h 37 0 = fld h 1 0 := rfl
  have u1 : yC h 37 1 = fld h 2 2 := rfl
  have u2 : yC h 37 2 = fld h 3 2 := rfl
  have u64 : yC h 37 64 = fld h 4 2 := rfl
  have u78 : yC h 37 78 = fld h 5 2 := rfl
  have B234 := (ok.vi (v := k) (by have := P_r.2; omega)).1
  refine zwW_p [(1, 0, 2), (1, 0, 2)] (q := 2) (ls' := [(2, r)]) (st' := [(2, r), (2, r)]) (by decide +kernel) rfl ?_
  refine zwX_gi C (kd := 11) (bn := 14) (n := 17) (nx := 5) (by decide +kernel) G_r.2.1 G_r.1 rfl ?_
  intro v1 ev1 lv1 uv1
  have sv1 : v1 = (yC h) 77 k := Eq.trans ev1 (Eq.trans (congrArg (fun q => fld h q 14) P_r.1) (Eq.trans (Eq.symm (yC_f (h := h) (a := 77) (A := 2) (j := 14) (i := k) rfl P_r.2)) (Eq.trans (congrFun (congrFun (rfl : yC h = yC h) 77) k) rfl)))
  refine zwW_p [(1, 0, 2)] (q := 6) (ls' := [(2, r)]) (st' := [(2, r), (0, v1), (2, r)]) (by decide +kernel) rfl ?_
  refine zwX_gi C (kd := 11) (bn := 15) (n := 17) (nx := 9) (by decide +kernel) G_r.2.1 G_r.1 rfl ?_
  intro v2 ev2 lv2 uv2
  have sv2 : v2 = (yC h) 78 k := Eq.trans ev2 (Eq.trans (congrArg (fun q => fld h q 15) P_r.1) (Eq.trans (Eq.symm (yC_f (h := h) (a := 78) (A := 2) (j := 15) (i := k) rfl P_r.2)) (Eq.trans (congrFun (congrFun (rfl : yC h = yC h) 78) k) rfl)))
  refine zwic_ge (q := 25) (nx := 12) (by decide +kernel) (fun c3 => ?_) (fun c3 => ?_)
  · refine zwW_p [(1, 0, 2)] (q := 26) (ls' := [(2, r)]) (st' := [(2, r), (2, r)]) (by decide +kernel) rfl ?_
    refine zwX_gi C (kd := 11) (bn := 9) (n := 17) (nx := 29) (by decide +kernel) G_r.2.1 G_r.1 rfl ?_
    intro v4 ev4 lv4 uv4
    have sv4 : v4 = (yC h) 71 k := Eq.trans ev4 (Eq.trans (congrArg (fun q => fld h q 9) P_r.1) (Eq.trans (Eq.symm (yC_f (h := h) (a := 71) (A := 2) (j := 9) (i := k) rfl P_r.2)) (Eq.trans (congrFun (congrFun (rfl : yC h = yC h) 71) k) rfl)))
    refine zwW_p [(0, 1, 0)] (q := 30) (ls' := [(2, r)]) (st' := [(0, 1), (0, v4), (2, r)]) (by decide +kernel) rfl ?_
    refine zwW_add (nx := 31) (by decide +kernel) (by first | omega | exact ⟨by omega, by omega⟩) ?_
    refine zwW_p [(0, 99, 0)] (q := 33) (ls' := [(2, r)]) (st' := [(0, 99), (0, (v4 + 1)), (2, r)]) (by decide +kernel) rfl ?_
    refine zwW_min (nx := 36) (by decide +kernel) rfl ?_
    intro v5 ev5
    have Ev5 : v5 = min (((yC h) 71 k) + 1) 99 := by rw [ev5, sv4]
    refine zwX_pi C (kd := 11) (bn := 9) (n := 17) (nx := 39) (by decide +kernel) G_r.2.1 G_r.1 (by first | omega | exact ⟨by omega, by omega⟩) ?_
    rintro h6 eh6 Ch6 Qh6
    have Zh6 : yC h6 = (zs (yC h) 71 k (min (((yC h) 71 k) + 1) 99)) := by rw [yC_w (a := 71) (A := 2) (j := 9) (k := k) C J rfl P_r eh6, Ev5]
    have Xh6 : zXR msx234_z (0) (0) h h6 := X.tr (c2 := 0) (s2 := 0) Qh6 (by decide +kernel) (by decide) (by decide)
    have Gh6_0 : gV h6 r := G_r.x Qh6
    have Jh6 : yR h6 := J.fr C Qh6 (by decide +kernel)
    have pr_h6 : r = zv h6 2 k ∧ ((k : Nat) : Int) < fld h6 2 2 := zpv C Qh6 (A := 2) (by decide) (by decide +kernel) P_r
    refine zwW_p [(1, 0, 2), (1, 0, 2)] (q := 41) (ls' := [(2, r)]) (st' := [(2, r), (2, r)]) (by decide +kernel) rfl ?_
    refine zwX_gi Ch6 (kd := 11) (bn := 14) (n := 17) (nx := 44) (by decide +kernel) Gh6_0.2.1 Gh6_0.1 rfl ?_
    intro v7 ev7 lv7 uv7
    have sv7 : v7 = (yC h) 77 k := Eq.trans ev7 (Eq.trans (congrArg (fun q => fld h6 q 14) pr_h6.1) (Eq.trans (Eq.symm (yC_f (h := h6) (a := 77) (A := 2) (j := 14) (i := k) rfl pr_h6.2)) (Eq.trans (congrFun (congrFun Zh6 77) k) (Eq.trans (zs_na (by decide) : (zs (yC h) 71 k (min (((yC h) 71 k) + 1) 99)) 77 k = (yC h) 77 k) rfl))))
    refine zwX_pi Ch6 (kd := 11) (bn := 15) (n := 17) (nx := 47) (by decide +kernel) Gh6_0.2.1 Gh6_0.1 (by first | omega | exact ⟨by omega, by omega⟩) ?_
    rintro h8 eh8 Ch8 Qh8
    have Zh8 : yC h8 = (zs (zs (yC h) 71 k (min (((yC h) 71 k) + 1) 99)) 78 k ((yC h) 77 k)) := by rw [yC_w (a := 78) (A := 2) (j := 15) (k := k) Ch6 Jh6 rfl pr_h6 eh8, Zh6, sv7]
    have Xh8 : zXR msx234_z (0) (0) h h8 := Xh6.tr (c2 := 0) (s2 := 0) Qh8 (by decide +kernel) (by decide) (by decide)
    have Gh8_0 : gV h8 r := Gh6_0.x Qh8
    have Jh8 : yR h8 := Jh6.fr Ch6 Qh8 (by decide +kernel)
    have pr_h8 : r = zv h8 2 k ∧ ((k : Nat) : Int) < fld h8 2 2 := zpv Ch6 Qh8 (A := 2) (by decide) (by decide +kernel) pr_h6
    refine zwW_p [(1, 0, 2), (0, 0, 0)] (q := 49) (ls' := [(2, r)]) (st' := [(0, 0), (2, r)]) (by decide +kernel) rfl ?_
    refine zwX_pi Ch8 (kd := 11) (bn := 14) (n := 17) (nx := 52) (by decide +kernel) Gh8_0.2.1 Gh8_0.1 (by first | decide | exact ⟨by decide, by decide⟩) ?_
    rintro h9 eh9 Ch9 Qh9
    have Uh9 : yC h9 = (zs (zs (zs (yC h) 71 k (min (((yC h) 71 k) + 1) 99)) 78 k ((yC h) 77 k)) 77 k 0) := by rw [yC_w (a := 77) (A := 2) (j := 14) (k := k) Ch8 Jh8 rfl pr_h8 eh9, Zh8]
    have Zh9 : yC h9 = (zs (zs (zs (yC h) 71 k (min (((yC h) 71 k) + 1) 99)) 77 k 0) 78 k ((yC h) 77 k)) := by rw [Uh9, zs_sw (a := 78) (b := 77) (by decide)]
    have Xh9 : zXR msx234_z (0) (0) h h9 := Xh8.tr (c2 := 0) (s2 := 0) Qh9 (by decide +kernel) (by decide) (by decide)
    have Gh9_0 : gV h9 r := Gh8_0.x Qh9
    have Jh9 : yR h9 := Jh8.fr Ch8 Qh9 (by decide +kernel)
    have pr_h9 : r = zv h9 2 k ∧ ((k : Nat) : Int) < fld h9 2 2 := zpv Ch8 Qh9 (A := 2) (by decide) (by decide +kernel) pr_h8
    refine zwW_retv (nx := 53) (a := 0) (b := 0) (by decide +kernel) ?_
    exact ⟨Ch9, Xh9.le (by decide) (by decide), by refine Eq.trans Zh9 ?_; unfold yMl1; (repeat' (first | rw [if_pos (by omega)] | rw [if_neg (by omega)])); all_goals (repeat' (first | rfl | apply zs_cg | omega)), by exact Jh9⟩
  · refine zwW_p [(1, 0, 2)] (q := 13) (ls' := [(2, r)]) (st' := [(2, r), (2, r)]) (by decide +kernel) rfl ?_
    refine zwX_gi C (kd := 11) (bn := 9) (n := 17) (nx := 16) (by decide +kernel) G_r.2.1 G_r.1 rfl ?_
    intro v10 ev10 lv10 uv10
    have sv10 : v10 = (yC h) 71 k := Eq.trans ev10 (Eq.trans (congrArg (fun q => fld h q 9) P_r.1) (Eq.trans (Eq.symm (yC_f (h := h) (a := 71) (A := 2) (j := 9) (i := k) rfl P_r.2)) (Eq.trans (congrFun (congrFun (rfl : yC h = yC h) 71) k) rfl)))
    refine zwW_p [(0, 1, 0)] (q := 17) (ls' := [(2, r)]) (st' := [(0, 1), (0, v10), (2, r)]) (by decide +kernel) rfl ?_
    refine zwW_sub (nx := 18) (by decide +kernel) (by first | omega | exact ⟨by omega, by omega⟩) ?_
    refine zwW_p [(0, 1, 0)] (q := 19) (ls' := [(2, r)]) (st' := [(0, 1), (0, (v10 - 1)), (2, r)]) (by decide +kernel) rfl ?_
    refine zwW_max (nx := 22) (by decide +kernel) rfl ?_
    intro v11 ev11
    have Ev11 : v11 = max (((yC h) 71 k) - 1) 1 := by rw [ev11, sv10]
    refine zwW_p [(24, 36, 0)] (q := 36) (ls' := [(2, r)]) (st' := [(0, v11), (2, r)]) (by decide +kernel) rfl ?_
    refine zwX_pi C (kd := 11) (bn := 9) (n := 17) (nx := 39) (by decide +kernel) G_r.2.1 G_r.1 (by first | omega | exact ⟨by omega, by omega⟩) ?_
    rintro h12 eh12 Ch12 Qh12
    have Zh12 : yC h12 = (zs (yC h) 71 k (max (((yC h) 71 k) - 1) 1)) := by rw [yC_w (a := 71) (A := 2) (j := 9) (k := k) C J rfl P_r eh12, Ev11]
    have Xh12 : zXR msx234_z (0) (0) h h12 := X.tr (c2 := 0) (s2 := 0) Qh12 (by decide +kernel) (by decide) (by decide)
    have Gh12_0 : gV h12 r := G_r.x Qh12
    have Jh12 : yR h12 := J.fr C Qh12 (by decide +kernel)
    have pr_h12 : r = zv h12 2 k ∧ ((k : Nat) : Int) < fld h12 2 2 := zpv C Qh12 (A := 2) (by decide) (by decide +kernel) P_r
    refine zwW_p [(1, 0, 2), (1, 0, 2)] (q := 41) (ls' := [(2, r)]) (st' := [(2, r), (2, r)]) (by decide +kernel) rfl ?_
    refine zwX_gi Ch12 (kd := 11) (bn := 14) (n := 17) (nx := 44) (by decide +kernel) Gh12_0.2.1 Gh12_0.1 rfl ?_
    intro v13 ev13 lv13 uv13
    have sv13 : v13 = (yC h) 77 k := Eq.trans ev13 (Eq.trans (congrArg (fun q => fld h12 q 14) pr_h12.1) (Eq.trans (Eq.symm (yC_f (h := h12) (a := 77) (A := 2) (j := 14) (i := k) rfl pr_h12.2)) (Eq.trans (congrFun (congrFun Zh12 77) k) (Eq.trans (zs_na (by decide) : (zs (yC h) 71 k (max (((yC h) 71 k) - 1) 1)) 77 k = (yC h) 77 k) rfl))))
    refine zwX_pi Ch12 (kd := 11) (bn := 15) (n := 17) (nx := 47) (by decide +kernel) Gh12_0.2.1 Gh12_0.1 (by first | omega | exact ⟨by omega, by omega⟩) ?_
    rintro h14 eh14 Ch14 Qh14
    have Zh14 : yC h14 = (zs (zs (yC h) 71 k (max (((yC h) 71 k) - 1) 1)) 78 k ((yC h) 77 k)) := by rw [yC_w (a := 78) (A := 2) (j := 15) (k := k) Ch12 Jh12 rfl pr_h12 eh14, Zh12, sv13]
    have Xh14 : zXR msx234_z (0) (0) h h14 := Xh12.tr (c2 := 0) (s2 := 0) Qh14 (by decide +kernel) (by decide) (by decide)
    have Gh14_0 : gV h14 r := Gh12_0.x Qh14
    have Jh14 : yR h14 := Jh12.fr Ch12 Qh14 (by decide +kernel)
    have pr_h14 : r = zv h14 2 k ∧ ((k : Nat) : Int) < fld h14 2 2 := zpv Ch12 Qh14 (A := 2) (by decide) (by decide +kernel) pr_h12
    refine zwW_p [(1, 0, 2), (0, 0, 0)] (q := 49) (ls' := [(2, r)]) (st' := [(0, 0), (2, r)]) (by decide +kernel) rfl ?_
    refine zwX_pi Ch14 (kd := 11) (bn := 14) (n := 17) (nx := 52) (by decide +kernel) Gh14_0.2.1 Gh14_0.1 (by first | decide | exact ⟨by decide, by decide⟩) ?_
    rintro h15 eh15 Ch15 Qh15
    have Uh15 : yC h15 = (zs (zs (zs (yC h) 71 k (max (((yC h) 71 k) - 1) 1)) 78 k ((yC h) 77 k)) 77 k 0) := by rw [yC_w (a := 77) (A := 2) (j := 14) (k := k) Ch14 Jh14 rfl pr_h14 eh15, Zh14]
    have Zh15 : yC h15 = (zs (zs (zs (yC h) 71 k (max (((yC h) 71 k) - 1) 1)) 77 k 0) 78 k ((yC h) 77 k)) := by rw [Uh15, zs_sw (a := 78) (b := 77) (by decide)]
    have Xh15 : zXR msx234_z (0) (0) h h15 := Xh14.tr (c2 := 0) (s2 := 0) Qh15 (by decide +kernel) (by decide) (by decide)
    have Gh15_0 : gV h15 r := Gh14_0.x Qh15
    have Jh15 : yR h15 := Jh14.fr Ch14 Qh15 (by decide +kernel)
    have pr_h15 : r = zv h15 2 k ∧ ((k : Nat) : Int) < fld h15 2 2 := zpv Ch14 Qh15 (A := 2) (by decide) (by decide +kernel) pr_h14
    refine zwW_retv (nx := 53) (a := 0) (b := 0) (by decide +kernel) ?_
    exact ⟨Ch15, Xh15.le (by decide) (by decide), by refine Eq.trans Zh15 ?_; unfold yMl1; (repeat' (first | rw [if_pos (by omega)] | rw [if_neg (by omega)])); all_goals (repeat' (first | rfl | apply zs_cg | omega)), by exact Jh15⟩
def msx189_z : Zms := [(1011, 1011, 9, 10), (1011, 1011, 14, 15), (1011, 1011, 15, 16)]
-- WheelLand.moveMillPrices()V
theorem x189_z {sc : List Int} (h : Hp) (C : CI h) (J : yR h) (ok : yOK (yC h)) : zwC sc 5 189 [(2, 1)] h (zwRv (fun g => CI g ∧ zXR msx189_z (0) (0) h g ∧ (yC g = yMlA (yC h)) ∧ (yR g))) := by
  refine zwC_of (D := 4) 2 (by decide +kernel) rfl (ls := [(2, 1), (9, 0)]) rfl ?_
  have X : zXR msx189_z 0 0 h h := zXR.rf _ _
  have u0 : yC h 37 0 = fld h 1 0 := rfl
  have u1 : yC h 37 1 = fld h 2 2 := rfl
  have u2 : yC h 37 2 = fld h 3 2 := rfl
  have u64 : yC h 37 64 = fld h 4 2 := rfl
  have u78 : yC h 37 78 = fld h 5 2 := rfl
  have b22 := zLb_2 C
  refine zwW_p [(0, 0, 0), (2, 1, 0)] (q := 2) (ls' := [(2, 1), (0, 0)]) (st' := []) (by decide +kernel) rfl ?_
  have L1 : ∀ (n0 : Nat) (kL1 : Int) (hL1 : Hp), n0 = ((1000 - kL1)).toNat → (fld hL1 2 2 = fld h 2 2 ∧ kL1 ≤ fld h 2 2) → (0 ≤ kL1 ∧ kL1 ≤ 8) → (yC hL1 = (yMls (yC h) (kL1).toNat)) → (yR hL1) → CI hL1 → zXR msx189_z (0) (0) h hL1 → zwW sc (4) 189 2 [(2, 1), (0, kL1)] [] hL1 (zwRv (fun g => CI g ∧ zXR msx189_z (0) (0) h g ∧ (yC g = yMlA (yC h)) ∧ (yR g))) := by
    intro n0
    induction n0 using Nat.strongRecOn with
    | ind n0 IHL1 =>
      intro kL1 hL1 hnL1 iL1_0 iL1_1 iL1_2 iL1_3 ChL1 XhL1
      refine zwW_p [(1, 1, 0), (1, 0, 2)] (q := 4) (ls' := [(2, 1), (0, kL1)]) (st' := [(2, 1), (0, kL1)]) (by decide +kernel) rfl ?_
      refine zwW_gc ChL1.1 (kd := 12) (bn := 2) (n := 13) (c := 2) (nx := 7) (by decide +kernel) ?_
      refine zwW_cm ChL1.1 (op := 60) (k' := 96) (n := 0) (kd := 0) (m := 3) (nx := 10) (r := 2) (tl := []) (st' := [(0, kL1)]) (by decide +kernel) rfl (by decide +kernel) rfl (x96_2 ChL1) ?_
      rintro v2 _ ⟨rfl, ev2⟩
      have bv2 := zLb_2 ChL1
      have sv2 : v2 = (yMls (yC h) (kL1).toNat) 37 1 := Eq.trans ev2 (Eq.trans (Eq.symm (yC_s (h := hL1) (i := 1) rfl)) (Eq.trans (congrFun (congrFun iL1_2 37) 1) rfl))
      refine zwic_ge (q := 33) (nx := 13) (by decide +kernel) (fun c3 => ?_) (fun c3 => ?_)
      · refine zwW_retv (nx := 34) (a := 0) (b := 0) (by decide +kernel) ?_
        exact ⟨ChL1, XhL1.le (by decide) (by decide), by refine Eq.trans iL1_2 ?_; unfold yMlA; rw [show (yC h 37 1).toNat = (kL1).toNat by omega], by exact iL1_3⟩
      · refine zwW_p [(1, 0, 2)] (q := 14) (ls' := [(2, 1), (0, kL1)]) (st' := [(2, 1)]) (by decide +kernel) rfl ?_
        refine zwW_gc ChL1.1 (kd := 12) (bn := 2) (n := 13) (c := 2) (nx := 17) (by decide +kernel) ?_
        refine zwW_p [(1, 1, 0)] (q := 18) (ls' := [(2, 1), (0, kL1)]) (st' := [(0, kL1), (2, 2)]) (by decide +kernel) rfl ?_
        refine zwW_cm ChL1.1 (op := 60) (k' := 123) (n := 1) (kd := 0) (m := 3) (nx := 21) (r := 2) (tl := [(0, kL1)]) (st' := []) (by decide +kernel) rfl (by decide +kernel) rfl (x123_2 ChL1 (i := kL1) (by first | omega | exact ⟨by omega, by omega⟩)) ?_
        rintro v4 _ ⟨rfl, Gv4, ev4⟩
        have lv4 := Gv4.1
        have pv4 : v4 = zv hL1 2 kL1.toNat ∧ ((kL1.toNat : Nat) : Int) < fld hL1 2 2 := ⟨ev4, by omega⟩
        refine zwW_cast (a := 11) (kd := 11) (n := 17) (nx := 24) (by decide +kernel) rfl (Or.inr Gv4.2.1) ?_
        have OKT : yOK (yMls (yC h) (kL1).toNat) := ok.mls _ (by omega)
        refine zwW_cvv (op := 60) (k' := 234) (n := 0) (kd := 11) (m := 17) (nx := 27) (r := v4) (tl := []) (st' := []) (by decide +kernel) rfl (by decide +kernel) Gv4.2.1 (x234_z hL1 ChL1 v4 Gv4 iL1_3 kL1.toNat pv4 (by rw [iL1_2]; exact OKT)) rfl ?_
        rintro h7 ⟨Ch7, Qh7, f5, f6⟩
        have Zh7 : yC h7 = (yMl1 (yMls (yC h) (kL1).toNat) kL1.toNat) := by rw [f5, iL1_2]
        have Xh7 : zXR msx189_z (0) (0) h h7 := XhL1.tr (c2 := 0) (s2 := 0) Qh7 (by decide +kernel) (by decide) (by decide)
        have th7_2_2 : fld h7 2 2 = fld hL1 2 2 := Qh7.f (a1 := 2) (a2 := 2) (j1 := 2) (j2 := 3) (by decide +kernel) (by first | decide | exact ⟨by decide, by decide⟩) (by first | decide | exact ⟨by decide, by decide⟩) (by first | decide | exact ⟨by decide, by decide⟩)
        refine zwW_inc (i := 1) (c := 1) (x := kL1) (nx := 30) (by decide +kernel) rfl (by first | omega | exact ⟨by omega, by omega⟩) (ls' := [(2, 1), (0, (kL1 + 1))]) rfl ?_
        refine zwW_p [(24, 2, 0)] (q := 2) (ls' := [(2, 1), (0, (kL1 + 1))]) (st' := []) (by decide +kernel) rfl ?_
        exact IHL1 ((1000 - (kL1 + 1))).toNat (by omega) (kL1 + 1) h7 rfl (by omega) (by omega) (by rw [show (kL1 + 1).toNat = (kL1).toNat + 1 by omega]; exact Zh7) (f6) Ch7 (Xh7.le (by decide) (by decide))
  exact L1 _ 0 h rfl (by omega) (by omega) (rfl) (J) C (X.le (by decide) (by decide))
def msx61_z : Zms := [(17, 17, 0, 13), (18, 18, 0, 400)]
-- WheelLand.likes(I)I
theorem x61_z {sc : List Int} (h : Hp) (C : CI h) (a : Int) (q : qT) (q_a : -2147483648 ≤ a ∧ a ≤ 2147483647) (J : yR h) (V : zRq q h) (ok : yOK (yC h)) : zwC sc 6 61 [(2, 1), (0, a)] h (zwRt 0 (fun x g => CI g ∧ zXR msx61_z (0) (0) h g ∧ (-2147483648 ≤ x ∧ x ≤ 2147483647) ∧ (x = yLikA q (yC h) a) ∧ (yR g))) := by
  refine zwC_of (D := 5) 3 (by decide +kernel) rfl (ls := [(2, 1), (0, a), (9, 0)]) rfl ?_
  have X : zXR msx61_z 0 0 h h := zXR.rf _ _
  have u0 : yC h 37 0 = fld h 1 0 := rfl
  have u1 : yC h 37 1 = fld h 2 2 := rfl
  have u2 : yC h 37 2 = fld h 3 2 := rfl
  have u64 : yC h 37 64 = fld h 4 2 := rfl
  have u78 : yC h 37 78 = fld h 5 2 := rfl
  refine zwW_p [(1, 0, 2), (1, 1, 0)] (q := 2) (ls' := [(2, 1), (0, a), (9, 0)]) (st' := [(0, a), (2, 1)]) (by decide +kernel) rfl ?_
  refine zwW_cm C.1 (op := 60) (k' := 109) (n := 1) (kd := 12) (m := 13) (nx := 5) (r := 1) (tl := [(0, a)]) (st' := []) (by decide +kernel) rfl (by decide +kernel) rfl (x109 h C a (by omega)) ?_
  rintro v2 _ ⟨rfl, ⟨rfl, c1⟩ | ⟨Gv2, c1⟩⟩
  · refine zwW_p [(2, 2, 2), (1, 2, 2)] (q := 7) (ls' := [(2, 1), (0, a), (2, 0)]) (st' := [(2, 0)]) (by decide +kernel) rfl ?_
    refine zwnu_ne (q := 12) (nx := 10) (by decide +kernel) (by decide) (fun c3 => ?_) (fun c3 => ?_)
    · exfalso; omega
    · refine zwW_p [(0, -1, 0)] (q := 11) (ls' := [(2, 1), (0, a), (2, 0)]) (st' := [(0, -1)]) (by decide +kernel) rfl ?_
      refine zwW_ret (nx := 12) (a := 0) (b := 0) (by decide +kernel) rfl (Or.inl rfl) ?_
      exact ⟨C, X.le (by decide) (by decide), by omega, by unfold yLikA; (repeat' (first | rw [if_neg (by omega)] | rw [if_pos (by omega)])); all_goals (first | rfl | omega), by exact J⟩
  · have lv2 := Gv2.1
    have ev2 := c1.2.2
    have pv2 : v2 = zv h 3 a.toNat ∧ ((a.toNat : Nat) : Int) < fld h 3 2 := ⟨ev2, by omega⟩
    refine zwW_p [(2, 2, 2), (1, 2, 2)] (q := 7) (ls' := [(2, 1), (0, a), (2, v2)]) (st' := [(2, v2)]) (by decide +kernel) rfl ?_
    refine zwnu_ne (q := 12) (nx := 10) (by decide +kernel) (by omega) (fun c4 => ?_) (fun c4 => ?_)
    · refine zwW_p [(1, 2, 2)] (q := 13) (ls' := [(2, 1), (0, a), (2, v2)]) (st' := [(2, v2)]) (by decide +kernel) rfl ?_
      refine zwW_get (kd := 4) (bn := 1) (t := 2) (n := 19) (nx := 16) (by decide +kernel) Gv2.2.1 rfl ?_
      obtain ⟨v5, ev5⟩ : ∃ z, z = fld h v2 1 := ⟨_, rfl⟩
      rw [← ev5]
      have Gv5 : gV h v5 := by rw [ev5]; exact Gv2.2.2
      have lv5 := Gv5.1
      have qv5 : yC h 79 a.toNat = (yC h) 79 a.toNat := Eq.trans (congrFun (congrFun (rfl : yC h = yC h) 79) a.toNat) rfl
      have wv5 := J.r (a := 79) (A := 3) (j := 1) (B := 2) (i := a.toNat) rfl pv2.2
      rw [qv5] at wv5
      have pv5 : v5 = zv h 2 (((yC h) 79 a.toNat).toNat) ∧ ((((yC h) 79 a.toNat).toNat : Nat) : Int) < fld h 2 2 := ⟨by rw [ev5, pv2.1]; exact wv5.2.2, wv5.2.1⟩
      refine zwW_p [(1, 2, 2)] (q := 17) (ls' := [(2, 1), (0, a), (2, v2)]) (st' := [(2, v2), (2, v5)]) (by decide +kernel) rfl ?_
      refine zwX_gi C (kd := 4) (bn := 6) (n := 19) (nx := 20) (by decide +kernel) Gv2.2.1 Gv2.1 rfl ?_
      intro v6 ev6 lv6 uv6
      have sv6 : v6 = (yC h) 84 a.toNat := Eq.trans ev6 (Eq.trans (congrArg (fun q => fld h q 6) pv2.1) (Eq.trans (Eq.symm (yC_f (h := h) (a := 84) (A := 3) (j := 6) (i := a.toNat) rfl pv2.2)) (Eq.trans (congrFun (congrFun (rfl : yC h = yC h) 84) a.toNat) rfl)))
      refine zwW_p [(1, 0, 2), (1, 2, 2)] (q := 22) (ls' := [(2, 1), (0, a), (2, v2)]) (st' := [(2, v2), (2, 1), (0, v6), (2, v5)]) (by decide +kernel) rfl ?_
      refine zwW_get (kd := 4) (bn := 1) (t := 2) (n := 19) (nx := 25) (by decide +kernel) Gv2.2.1 rfl ?_
      rw [← ev5]
      refine zwW_cm C.1 (op := 60) (k' := 153) (n := 1) (kd := 12) (m := 13) (nx := 28) (r := 1) (tl := [(2, v5)]) (st' := [(0, v6), (2, v5)]) (by decide +kernel) rfl (by decide +kernel) rfl (x153_z h C v5 q Gv5 J (((yC h) 79 a.toNat).toNat) pv5 V ok) ?_
      rintro v12 h13 ⟨Ch13, Qh13, f8, f9, f10, f11⟩
      have sv12 : v12 = yDut q (yC h) (((yC h) 79 a.toNat).toNat) := by rw [f10]
      have Zh13 : yC h13 = (yC h) := (yC_fr C Qh13 (by decide +kernel) (C.1.b (a1 := 37) (a2 := 37) (j1 := 86) (j2 := 87) (lo := 0) (hi := 6) (by decide +kernel) (r := 37) (j := 86) (by decide) (by decide) (by decide) (by decide)).2).trans (rfl : yC h = yC h)
      have Xh13 : zXR msx61_z (0) (0) h h13 := X.tr (c2 := 0) (s2 := 0) Qh13 (by decide +kernel) (by decide) (by decide)
      have Gh13_0 : gH h13 v2 := Gv2.x Qh13
      have Gh13_1 : gV h13 v5 := Gv5.x Qh13
      have pv2_h13 : v2 = zv h13 3 a.toNat ∧ ((a.toNat : Nat) : Int) < fld h13 3 2 := zpv C Qh13 (A := 3) (by decide) (by decide +kernel) pv2
      have pv5_h13 : v5 = zv h13 2 (((yC h) 79 a.toNat).toNat) ∧ ((((yC h) 79 a.toNat).toNat : Nat) : Int) < fld h13 2 2 := zpv C Qh13 (A := 2) (by decide) (by decide +kernel) pv5
      have Vh13 : zRq q h13 := V.fr C Qh13 (by decide +kernel)
      refine zwW_cv (op := 60) (k' := 154) (n := 2) (kd := 11) (m := 17) (nx := 31) (r := v5) (tl := [(0, v6), (0, v12)]) (st' := []) (by decide +kernel) rfl (by decide +kernel) Gh13_1.2.1 (x154_z h13 Ch13 v5 v6 v12 Gh13_1 (by omega) (by omega) f11 (((yC h) 79 a.toNat).toNat) pv5_h13) rfl ?_
      rintro v14 _ ⟨rfl, f15, f16⟩
      have sv14 : v14 = yCho (yC h) (((yC h) 79 a.toNat).toNat) ((yC h) 84 a.toNat) (yDut q (yC h) (((yC h) 79 a.toNat).toNat)) := by rw [f16, Zh13, sv6, sv12]
      refine zwW_ret (nx := 32) (a := 0) (b := 0) (by decide +kernel) rfl (Or.inl rfl) ?_
      exact ⟨Ch13, Xh13.le (by decide) (by decide), by omega, by unfold yLikA; (repeat' (first | rw [if_pos (by omega)] | rw [if_neg (by omega)])); all_goals (first | rfl | omega), by exact f11⟩
    · exfalso; omega
-- WheelLand$Roads.joins(II)Z
theorem x233_z {sc : List Int} (h : Hp) (C : CI h) (a b : Int) (q_a : -2147483648 ≤ a ∧ a ≤ 2147483647) (q_b : -2147483648 ≤ b ∧ b ≤ 2147483647) (W : zLw h) (pa : 0 ≤ a ∧ a < 8) (pb : 0 ≤ b ∧ b < 8) : zwC sc 2 233 [(2, 6), (0, a), (0, b)] h (zwRt 0 (fun x g => h = g ∧ ((x = 1 ∧ (0 < yC h 48 (8 * a.toNat + b.toNat))) ∨ (x = 0 ∧ (yC h 48 (8 * a.toNat + b.toNat) ≤ 0))))) := by
  refine zwC_of (D := 1) 3 (by decide +kernel) rfl (ls := [(2, 6), (0, a), (0, b)]) rfl ?_
  have K48 := W.yc (a := a.toNat) (b := b.toNat) (by omega) (by omega)
  refine zwW_p [(1, 1, 0), (1, 2, 0)] (q := 2) (ls' := [(2, 6), (0, a), (0, b)]) (st' := [(0, b), (0, a)]) (by decide +kernel) rfl ?_
  refine zwic_eq (q := 39) (nx := 5) (by decide +kernel) (fun c1 => ?_) (fun c1 => ?_)
  · refine zwW_p [(0, 0, 0)] (q := 40) (ls' := [(2, 6), (0, a), (0, b)]) (st' := [(0, 0)]) (by decide +kernel) rfl ?_
    refine zwW_ret (nx := 41) (a := 1) (b := 0) (by decide +kernel) rfl (Or.inr (Or.inl ⟨rfl, Or.inl rfl⟩)) ?_
    exact ⟨rfl, Or.inr ⟨rfl, by omega⟩⟩
  · refine zwW_p [(1, 1, 0)] (q := 6) (ls' := [(2, 6), (0, a), (0, b)]) (st' := [(0, a)]) (by decide +kernel) rfl ?_
    refine zwW_cs (k' := 182) (n := 1) (nx := 9) (as := [(0, a)]) (st' := []) (by decide +kernel) rfl (x182 h C a (by omega)) rfl ?_
    rintro x _ ⟨rfl, ⟨rfl, c2⟩ | ⟨rfl, c2⟩⟩
    · refine zwif_eq (q := 39) (nx := 12) (by decide +kernel) (fun c3 => ?_) (fun c3 => ?_)
      · exfalso; omega
      · refine zwW_p [(1, 2, 0)] (q := 13) (ls' := [(2, 6), (0, a), (0, b)]) (st' := [(0, b)]) (by decide +kernel) rfl ?_
        refine zwW_cs (k' := 182) (n := 1) (nx := 16) (as := [(0, b)]) (st' := []) (by decide +kernel) rfl (x182 h C b (by omega)) rfl ?_
        rintro x _ ⟨rfl, ⟨rfl, c4⟩ | ⟨rfl, c4⟩⟩
        · refine zwif_eq (q := 39) (nx := 19) (by decide +kernel) (fun c5 => ?_) (fun c5 => ?_)
          · exfalso; omega
          · refine zwW_p [(1, 0, 2)] (q := 20) (ls' := [(2, 6), (0, a), (0, b)]) (st' := [(2, 6)]) (by decide +kernel) rfl ?_
            refine zwW_gc C.1 (kd := 8) (bn := 0) (n := 2) (c := 7) (nx := 23) (by decide +kernel) ?_
            refine zwW_p [(1, 1, 0), (0, 8, 0)] (q := 26) (ls' := [(2, 6), (0, a), (0, b)]) (st' := [(0, 8), (0, a), (2, 7)]) (by decide +kernel) rfl ?_
            refine zwW_mul (nx := 27) (by decide +kernel) (by first | omega | exact ⟨by omega, by omega⟩) ?_
            refine zwW_p [(1, 2, 0)] (q := 28) (ls' := [(2, 6), (0, a), (0, b)]) (st' := [(0, b), (0, (a * 8)), (2, 7)]) (by decide +kernel) rfl ?_
            refine zwW_add (nx := 29) (by decide +kernel) (by first | omega | exact ⟨by omega, by omega⟩) ?_
            have ib1 : 0 ≤ ((a * 8) + b) ∧ ((a * 8) + b) < ((64 : Nat) : Int) := (by first | omega | exact ⟨by omega, by omega⟩)
            refine zwW_al C.1 (a1 := 7) (a2 := 7) (kd := 20) (n := 64) (t := 0) (lo := -2147483648) (hi := 2147483647) (nx := 30) (by decide +kernel) (by first | decide | exact ⟨by decide, by decide⟩) ib1 ?_
            intro v6 ev6 lv6 uv6
            have I30 : v6 = fld h 7 (8 * a.toNat + b.toNat) := by rw [ev6]; congr 1; omega
            refine zwW_p [(0, 1000000, 0)] (q := 32) (ls' := [(2, 6), (0, a), (0, b)]) (st' := [(0, 1000000), (0, v6)]) (by decide +kernel) rfl ?_
            refine zwic_ge (q := 39) (nx := 35) (by decide +kernel) (fun c7 => ?_) (fun c7 => ?_)
            · refine zwW_p [(0, 0, 0)] (q := 40) (ls' := [(2, 6), (0, a), (0, b)]) (st' := [(0, 0)]) (by decide +kernel) rfl ?_
              refine zwW_ret (nx := 41) (a := 1) (b := 0) (by decide +kernel) rfl (Or.inr (Or.inl ⟨rfl, Or.inl rfl⟩)) ?_
              exact ⟨rfl, Or.inr ⟨rfl, by omega⟩⟩
            · refine zwW_p [(0, 1, 0), (24, 40, 0)] (q := 40) (ls' := [(2, 6), (0, a), (0, b)]) (st' := [(0, 1)]) (by decide +kernel) rfl ?_
              refine zwW_ret (nx := 41) (a := 1) (b := 0) (by decide +kernel) rfl (Or.inr (Or.inl ⟨rfl, Or.inr rfl⟩)) ?_
              exact ⟨rfl, Or.inl ⟨rfl, by omega⟩⟩
        · refine zwif_eq (q := 39) (nx := 19) (by decide +kernel) (fun c8 => ?_) (fun c8 => ?_)
          · refine zwW_p [(0, 0, 0)] (q := 40) (ls' := [(2, 6), (0, a), (0, b)]) (st' := [(0, 0)]) (by decide +kernel) rfl ?_
            refine zwW_ret (nx := 41) (a := 1) (b := 0) (by decide +kernel) rfl (Or.inr (Or.inl ⟨rfl, Or.inl rfl⟩)) ?_
            exact ⟨rfl, Or.inr ⟨rfl, by omega⟩⟩
          · exfalso; omega
    · refine zwif_eq (q := 39) (nx := 12) (by decide +kernel) (fun c9 => ?_) (fun c9 => ?_)
      · refine zwW_p [(0, 0, 0)] (q := 40) (ls' := [(2, 6), (0, a), (0, b)]) (st' := [(0, 0)]) (by decide +kernel) rfl ?_
        refine zwW_ret (nx := 41) (a := 1) (b := 0) (by decide +kernel) rfl (Or.inr (Or.inl ⟨rfl, Or.inl rfl⟩)) ?_
        exact ⟨rfl, Or.inr ⟨rfl, by omega⟩⟩
      · exfalso; omega
def msx187_z : Zms := [(36, 36, 0, 8), (1011, 1011, 4, 5)]
-- WheelLand.spreadWord()V
theorem x187_z {sc : List Int} (h : Hp) (C : CI h) (J : yR h) (W : zLw h) : zwC sc 5 187 [(2, 1)] h (zwRv (fun g => CI g ∧ zXR msx187_z (0) (0) h g ∧ (yC g = yWrA (yC h)) ∧ (yR g))) := by
  refine zwC_of (D := 4) 5 (by decide +kernel) rfl (ls := [(2, 1), (9, 0), (9, 0), (9, 0), (9, 0)]) rfl ?_
  have X : zXR msx187_z 0 0 h h := zXR.rf _ _
  have u0 : yC h 37 0 = fld h 1 0 := rfl
  have u1 : yC h 37 1 = fld h 2 2 := rfl
  have u2 : yC h 37 2 = fld h 3 2 := rfl
  have u64 : yC h 37 64 = fld h 4 2 := rfl
  have u78 : yC h 37 78 = fld h 5 2 := rfl
  have b22 := zLb_2 C
  refine zwW_p [(1, 0, 2)] (q := 1) (ls' := [(2, 1), (9, 0), (9, 0), (9, 0), (9, 0)]) (st' := [(2, 1)]) (by decide +kernel) rfl ?_
  refine zwW_gc C.1 (kd := 12) (bn := 2) (n := 13) (c := 2) (nx := 4) (by decide +kernel) ?_
  refine zwW_cm C.1 (op := 60) (k' := 96) (n := 0) (kd := 0) (m := 3) (nx := 7) (r := 2) (tl := []) (st' := []) (by decide +kernel) rfl (by decide +kernel) rfl (x96_2 C) ?_
  rintro v1 _ ⟨rfl, ev1⟩
  have bv1 := zLb_2 C
  have sv1 : v1 = (yC h) 37 1 := Eq.trans ev1 (Eq.trans (Eq.symm (yC_s (h := h) (i := 1) rfl)) (Eq.trans (congrFun (congrFun (rfl : yC h = yC h) 37) 1) rfl))
  refine zwW_p [(1, 0, 2)] (q := 8) (ls' := [(2, 1), (9, 0), (9, 0), (9, 0), (9, 0)]) (st' := [(2, 1), (0, v1)]) (by decide +kernel) rfl ?_
  refine zwW_gc C.1 (kd := 12) (bn := 12) (n := 13) (c := 36) (nx := 11) (by decide +kernel) ?_
  refine zwW_len (kd := 20) (n := 8) (nx := 12) (by decide +kernel) (C.1.s (a1 := 36) (a2 := 36) (by decide +kernel) (by omega) (by omega)) rfl ?_
  refine zwW_min (nx := 15) (by decide +kernel) rfl ?_
  intro v2 ev2
  have Ev2 : v2 = min ((yC h) 37 1) 8 := by first | (rw [ev2, sv1]; done) | (rw [ev2, sv1]; rfl)
  refine zwW_p [(2, 1, 0), (0, 0, 0), (2, 2, 0)] (q := 18) (ls' := [(2, 1), (0, v2), (0, 0), (9, 0), (9, 0)]) (st' := []) (by decide +kernel) rfl ?_
  have L3 : ∀ (n0 : Nat) (kL3 : Int) (hL3 : Hp), n0 = ((1000 - kL3)).toNat → (zLw hL3) → (∀ j : Nat, (j : Int) < kL3 → fld hL3 36 j = (yC h) 72 j) → (kL3 ≤ v2 ∧ fld hL3 2 2 = fld h 2 2) → (0 ≤ kL3 ∧ kL3 ≤ 8) → (yC hL3 = (yC h)) → (yR hL3) → CI hL3 → zXR msx187_z (0) (0) h hL3 → zwW sc (4) 187 18 [(2, 1), (0, v2), (0, kL3), (9, 0), (9, 0)] [] hL3 (zwRv (fun g => CI g ∧ zXR msx187_z (0) (0) h g ∧ (yC g = yWrA (yC h)) ∧ (yR g))) := by
    intro n0
    induction n0 using Nat.strongRecOn with
    | ind n0 IHL3 =>
      intro kL3 hL3 hnL3 iL3_0 iL3_1 iL3_2 iL3_3 iL3_4 iL3_5 ChL3 XhL3
      refine zwW_p [(1, 2, 0), (1, 1, 0)] (q := 20) (ls' := [(2, 1), (0, v2), (0, kL3), (9, 0), (9, 0)]) (st' := [(0, v2), (0, kL3)]) (by decide +kernel) rfl ?_
      refine zwic_ge (q := 49) (nx := 23) (by decide +kernel) (fun c4 => ?_) (fun c4 => ?_)
      · refine zwW_p [(0, 0, 0), (2, 2, 0)] (q := 51) (ls' := [(2, 1), (0, v2), (0, 0), (9, 0), (9, 0)]) (st' := []) (by decide +kernel) rfl ?_
        have L5 : ∀ (n0 : Nat) (vL5 : Int) (w3L5 w4L5 : Vl) (hL5 : Hp), n0 = ((1000 - vL5)).toNat → (zLw hL5) → (∀ j : Nat, (j : Int) < v2 → fld hL5 36 j = (yC h) 72 j) → (vL5 ≤ v2 ∧ fld hL5 2 2 = fld h 2 2) → (0 ≤ vL5 ∧ vL5 ≤ 8) → (yC hL5 = (yWds (yC h) (v2).toNat (vL5).toNat)) → (yR hL5) → CI hL5 → zXR msx187_z (0) (0) h hL5 → zwW sc (4) 187 51 [(2, 1), (0, v2), (0, vL5), w3L5, w4L5] [] hL5 (zwRv (fun g => CI g ∧ zXR msx187_z (0) (0) h g ∧ (yC g = yWrA (yC h)) ∧ (yR g))) := by
          intro n0
          induction n0 using Nat.strongRecOn with
          | ind n0 IHL5 =>
            intro vL5 w3L5 w4L5 hL5 hnL5 iL5_0 iL5_1 iL5_2 iL5_3 iL5_4 iL5_5 ChL5 XhL5
            refine zwW_p [(1, 2, 0), (1, 1, 0)] (q := 53) (ls' := [(2, 1), (0, v2), (0, vL5), w3L5, w4L5]) (st' := [(0, v2), (0, vL5)]) (by decide +kernel) rfl ?_
            refine zwic_ge (q := 132) (nx := 56) (by decide +kernel) (fun c6 => ?_) (fun c6 => ?_)
            · refine zwW_retv (nx := 133) (a := 0) (b := 0) (by decide +kernel) ?_
              exact ⟨ChL5, XhL5.le (by decide) (by decide), by refine Eq.trans iL5_4 ?_; unfold yWrA; rw [show (yC h 37 1).toNat = (v2).toNat by omega, show (vL5).toNat = (v2).toNat by omega], by exact iL5_5⟩
            · refine zwW_p [(1, 0, 2)] (q := 57) (ls' := [(2, 1), (0, v2), (0, vL5), w3L5, w4L5]) (st' := [(2, 1)]) (by decide +kernel) rfl ?_
              refine zwW_gc ChL5.1 (kd := 12) (bn := 12) (n := 13) (c := 36) (nx := 60) (by decide +kernel) ?_
              refine zwW_p [(1, 2, 0)] (q := 61) (ls' := [(2, 1), (0, v2), (0, vL5), w3L5, w4L5]) (st' := [(0, vL5), (2, 36)]) (by decide +kernel) rfl ?_
              have ib1 : 0 ≤ vL5 ∧ vL5 < ((8 : Nat) : Int) := (by first | omega | exact ⟨by omega, by omega⟩)
              refine zwW_al ChL5.1 (a1 := 36) (a2 := 36) (kd := 20) (n := 8) (t := 0) (lo := -2147483648) (hi := 2147483647) (nx := 62) (by decide +kernel) (by first | decide | exact ⟨by decide, by decide⟩) ib1 ?_
              intro v7 ev7 lv7 uv7
              have I62 : v7 = (yC h) 72 (vL5).toNat := ev7.trans (iL5_1 _ (by omega))
              refine zwW_p [(0, 1, 0)] (q := 63) (ls' := [(2, 1), (0, v2), (0, vL5), w3L5, w4L5]) (st' := [(0, 1), (0, v7)]) (by decide +kernel) rfl ?_
              refine zwW_sbw (nx := 64) (by decide +kernel) ?_
              intro v8 ev8 lv8 uv8
              have I64 : v8 = w32 ((yC h) 72 (vL5).toNat - 1) := by rw [ev8, I62]
              refine zwW_p [(0, 0, 0)] (q := 65) (ls' := [(2, 1), (0, v2), (0, vL5), w3L5, w4L5]) (st' := [(0, 0), (0, v8)]) (by decide +kernel) rfl ?_
              refine zwW_max (nx := 68) (by decide +kernel) rfl ?_
              intro v9 ev9
              have Ev9 : v9 = max (w32 (v7 - 1)) 0 := by first | (rw [ev9, ev8]; done) | (rw [ev9, ev8]; rfl)
              refine zwW_p [(2, 3, 0), (0, 0, 0), (2, 4, 0)] (q := 72) (ls' := [(2, 1), (0, v2), (0, vL5), (0, v9), (0, 0)]) (st' := []) (by decide +kernel) rfl ?_
              have L10 : ∀ (n0 : Nat) (mL10 uL10 : Int), n0 = ((1000 - uL10)).toNat → (mL10 = yWm (yC h) (vL5).toNat (uL10).toNat) → (uL10 ≤ v2) → (-2147483648 ≤ mL10 ∧ mL10 ≤ 2147483647) → (0 ≤ uL10 ∧ uL10 ≤ 8) → zwW sc (4) 187 72 [(2, 1), (0, v2), (0, vL5), (0, mL10), (0, uL10)] [] hL5 (zwRv (fun g => CI g ∧ zXR msx187_z (0) (0) h g ∧ (yC g = yWrA (yC h)) ∧ (yR g))) := by
                intro n0
                induction n0 using Nat.strongRecOn with
                | ind n0 IHL10 =>
                  intro mL10 uL10 hnL10 iL10_0 iL10_1 iL10_2 iL10_3
                  refine zwW_p [(1, 4, 0), (1, 1, 0)] (q := 75) (ls' := [(2, 1), (0, v2), (0, vL5), (0, mL10), (0, uL10)]) (st' := [(0, v2), (0, uL10)]) (by decide +kernel) rfl ?_
                  refine zwic_ge (q := 111) (nx := 78) (by decide +kernel) (fun c11 => ?_) (fun c11 => ?_)
                  · refine zwW_p [(1, 0, 2)] (q := 112) (ls' := [(2, 1), (0, v2), (0, vL5), (0, mL10), (0, uL10)]) (st' := [(2, 1)]) (by decide +kernel) rfl ?_
                    refine zwW_gc ChL5.1 (kd := 12) (bn := 2) (n := 13) (c := 2) (nx := 115) (by decide +kernel) ?_
                    refine zwW_p [(1, 2, 0)] (q := 116) (ls' := [(2, 1), (0, v2), (0, vL5), (0, mL10), (0, uL10)]) (st' := [(0, vL5), (2, 2)]) (by decide +kernel) rfl ?_
                    refine zwW_cm ChL5.1 (op := 60) (k' := 123) (n := 1) (kd := 0) (m := 3) (nx := 119) (r := 2) (tl := [(0, vL5)]) (st' := []) (by decide +kernel) rfl (by decide +kernel) rfl (x123_2 ChL5 (i := vL5) (by first | omega | exact ⟨by omega, by omega⟩)) ?_
                    rintro v12 _ ⟨rfl, Gv12, ev12⟩
                    have lv12 := Gv12.1
                    have pv12 : v12 = zv hL5 2 vL5.toNat ∧ ((vL5.toNat : Nat) : Int) < fld hL5 2 2 := ⟨ev12, by omega⟩
                    refine zwW_cast (a := 11) (kd := 11) (n := 17) (nx := 122) (by decide +kernel) rfl (Or.inr Gv12.2.1) ?_
                    refine zwW_p [(1, 3, 0)] (q := 123) (ls' := [(2, 1), (0, v2), (0, vL5), (0, mL10), (0, uL10)]) (st' := [(0, mL10), (2, v12)]) (by decide +kernel) rfl ?_
                    refine zwX_pi ChL5 (kd := 11) (bn := 4) (n := 17) (nx := 126) (by decide +kernel) Gv12.2.1 Gv12.1 (by first | omega | exact ⟨by omega, by omega⟩) ?_
                    rintro h13 eh13 Ch13 Qh13
                    have Zh13 : yC h13 = (zs (yWds (yC h) (v2).toNat (vL5).toNat) 72 vL5.toNat mL10) := by rw [yC_w (a := 72) (A := 2) (j := 4) (k := vL5.toNat) ChL5 iL5_5 rfl pv12 eh13, iL5_4]
                    have Xh13 : zXR msx187_z (0) (0) h h13 := XhL5.tr (c2 := 0) (s2 := 0) Qh13 (by decide +kernel) (by decide) (by decide)
                    have Jh13 : yR h13 := iL5_5.fr ChL5 Qh13 (by decide +kernel)
                    have th13_2_2 : fld h13 2 2 = fld hL5 2 2 := Qh13.f (a1 := 2) (a2 := 2) (j1 := 2) (j2 := 3) (by decide +kernel) (by first | decide | exact ⟨by decide, by decide⟩) (by first | decide | exact ⟨by decide, by decide⟩) (by first | decide | exact ⟨by decide, by decide⟩)
                    have Wh13 : zLw h13 := iL5_0.fr Qh13 (by decide +kernel)
                    refine zwW_inc (i := 2) (c := 1) (x := vL5) (nx := 129) (by decide +kernel) rfl (by first | omega | exact ⟨by omega, by omega⟩) (ls' := [(2, 1), (0, v2), (0, (vL5 + 1)), (0, mL10), (0, uL10)]) rfl ?_
                    refine zwW_p [(24, 51, 0)] (q := 51) (ls' := [(2, 1), (0, v2), (0, (vL5 + 1)), (0, mL10), (0, uL10)]) (st' := []) (by decide +kernel) rfl ?_
                    exact IHL5 ((1000 - (vL5 + 1))).toNat (by omega) (vL5 + 1) (0, mL10) (0, uL10) h13 rfl (Wh13) (fun j hj => by rw [congrFun (show fld h13 36 = fld hL5 36 from Qh13.fa (a := 36) (by decide +kernel) (by decide)) j]; exact iL5_1 j hj) (by omega) (by omega) (by rw [show (vL5 + 1).toNat = (vL5).toNat + 1 by omega, yWds_s]; exact Zh13.trans (zs_cg rfl rfl (by rw [iL10_0, show (uL10).toNat = (v2).toNat by omega]))) (Jh13) Ch13 (Xh13.le (by decide) (by decide))
                  · refine zwW_p [(1, 0, 2)] (q := 79) (ls' := [(2, 1), (0, v2), (0, vL5), (0, mL10), (0, uL10)]) (st' := [(2, 1)]) (by decide +kernel) rfl ?_
                    refine zwW_gc ChL5.1 (kd := 12) (bn := 6) (n := 13) (c := 6) (nx := 82) (by decide +kernel) ?_
                    refine zwW_p [(1, 2, 0), (1, 4, 0)] (q := 85) (ls' := [(2, 1), (0, v2), (0, vL5), (0, mL10), (0, uL10)]) (st' := [(0, uL10), (0, vL5), (2, 6)]) (by decide +kernel) rfl ?_
                    have J85 : yC hL5 48 (8 * (vL5).toNat + (uL10).toNat) = (yC h) 48 (8 * (vL5).toNat + (uL10).toNat) := by rw [iL5_4]; exact yWds_n (by decide) _
                    refine zwW_cm ChL5.1 (op := 60) (k' := 233) (n := 2) (kd := 8) (m := 2) (nx := 88) (r := 6) (tl := [(0, vL5), (0, uL10)]) (st' := []) (by decide +kernel) rfl (by decide +kernel) rfl (x233_z hL5 ChL5 vL5 uL10 (by omega) (by omega) iL5_0 (by first | omega | exact ⟨by omega, by omega⟩) (by first | omega | exact ⟨by omega, by omega⟩)) ?_
                    rintro x _ ⟨rfl, ⟨rfl, c14⟩ | ⟨rfl, c14⟩⟩
                    · refine zwif_eq (q := 105) (nx := 91) (by decide +kernel) (fun c15 => ?_) (fun c15 => ?_)
                      · exfalso; omega
                      · refine zwW_p [(1, 3, 0), (1, 0, 2)] (q := 93) (ls' := [(2, 1), (0, v2), (0, vL5), (0, mL10), (0, uL10)]) (st' := [(2, 1), (0, mL10)]) (by decide +kernel) rfl ?_
                        refine zwW_gc ChL5.1 (kd := 12) (bn := 12) (n := 13) (c := 36) (nx := 96) (by decide +kernel) ?_
                        refine zwW_p [(1, 4, 0)] (q := 98) (ls' := [(2, 1), (0, v2), (0, vL5), (0, mL10), (0, uL10)]) (st' := [(0, uL10), (2, 36), (0, mL10)]) (by decide +kernel) rfl ?_
                        have ib2 : 0 ≤ uL10 ∧ uL10 < ((8 : Nat) : Int) := (by first | omega | exact ⟨by omega, by omega⟩)
                        refine zwW_al ChL5.1 (a1 := 36) (a2 := 36) (kd := 20) (n := 8) (t := 0) (lo := -2147483648) (hi := 2147483647) (nx := 99) (by decide +kernel) (by first | decide | exact ⟨by decide, by decide⟩) ib2 ?_
                        intro v16 ev16 lv16 uv16
                        have I99 : v16 = (yC h) 72 (uL10).toNat := ev16.trans (iL5_1 _ (by omega))
                        refine zwW_p [(0, 2, 0)] (q := 100) (ls' := [(2, 1), (0, v2), (0, vL5), (0, mL10), (0, uL10)]) (st' := [(0, 2), (0, v16), (0, mL10)]) (by decide +kernel) rfl ?_
                        refine zwW_sbw (nx := 101) (by decide +kernel) ?_
                        intro v17 ev17 lv17 uv17
                        have I101 : v17 = w32 ((yC h) 72 (uL10).toNat - 2) := by rw [ev17, I99]
                        refine zwW_max (nx := 104) (by decide +kernel) rfl ?_
                        intro v18 ev18
                        have Ev18 : v18 = max mL10 (w32 (v16 - 2)) := by first | (rw [ev18, ev17]; done) | (rw [ev18, ev17]; rfl)
                        refine zwW_p [(2, 3, 0)] (q := 105) (ls' := [(2, 1), (0, v2), (0, vL5), (0, v18), (0, uL10)]) (st' := []) (by decide +kernel) rfl ?_
                        refine zwW_inc (i := 4) (c := 1) (x := uL10) (nx := 108) (by decide +kernel) rfl (by first | omega | exact ⟨by omega, by omega⟩) (ls' := [(2, 1), (0, v2), (0, vL5), (0, v18), (0, (uL10 + 1))]) rfl ?_
                        refine zwW_p [(24, 72, 0)] (q := 72) (ls' := [(2, 1), (0, v2), (0, vL5), (0, v18), (0, (uL10 + 1))]) (st' := []) (by decide +kernel) rfl ?_
                        exact IHL10 ((1000 - (uL10 + 1))).toNat (by omega) v18 (uL10 + 1) rfl (by rw [show (uL10 + 1).toNat = (uL10).toNat + 1 by omega, yWm_s]; first | (rw [if_pos (by omega), ← iL10_0, ← I101]; omega) | (rw [if_neg (by omega)]; exact iL10_0)) (by omega) (by omega) (by omega)
                    · refine zwif_eq (q := 105) (nx := 91) (by decide +kernel) (fun c19 => ?_) (fun c19 => ?_)
                      · refine zwW_inc (i := 4) (c := 1) (x := uL10) (nx := 108) (by decide +kernel) rfl (by first | omega | exact ⟨by omega, by omega⟩) (ls' := [(2, 1), (0, v2), (0, vL5), (0, mL10), (0, (uL10 + 1))]) rfl ?_
                        refine zwW_p [(24, 72, 0)] (q := 72) (ls' := [(2, 1), (0, v2), (0, vL5), (0, mL10), (0, (uL10 + 1))]) (st' := []) (by decide +kernel) rfl ?_
                        exact IHL10 ((1000 - (uL10 + 1))).toNat (by omega) mL10 (uL10 + 1) rfl (by rw [show (uL10 + 1).toNat = (uL10).toNat + 1 by omega, yWm_s]; first | (rw [if_pos (by omega), ← iL10_0, ← I101]; omega) | (rw [if_neg (by omega)]; exact iL10_0)) (by omega) (by omega) (by omega)
                      · exfalso; omega
              exact L10 _ v9 0 rfl (by show _ = max _ _; rw [← I64]; omega) (by omega) (by omega) (by omega)
        exact L5 _ 0 (9, 0) (9, 0) hL3 rfl (iL3_0) (fun j hj => iL3_1 j (by omega)) (by omega) (by omega) (iL3_4) (iL3_5) ChL3 (XhL3.le (by decide) (by decide))
      · refine zwW_p [(1, 0, 2)] (q := 24) (ls' := [(2, 1), (0, v2), (0, kL3), (9, 0), (9, 0)]) (st' := [(2, 1)]) (by decide +kernel) rfl ?_
        refine zwW_gc ChL3.1 (kd := 12) (bn := 12) (n := 13) (c := 36) (nx := 27) (by decide +kernel) ?_
        refine zwW_p [(1, 2, 0), (1, 0, 2)] (q := 29) (ls' := [(2, 1), (0, v2), (0, kL3), (9, 0), (9, 0)]) (st' := [(2, 1), (0, kL3), (2, 36)]) (by decide +kernel) rfl ?_
        refine zwW_gc ChL3.1 (kd := 12) (bn := 2) (n := 13) (c := 2) (nx := 32) (by decide +kernel) ?_
        refine zwW_p [(1, 2, 0)] (q := 33) (ls' := [(2, 1), (0, v2), (0, kL3), (9, 0), (9, 0)]) (st' := [(0, kL3), (2, 2), (0, kL3), (2, 36)]) (by decide +kernel) rfl ?_
        refine zwW_cm ChL3.1 (op := 60) (k' := 123) (n := 1) (kd := 0) (m := 3) (nx := 36) (r := 2) (tl := [(0, kL3)]) (st' := [(0, kL3), (2, 36)]) (by decide +kernel) rfl (by decide +kernel) rfl (x123_2 ChL3 (i := kL3) (by first | omega | exact ⟨by omega, by omega⟩)) ?_
        rintro v20 _ ⟨rfl, Gv20, ev20⟩
        have lv20 := Gv20.1
        have pv20 : v20 = zv hL3 2 kL3.toNat ∧ ((kL3.toNat : Nat) : Int) < fld hL3 2 2 := ⟨ev20, by omega⟩
        refine zwW_cast (a := 11) (kd := 11) (n := 17) (nx := 39) (by decide +kernel) rfl (Or.inr Gv20.2.1) ?_
        refine zwX_gi ChL3 (kd := 11) (bn := 4) (n := 17) (nx := 42) (by decide +kernel) Gv20.2.1 Gv20.1 rfl ?_
        intro v21 ev21 lv21 uv21
        have sv21 : v21 = (yC h) 72 kL3.toNat := Eq.trans ev21 (Eq.trans (congrArg (fun q => fld hL3 q 4) pv20.1) (Eq.trans (Eq.symm (yC_f (h := hL3) (a := 72) (A := 2) (j := 4) (i := kL3.toNat) rfl pv20.2)) (Eq.trans (congrFun (congrFun iL3_4 72) kL3.toNat) rfl)))
        have ib3 : 0 ≤ kL3 ∧ kL3 < ((8 : Nat) : Int) := (by first | omega | exact ⟨by omega, by omega⟩)
        refine zwW_as ChL3.1 (a1 := 36) (a2 := 36) (n := 8) (lo := -2147483648) (hi := 2147483647) (nx := 43) (by decide +kernel) (by first | decide | exact ⟨by decide, by decide⟩) ib3 (by first | omega | exact ⟨by omega, by omega⟩) ?_
        intro h22 eh22 Ih22
        have Ch22 : CI h22 := ChL3.wc eh22 Ih22 (by decide) (by decide)
        have Qh22 : zXR [(36, 36, 0, 8)] 0 0 hL3 h22 := zXR.wc eh22 rfl ⟨by decide, by decide, Or.inl (by decide)⟩ (by first | omega | exact ⟨by omega, by omega⟩)
        have W42 := rw_w iL3_1 eh22 (ChL3.1.s (a1 := 36) (a2 := 36) (k := 20) (n := 8) (by decide +kernel) (by decide) (by decide)) (by first | omega | exact ⟨by omega, by omega⟩) sv21
        have Xh22 : zXR msx187_z (0) (0) h h22 := XhL3.tr (c2 := 0) (s2 := 0) Qh22 (by decide +kernel) (by decide) (by decide)
        have Zh22 : yC h22 = (yC h) := (yC_fr ChL3 Qh22 (by decide +kernel) (ChL3.1.b (a1 := 37) (a2 := 37) (j1 := 86) (j2 := 87) (lo := 0) (hi := 6) (by decide +kernel) (r := 37) (j := 86) (by decide) (by decide) (by decide) (by decide)).2).trans iL3_4
        have Jh22 : yR h22 := iL3_5.fr ChL3 Qh22 (by decide +kernel)
        have th22_2_2 : fld h22 2 2 = fld hL3 2 2 := Qh22.f (a1 := 2) (a2 := 2) (j1 := 2) (j2 := 3) (by decide +kernel) (by first | decide | exact ⟨by decide, by decide⟩) (by first | decide | exact ⟨by decide, by decide⟩) (by first | decide | exact ⟨by decide, by decide⟩)
        have Wh22 : zLw h22 := iL3_0.fr Qh22 (by decide +kernel)
        refine zwW_inc (i := 2) (c := 1) (x := kL3) (nx := 46) (by decide +kernel) rfl (by first | omega | exact ⟨by omega, by omega⟩) (ls' := [(2, 1), (0, v2), (0, (kL3 + 1)), (9, 0), (9, 0)]) rfl ?_
        refine zwW_p [(24, 18, 0)] (q := 18) (ls' := [(2, 1), (0, v2), (0, (kL3 + 1)), (9, 0), (9, 0)]) (st' := []) (by decide +kernel) rfl ?_
        exact IHL3 ((1000 - (kL3 + 1))).toNat (by omega) (kL3 + 1) h22 rfl (Wh22) (W42) (by omega) (by omega) (Zh22) (Jh22) Ch22 (Xh22.le (by decide) (by decide))
  exact L3 _ 0 h rfl (W) (fun j hj => by omega) (by omega) (by omega) ((rfl : yC h = yC h)) (J) C (X.le (by decide) (by decide))
-- WheelLand.cottonOfAll()I
theorem x190_z {sc : List Int} (h : Hp) (C : CI h) (J : yR h) : zwC sc 5 190 [(2, 1)] h (zwRt 0 (fun x g => h = g ∧ (-2147483648 ≤ x ∧ x ≤ 2147483647) ∧ (x = ySmCA (yC h)))) := by
  refine zwC_of (D := 4) 3 (by decide +kernel) rfl (ls := [(2, 1), (9, 0), (9, 0)]) rfl ?_
  have u0 : yC h 37 0 = fld h 1 0 := rfl
  have u1 : yC h 37 1 = fld h 2 2 := rfl
  have u2 : yC h 37 2 = fld h 3 2 := rfl
  have u64 : yC h 37 64 = fld h 4 2 := rfl
  have u78 : yC h 37 78 = fld h 5 2 := rfl
  have b0 := zLb_2 C
  refine zwW_p [(0, 0, 0), (2, 1, 0), (0, 0, 0), (2, 2, 0)] (q := 4) (ls' := [(2, 1), (0, 0), (0, 0)]) (st' := []) (by decide +kernel) rfl ?_
  have L1 : ∀ (n0 : Nat) (tL1 vL1 : Int), n0 = ((1000 - vL1)).toNat → (tL1 = ySmC (yC h) (vL1).toNat) → (vL1 ≤ fld h 2 2) → (-2147483648 ≤ tL1 ∧ tL1 ≤ 2147483647) → (0 ≤ vL1 ∧ vL1 ≤ 8) → zwW sc (4) 190 4 [(2, 1), (0, tL1), (0, vL1)] [] h (zwRt 0 (fun x g => h = g ∧ (-2147483648 ≤ x ∧ x ≤ 2147483647) ∧ (x = ySmCA (yC h)))) := by
    intro n0
    induction n0 using Nat.strongRecOn with
    | ind n0 IHL1 =>
      intro tL1 vL1 hnL1 iL1_0 iL1_1 iL1_2 iL1_3
      refine zwW_p [(1, 2, 0), (1, 0, 2)] (q := 6) (ls' := [(2, 1), (0, tL1), (0, vL1)]) (st' := [(2, 1), (0, vL1)]) (by decide +kernel) rfl ?_
      refine zwW_gc C.1 (kd := 12) (bn := 2) (n := 13) (c := 2) (nx := 9) (by decide +kernel) ?_
      refine zwW_cm C.1 (op := 60) (k' := 96) (n := 0) (kd := 0) (m := 3) (nx := 12) (r := 2) (tl := []) (st' := [(0, vL1)]) (by decide +kernel) rfl (by decide +kernel) rfl (x96_2 C) ?_
      rintro v2 _ ⟨rfl, ev2⟩
      have bv2 := zLb_2 C
      have sv2 : v2 = (yC h) 37 1 := Eq.trans ev2 (Eq.trans (Eq.symm (yC_s (h := h) (i := 1) rfl)) (Eq.trans (congrFun (congrFun (rfl : yC h = yC h) 37) 1) rfl))
      refine zwic_ge (q := 38) (nx := 15) (by decide +kernel) (fun c3 => ?_) (fun c3 => ?_)
      · refine zwW_p [(1, 1, 0)] (q := 39) (ls' := [(2, 1), (0, tL1), (0, vL1)]) (st' := [(0, tL1)]) (by decide +kernel) rfl ?_
        refine zwW_ret (nx := 40) (a := 0) (b := 0) (by decide +kernel) rfl (Or.inl rfl) ?_
        exact ⟨rfl, by omega, by unfold ySmCA; rw [show (yC h 37 1).toNat = (vL1).toNat by omega]; exact iL1_0⟩
      · refine zwW_p [(1, 1, 0), (1, 0, 2)] (q := 17) (ls' := [(2, 1), (0, tL1), (0, vL1)]) (st' := [(2, 1), (0, tL1)]) (by decide +kernel) rfl ?_
        refine zwW_gc C.1 (kd := 12) (bn := 2) (n := 13) (c := 2) (nx := 20) (by decide +kernel) ?_
        refine zwW_p [(1, 2, 0)] (q := 21) (ls' := [(2, 1), (0, tL1), (0, vL1)]) (st' := [(0, vL1), (2, 2), (0, tL1)]) (by decide +kernel) rfl ?_
        refine zwW_cm C.1 (op := 60) (k' := 123) (n := 1) (kd := 0) (m := 3) (nx := 24) (r := 2) (tl := [(0, vL1)]) (st' := [(0, tL1)]) (by decide +kernel) rfl (by decide +kernel) rfl (x123_2 C (i := vL1) (by first | omega | exact ⟨by omega, by omega⟩)) ?_
        rintro v4 _ ⟨rfl, Gv4, ev4⟩
        have lv4 := Gv4.1
        have pv4 : v4 = zv h 2 vL1.toNat ∧ ((vL1.toNat : Nat) : Int) < fld h 2 2 := ⟨ev4, by omega⟩
        refine zwW_cast (a := 11) (kd := 11) (n := 17) (nx := 27) (by decide +kernel) rfl (Or.inr Gv4.2.1) ?_
        refine zwX_gi C (kd := 11) (bn := 3) (n := 17) (nx := 30) (by decide +kernel) Gv4.2.1 Gv4.1 rfl ?_
        intro v5 ev5 lv5 uv5
        have sv5 : v5 = (yC h) 66 vL1.toNat := Eq.trans ev5 (Eq.trans (congrArg (fun q => fld h q 3) pv4.1) (Eq.trans (Eq.symm (yC_f (h := h) (a := 66) (A := 2) (j := 3) (i := vL1.toNat) rfl pv4.2)) (Eq.trans (congrFun (congrFun (rfl : yC h = yC h) 66) vL1.toNat) rfl)))
        refine zwW_adw (nx := 31) (by decide +kernel) ?_
        intro v6 ev6 lv6 uv6
        have Ev6 : v6 = w32 (tL1 + ((yC h) 66 vL1.toNat)) := by rw [ev6, sv5]
        refine zwW_p [(2, 1, 0)] (q := 32) (ls' := [(2, 1), (0, v6), (0, vL1)]) (st' := []) (by decide +kernel) rfl ?_
        refine zwW_inc (i := 2) (c := 1) (x := vL1) (nx := 35) (by decide +kernel) rfl (by first | omega | exact ⟨by omega, by omega⟩) (ls' := [(2, 1), (0, v6), (0, (vL1 + 1))]) rfl ?_
        refine zwW_p [(24, 4, 0)] (q := 4) (ls' := [(2, 1), (0, v6), (0, (vL1 + 1))]) (st' := []) (by decide +kernel) rfl ?_
        exact IHL1 ((1000 - (vL1 + 1))).toNat (by omega) v6 (vL1 + 1) rfl (by rw [show (vL1 + 1).toNat = (vL1).toNat + 1 by omega, ySmC_s, ← iL1_0, ← sv5]; assumption) (by omega) (by omega) (by omega)
  exact L1 _ 0 0 rfl (rfl) (by omega) (by omega) (by omega)
-- WheelLand.leftOfAll()I
theorem x191_z {sc : List Int} (h : Hp) (C : CI h) (J : yR h) : zwC sc 5 191 [(2, 1)] h (zwRt 0 (fun x g => h = g ∧ (-2147483648 ≤ x ∧ x ≤ 2147483647) ∧ (x = ySmLA (yC h)))) := by
  refine zwC_of (D := 4) 3 (by decide +kernel) rfl (ls := [(2, 1), (9, 0), (9, 0)]) rfl ?_
  have u0 : yC h 37 0 = fld h 1 0 := rfl
  have u1 : yC h 37 1 = fld h 2 2 := rfl
  have u2 : yC h 37 2 = fld h 3 2 := rfl
  have u64 : yC h 37 64 = fld h 4 2 := rfl
  have u78 : yC h 37 78 = fld h 5 2 := rfl
  have b0 := zLb_4 C
  refine zwW_p [(0, 0, 0), (2, 1, 0), (0, 0, 0), (2, 2, 0)] (q := 4) (ls' := [(2, 1), (0, 0), (0, 0)]) (st' := []) (by decide +kernel) rfl ?_
  have L1 : ∀ (n0 : Nat) (tL1 vL1 : Int), n0 = ((1000 - vL1)).toNat → (tL1 = ySmL (yC h) (vL1).toNat) → (vL1 ≤ fld h 4 2) → (-2147483648 ≤ tL1 ∧ tL1 ≤ 2147483647) → (0 ≤ vL1 ∧ vL1 ≤ 300) → zwW sc (4) 191 4 [(2, 1), (0, tL1), (0, vL1)] [] h (zwRt 0 (fun x g => h = g ∧ (-2147483648 ≤ x ∧ x ≤ 2147483647) ∧ (x = ySmLA (yC h)))) := by
    intro n0
    induction n0 using Nat.strongRecOn with
    | ind n0 IHL1 =>
      intro tL1 vL1 hnL1 iL1_0 iL1_1 iL1_2 iL1_3
      refine zwW_p [(1, 2, 0), (1, 0, 2)] (q := 6) (ls' := [(2, 1), (0, tL1), (0, vL1)]) (st' := [(2, 1), (0, vL1)]) (by decide +kernel) rfl ?_
      refine zwW_gc C.1 (kd := 12) (bn := 4) (n := 13) (c := 4) (nx := 9) (by decide +kernel) ?_
      refine zwW_cm C.1 (op := 60) (k' := 96) (n := 0) (kd := 0) (m := 3) (nx := 12) (r := 4) (tl := []) (st' := [(0, vL1)]) (by decide +kernel) rfl (by decide +kernel) rfl (x96_4 C) ?_
      rintro v2 _ ⟨rfl, ev2⟩
      have bv2 := zLb_4 C
      have sv2 : v2 = (yC h) 37 64 := Eq.trans ev2 (Eq.trans (Eq.symm (yC_s (h := h) (i := 64) rfl)) (Eq.trans (congrFun (congrFun (rfl : yC h = yC h) 37) 64) rfl))
      refine zwic_ge (q := 38) (nx := 15) (by decide +kernel) (fun c3 => ?_) (fun c3 => ?_)
      · refine zwW_p [(1, 1, 0)] (q := 39) (ls' := [(2, 1), (0, tL1), (0, vL1)]) (st' := [(0, tL1)]) (by decide +kernel) rfl ?_
        refine zwW_ret (nx := 40) (a := 0) (b := 0) (by decide +kernel) rfl (Or.inl rfl) ?_
        exact ⟨rfl, by omega, by unfold ySmLA; rw [show (yC h 37 64).toNat = (vL1).toNat by omega]; exact iL1_0⟩
      · refine zwW_p [(1, 1, 0), (1, 0, 2)] (q := 17) (ls' := [(2, 1), (0, tL1), (0, vL1)]) (st' := [(2, 1), (0, tL1)]) (by decide +kernel) rfl ?_
        refine zwW_gc C.1 (kd := 12) (bn := 4) (n := 13) (c := 4) (nx := 20) (by decide +kernel) ?_
        refine zwW_p [(1, 2, 0)] (q := 21) (ls' := [(2, 1), (0, tL1), (0, vL1)]) (st' := [(0, vL1), (2, 4), (0, tL1)]) (by decide +kernel) rfl ?_
        refine zwW_cm C.1 (op := 60) (k' := 123) (n := 1) (kd := 0) (m := 3) (nx := 24) (r := 4) (tl := [(0, vL1)]) (st' := [(0, tL1)]) (by decide +kernel) rfl (by decide +kernel) rfl (x123_4 C (i := vL1) (by first | omega | exact ⟨by omega, by omega⟩)) ?_
        rintro v4 _ ⟨rfl, Gv4, ev4⟩
        have lv4 := Gv4.1
        have pv4 : v4 = zv h 4 vL1.toNat ∧ ((vL1.toNat : Nat) : Int) < fld h 4 2 := ⟨ev4, by omega⟩
        refine zwW_cast (a := 6) (kd := 6) (n := 7) (nx := 27) (by decide +kernel) rfl (Or.inr Gv4.2.1) ?_
        refine zwX_gi C (kd := 6) (bn := 6) (n := 7) (nx := 30) (by decide +kernel) Gv4.2.1 Gv4.1 rfl ?_
        intro v5 ev5 lv5 uv5
        have sv5 : v5 = (yC h) 175 vL1.toNat := Eq.trans ev5 (Eq.trans (congrArg (fun q => fld h q 6) pv4.1) (Eq.trans (Eq.symm (yC_f (h := h) (a := 175) (A := 4) (j := 6) (i := vL1.toNat) rfl pv4.2)) (Eq.trans (congrFun (congrFun (rfl : yC h = yC h) 175) vL1.toNat) rfl)))
        refine zwW_adw (nx := 31) (by decide +kernel) ?_
        intro v6 ev6 lv6 uv6
        have Ev6 : v6 = w32 (tL1 + ((yC h) 175 vL1.toNat)) := by rw [ev6, sv5]
        refine zwW_p [(2, 1, 0)] (q := 32) (ls' := [(2, 1), (0, v6), (0, vL1)]) (st' := []) (by decide +kernel) rfl ?_
        refine zwW_inc (i := 2) (c := 1) (x := vL1) (nx := 35) (by decide +kernel) rfl (by first | omega | exact ⟨by omega, by omega⟩) (ls' := [(2, 1), (0, v6), (0, (vL1 + 1))]) rfl ?_
        refine zwW_p [(24, 4, 0)] (q := 4) (ls' := [(2, 1), (0, v6), (0, (vL1 + 1))]) (st' := []) (by decide +kernel) rfl ?_
        exact IHL1 ((1000 - (vL1 + 1))).toNat (by omega) v6 (vL1 + 1) rfl (by rw [show (vL1 + 1).toNat = (vL1).toNat + 1 by omega, ySmL_s, ← iL1_0, ← sv5]; assumption) (by omega) (by omega) (by omega)
  exact L1 _ 0 0 rfl (rfl) (by omega) (by omega) (by omega)
def msx192_z : Zms := [(34, 34, 2, 3), (35, 35, 0, 936)]
-- WheelLand$Ledger.close(IIII)V
theorem x192_z {sc : List Int} (h : Hp) (C : CI h) (a b c d : Int) (q_a : -2147483648 ≤ a ∧ a ≤ 2147483647) (q_b : -2147483648 ≤ b ∧ b ≤ 2147483647) (q_c : -2147483648 ≤ c ∧ c ≤ 2147483647) (q_d : -2147483648 ≤ d ∧ d ≤ 2147483647) (J : yR h) (p1 : 0 ≤ a ∧ a ≤ 155) : zwC sc 1 192 [(2, 34), (0, a), (0, b), (0, c), (0, d)] h (zwRv (fun g => CI g ∧ zXR msx192_z (0) (0) h g ∧ (yC g = yClo (yC h) a.toNat b c d) ∧ (yR g))) := by
  refine zwC_of (D := 0) 6 (by decide +kernel) rfl (ls := [(2, 34), (0, a), (0, b), (0, c), (0, d), (9, 0)]) rfl ?_
  have X : zXR msx192_z 0 0 h h := zXR.rf _ _
  have u0 : yC h 37 0 = fld h 1 0 := rfl
  have u1 : yC h 37 1 = fld h 2 2 := rfl
  have u2 : yC h 37 2 = fld h 3 2 := rfl
  have u64 : yC h 37 64 = fld h 4 2 := rfl
  have u78 : yC h 37 78 = fld h 5 2 := rfl
  refine zwW_p [(1, 0, 2), (12, 0, 0)] (q := 2) (ls' := [(2, 34), (0, a), (0, b), (0, c), (0, d), (9, 0)]) (st' := [(2, 34), (2, 34)]) (by decide +kernel) rfl ?_
  refine zwW_gs C.1 (kd := 5) (bn := 2) (n := 4) (t := 0) (lo := -2147483648) (hi := 2147483647) (nx := 5) (by decide +kernel) ?_
  intro v1 ev1 lv1 uv1
  have sv1 : v1 = (yC h) 37 71 := Eq.trans ev1 (Eq.trans (Eq.symm (yC_s (h := h) (i := 71) rfl)) (Eq.trans (congrFun (congrFun (rfl : yC h = yC h) 37) 71) rfl))
  refine zwW_p [(1, 3, 0)] (q := 6) (ls' := [(2, 34), (0, a), (0, b), (0, c), (0, d), (9, 0)]) (st' := [(0, c), (0, v1), (2, 34)]) (by decide +kernel) rfl ?_
  refine zwW_adw (nx := 7) (by decide +kernel) ?_
  intro v2 ev2 lv2 uv2
  have Ev2 : v2 = w32 (((yC h) 37 71) + c) := by rw [ev2, sv1]
  refine zwW_ps C.1 (kd := 5) (bn := 2) (n := 4) (lo := -2147483648) (hi := 2147483647) (nx := 10) (by decide +kernel) (by first | omega | exact ⟨by omega, by omega⟩) ?_
  intro h3 eh3 Ih3
  have Ch3 : CI h3 := C.wc eh3 Ih3 (by decide) (by decide)
  have Qh3 : zXR [(34, 34, 2, 3)] 0 0 h h3 := zXR.wc eh3 rfl ⟨by decide, by decide, Or.inl (by decide)⟩ (by first | decide | exact ⟨by decide, by decide⟩)
  have Zh3 : yC h3 = (zs (yC h) 37 71 (w32 (((yC h) 37 71) + c))) := by rw [yC_ws (q := 71) (r := 34) (j := 2) (kd := 5) (n := 4) rfl (C.1.s (a1 := 34) (a2 := 34) (by decide +kernel) (by decide) (by decide)) (by decide) C eh3, Ev2]
  have Xh3 : zXR msx192_z (0) (0) h h3 := X.tr (c2 := 0) (s2 := 0) Qh3 (by decide +kernel) (by decide) (by decide)
  have Jh3 : yR h3 := J.fr C Qh3 (by decide +kernel)
  refine zwW_p [(1, 1, 0), (0, 6, 0)] (q := 13) (ls' := [(2, 34), (0, a), (0, b), (0, c), (0, d), (9, 0)]) (st' := [(0, 6), (0, a)]) (by decide +kernel) rfl ?_
  refine zwW_mul (nx := 14) (by decide +kernel) (by first | omega | exact ⟨by omega, by omega⟩) ?_
  refine zwW_p [(2, 5, 0), (1, 1, 0)] (q := 17) (ls' := [(2, 34), (0, a), (0, b), (0, c), (0, d), (0, (a * 6))]) (st' := [(0, a)]) (by decide +kernel) rfl ?_
  refine zwif_lt (q := 95) (nx := 20) (by decide +kernel) (fun c4 => ?_) (fun c4 => ?_)
  · exfalso; omega
  · refine zwW_p [(1, 1, 0), (0, 156, 0)] (q := 24) (ls' := [(2, 34), (0, a), (0, b), (0, c), (0, d), (0, (a * 6))]) (st' := [(0, 156), (0, a)]) (by decide +kernel) rfl ?_
    refine zwic_ge (q := 95) (nx := 27) (by decide +kernel) (fun c5 => ?_) (fun c5 => ?_)
    · exfalso; omega
    · refine zwW_p [(1, 0, 2)] (q := 28) (ls' := [(2, 34), (0, a), (0, b), (0, c), (0, d), (0, (a * 6))]) (st' := [(2, 34)]) (by decide +kernel) rfl ?_
      refine zwW_gc Ch3.1 (kd := 5) (bn := 3) (n := 4) (c := 35) (nx := 31) (by decide +kernel) ?_
      refine zwW_p [(1, 5, 0), (1, 2, 0)] (q := 34) (ls' := [(2, 34), (0, a), (0, b), (0, c), (0, d), (0, (a * 6))]) (st' := [(0, b), (0, (a * 6)), (2, 35)]) (by decide +kernel) rfl ?_
      have ib1 : 0 ≤ (a * 6) ∧ (a * 6) < ((936 : Nat) : Int) := (by first | omega | exact ⟨by omega, by omega⟩)
      refine zwW_as Ch3.1 (a1 := 35) (a2 := 35) (n := 936) (lo := -2147483648) (hi := 2147483647) (nx := 35) (by decide +kernel) (by first | decide | exact ⟨by decide, by decide⟩) ib1 (by first | omega | exact ⟨by omega, by omega⟩) ?_
      intro h6 eh6 Ih6
      have Ch6 : CI h6 := Ch3.wc eh6 Ih6 (by decide) (by decide)
      have Qh6 : zXR [(35, 35, 0, 936)] 0 0 h3 h6 := zXR.wc eh6 rfl ⟨by decide, by decide, Or.inl (by decide)⟩ (by first | omega | exact ⟨by omega, by omega⟩)
      have Uh6 : yC h6 = (zs (zs (yC h) 37 71 (w32 (((yC h) 37 71) + c))) 206 ((a * 6).toNat) b) := by rw [yC_wx (a := 206) (r := 35) (n := 936) (i := (a * 6).toNat) (kd := 20) rfl (Ch3.1.s (a1 := 35) (a2 := 35) (by decide +kernel) (by decide) (by decide)) (by omega) Ch3 eh6, Zh3]
      have Zh6 : yC h6 = (zs (zs (yC h) 206 ((a * 6).toNat) b) 37 71 (w32 (((yC h) 37 71) + c))) := by rw [Uh6, zs_sw (a := 37) (b := 206) (by decide)]
      have Xh6 : zXR msx192_z (0) (0) h h6 := Xh3.tr (c2 := 0) (s2 := 0) Qh6 (by decide +kernel) (by decide) (by decide)
      have Jh6 : yR h6 := Jh3.fr Ch3 Qh6 (by decide +kernel)
      refine zwW_p [(1, 0, 2)] (q := 36) (ls' := [(2, 34), (0, a), (0, b), (0, c), (0, d), (0, (a * 6))]) (st' := [(2, 34)]) (by decide +kernel) rfl ?_
      refine zwW_gc Ch6.1 (kd := 5) (bn := 3) (n := 4) (c := 35) (nx := 39) (by decide +kernel) ?_
      refine zwW_p [(1, 5, 0), (0, 1, 0)] (q := 42) (ls' := [(2, 34), (0, a), (0, b), (0, c), (0, d), (0, (a * 6))]) (st' := [(0, 1), (0, (a * 6)), (2, 35)]) (by decide +kernel) rfl ?_
      refine zwW_add (nx := 43) (by decide +kernel) (by first | omega | exact ⟨by omega, by omega⟩) ?_
      refine zwW_p [(1, 3, 0)] (q := 44) (ls' := [(2, 34), (0, a), (0, b), (0, c), (0, d), (0, (a * 6))]) (st' := [(0, c), (0, ((a * 6) + 1)), (2, 35)]) (by decide +kernel) rfl ?_
      have ib2 : 0 ≤ ((a * 6) + 1) ∧ ((a * 6) + 1) < ((936 : Nat) : Int) := (by first | omega | exact ⟨by omega, by omega⟩)
      refine zwW_as Ch6.1 (a1 := 35) (a2 := 35) (n := 936) (lo := -2147483648) (hi := 2147483647) (nx := 45) (by decide +kernel) (by first | decide | exact ⟨by decide, by decide⟩) ib2 (by first | omega | exact ⟨by omega, by omega⟩) ?_
      intro h7 eh7 Ih7
      have Ch7 : CI h7 := Ch6.wc eh7 Ih7 (by decide) (by decide)
      have Qh7 : zXR [(35, 35, 0, 936)] 0 0 h6 h7 := zXR.wc eh7 rfl ⟨by decide, by decide, Or.inl (by decide)⟩ (by first | omega | exact ⟨by omega, by omega⟩)
      have Uh7 : yC h7 = (zs (zs (zs (yC h) 206 ((a * 6).toNat) b) 37 71 (w32 (((yC h) 37 71) + c))) 206 (((a * 6) + 1).toNat) c) := by rw [yC_wx (a := 206) (r := 35) (n := 936) (i := ((a * 6) + 1).toNat) (kd := 20) rfl (Ch6.1.s (a1 := 35) (a2 := 35) (by decide +kernel) (by decide) (by decide)) (by omega) Ch6 eh7, Zh6]
      have Zh7 : yC h7 = (zs (zs (zs (yC h) 206 ((a * 6).toNat) b) 206 (((a * 6) + 1).toNat) c) 37 71 (w32 (((yC h) 37 71) + c))) := by rw [Uh7, zs_sw (a := 37) (b := 206) (by decide)]
      have Xh7 : zXR msx192_z (0) (0) h h7 := Xh6.tr (c2 := 0) (s2 := 0) Qh7 (by decide +kernel) (by decide) (by decide)
      have Jh7 : yR h7 := Jh6.fr Ch6 Qh7 (by decide +kernel)
      refine zwW_p [(1, 0, 2)] (q := 46) (ls' := [(2, 34), (0, a), (0, b), (0, c), (0, d), (0, (a * 6))]) (st' := [(2, 34)]) (by decide +kernel) rfl ?_
      refine zwW_gc Ch7.1 (kd := 5) (bn := 3) (n := 4) (c := 35) (nx := 49) (by decide +kernel) ?_
      refine zwW_p [(1, 5, 0), (0, 2, 0)] (q := 52) (ls' := [(2, 34), (0, a), (0, b), (0, c), (0, d), (0, (a * 6))]) (st' := [(0, 2), (0, (a * 6)), (2, 35)]) (by decide +kernel) rfl ?_
      refine zwW_add (nx := 53) (by decide +kernel) (by first | omega | exact ⟨by omega, by omega⟩) ?_
      refine zwW_p [(1, 4, 0)] (q := 55) (ls' := [(2, 34), (0, a), (0, b), (0, c), (0, d), (0, (a * 6))]) (st' := [(0, d), (0, ((a * 6) + 2)), (2, 35)]) (by decide +kernel) rfl ?_
      have ib3 : 0 ≤ ((a * 6) + 2) ∧ ((a * 6) + 2) < ((936 : Nat) : Int) := (by first | omega | exact ⟨by omega, by omega⟩)
      refine zwW_as Ch7.1 (a1 := 35) (a2 := 35) (n := 936) (lo := -2147483648) (hi := 2147483647) (nx := 56) (by decide +kernel) (by first | decide | exact ⟨by decide, by decide⟩) ib3 (by first | omega | exact ⟨by omega, by omega⟩) ?_
      intro h8 eh8 Ih8
      have Ch8 : CI h8 := Ch7.wc eh8 Ih8 (by decide) (by decide)
      have Qh8 : zXR [(35, 35, 0, 936)] 0 0 h7 h8 := zXR.wc eh8 rfl ⟨by decide, by decide, Or.inl (by decide)⟩ (by first | omega | exact ⟨by omega, by omega⟩)
      have Uh8 : yC h8 = (zs (zs (zs (zs (yC h) 206 ((a * 6).toNat) b) 206 (((a * 6) + 1).toNat) c) 37 71 (w32 (((yC h) 37 71) + c))) 206 (((a * 6) + 2).toNat) d) := by rw [yC_wx (a := 206) (r := 35) (n := 936) (i := ((a * 6) + 2).toNat) (kd := 20) rfl (Ch7.1.s (a1 := 35) (a2 := 35) (by decide +kernel) (by decide) (by decide)) (by omega) Ch7 eh8, Zh7]
      have Zh8 : yC h8 = (zs (zs (zs (zs (yC h) 206 ((a * 6).toNat) b) 206 (((a * 6) + 1).toNat) c) 206 (((a * 6) + 2).toNat) d) 37 71 (w32 (((yC h) 37 71) + c))) := by rw [Uh8, zs_sw (a := 37) (b := 206) (by decide)]
      have Xh8 : zXR msx192_z (0) (0) h h8 := Xh7.tr (c2 := 0) (s2 := 0) Qh8 (by decide +kernel) (by decide) (by decide)
      have Jh8 : yR h8 := Jh7.fr Ch7 Qh8 (by decide +kernel)
      refine zwW_p [(1, 0, 2)] (q := 57) (ls' := [(2, 34), (0, a), (0, b), (0, c), (0, d), (0, (a * 6))]) (st' := [(2, 34)]) (by decide +kernel) rfl ?_
      refine zwW_gc Ch8.1 (kd := 5) (bn := 3) (n := 4) (c := 35) (nx := 60) (by decide +kernel) ?_
      refine zwW_p [(1, 5, 0), (0, 3, 0)] (q := 63) (ls' := [(2, 34), (0, a), (0, b), (0, c), (0, d), (0, (a * 6))]) (st' := [(0, 3), (0, (a * 6)), (2, 35)]) (by decide +kernel) rfl ?_
      refine zwW_add (nx := 64) (by decide +kernel) (by first | omega | exact ⟨by omega, by omega⟩) ?_
      refine zwW_p [(1, 0, 2)] (q := 65) (ls' := [(2, 34), (0, a), (0, b), (0, c), (0, d), (0, (a * 6))]) (st' := [(2, 34), (0, ((a * 6) + 3)), (2, 35)]) (by decide +kernel) rfl ?_
      refine zwW_gs Ch8.1 (kd := 5) (bn := 0) (n := 4) (t := 0) (lo := -2147483648) (hi := 2147483647) (nx := 68) (by decide +kernel) ?_
      intro v9 ev9 lv9 uv9
      have sv9 : v9 = (yC h) 37 69 := Eq.trans ev9 (Eq.trans (Eq.symm (yC_s (h := h8) (i := 69) rfl)) (Eq.trans (congrFun (congrFun Zh8 37) 69) (Eq.trans (zs_ni (by decide) : (zs (zs (zs (zs (yC h) 206 ((a * 6).toNat) b) 206 (((a * 6) + 1).toNat) c) 206 (((a * 6) + 2).toNat) d) 37 71 (w32 (((yC h) 37 71) + c))) 37 69 = (zs (zs (zs (yC h) 206 ((a * 6).toNat) b) 206 (((a * 6) + 1).toNat) c) 206 (((a * 6) + 2).toNat) d) 37 69) (Eq.trans (zs_na (by decide) : (zs (zs (zs (yC h) 206 ((a * 6).toNat) b) 206 (((a * 6) + 1).toNat) c) 206 (((a * 6) + 2).toNat) d) 37 69 = (zs (zs (yC h) 206 ((a * 6).toNat) b) 206 (((a * 6) + 1).toNat) c) 37 69) (Eq.trans (zs_na (by decide) : (zs (zs (yC h) 206 ((a * 6).toNat) b) 206 (((a * 6) + 1).toNat) c) 37 69 = (zs (yC h) 206 ((a * 6).toNat) b) 37 69) (Eq.trans (zs_na (by decide) : (zs (yC h) 206 ((a * 6).toNat) b) 37 69 = (yC h) 37 69) rfl))))))
      have ib4 : 0 ≤ ((a * 6) + 3) ∧ ((a * 6) + 3) < ((936 : Nat) : Int) := (by first | omega | exact ⟨by omega, by omega⟩)
      refine zwW_as Ch8.1 (a1 := 35) (a2 := 35) (n := 936) (lo := -2147483648) (hi := 2147483647) (nx := 69) (by decide +kernel) (by first | decide | exact ⟨by decide, by decide⟩) ib4 (by first | omega | exact ⟨by omega, by omega⟩) ?_
      intro h10 eh10 Ih10
      have Ch10 : CI h10 := Ch8.wc eh10 Ih10 (by decide) (by decide)
      have Qh10 : zXR [(35, 35, 0, 936)] 0 0 h8 h10 := zXR.wc eh10 rfl ⟨by decide, by decide, Or.inl (by decide)⟩ (by first | omega | exact ⟨by omega, by omega⟩)
      have Uh10 : yC h10 = (zs (zs (zs (zs (zs (yC h) 206 ((a * 6).toNat) b) 206 (((a * 6) + 1).toNat) c) 206 (((a * 6) + 2).toNat) d) 37 71 (w32 (((yC h) 37 71) + c))) 206 (((a * 6) + 3).toNat) ((yC h) 37 69)) := by rw [yC_wx (a := 206) (r := 35) (n := 936) (i := ((a * 6) + 3).toNat) (kd := 20) rfl (Ch8.1.s (a1 := 35) (a2 := 35) (by decide +kernel) (by decide) (by decide)) (by omega) Ch8 eh10, Zh8, sv9]
      have Zh10 : yC h10 = (zs (zs (zs (zs (zs (yC h) 206 ((a * 6).toNat) b) 206 (((a * 6) + 1).toNat) c) 206 (((a * 6) + 2).toNat) d) 206 (((a * 6) + 3).toNat) ((yC h) 37 69)) 37 71 (w32 (((yC h) 37 71) + c))) := by rw [Uh10, zs_sw (a := 37) (b := 206) (by decide)]
      have Xh10 : zXR msx192_z (0) (0) h h10 := Xh8.tr (c2 := 0) (s2 := 0) Qh10 (by decide +kernel) (by decide) (by decide)
      have Jh10 : yR h10 := Jh8.fr Ch8 Qh10 (by decide +kernel)
      refine zwW_p [(1, 0, 2)] (q := 70) (ls' := [(2, 34), (0, a), (0, b), (0, c), (0, d), (0, (a * 6))]) (st' := [(2, 34)]) (by decide +kernel) rfl ?_
      refine zwW_gc Ch10.1 (kd := 5) (bn := 3) (n := 4) (c := 35) (nx := 73) (by decide +kernel) ?_
      refine zwW_p [(1, 5, 0), (0, 4, 0)] (q := 76) (ls' := [(2, 34), (0, a), (0, b), (0, c), (0, d), (0, (a * 6))]) (st' := [(0, 4), (0, (a * 6)), (2, 35)]) (by decide +kernel) rfl ?_
      refine zwW_add (nx := 77) (by decide +kernel) (by first | omega | exact ⟨by omega, by omega⟩) ?_
      refine zwW_p [(1, 0, 2)] (q := 78) (ls' := [(2, 34), (0, a), (0, b), (0, c), (0, d), (0, (a * 6))]) (st' := [(2, 34), (0, ((a * 6) + 4)), (2, 35)]) (by decide +kernel) rfl ?_
      refine zwW_gs Ch10.1 (kd := 5) (bn := 1) (n := 4) (t := 0) (lo := -2147483648) (hi := 2147483647) (nx := 81) (by decide +kernel) ?_
      intro v11 ev11 lv11 uv11
      have sv11 : v11 = (yC h) 37 70 := Eq.trans ev11 (Eq.trans (Eq.symm (yC_s (h := h10) (i := 70) rfl)) (Eq.trans (congrFun (congrFun Zh10 37) 70) (Eq.trans (zs_ni (by decide) : (zs (zs (zs (zs (zs (yC h) 206 ((a * 6).toNat) b) 206 (((a * 6) + 1).toNat) c) 206 (((a * 6) + 2).toNat) d) 206 (((a * 6) + 3).toNat) ((yC h) 37 69)) 37 71 (w32 (((yC h) 37 71) + c))) 37 70 = (zs (zs (zs (zs (yC h) 206 ((a * 6).toNat) b) 206 (((a * 6) + 1).toNat) c) 206 (((a * 6) + 2).toNat) d) 206 (((a * 6) + 3).toNat) ((yC h) 37 69)) 37 70) (Eq.trans (zs_na (by decide) : (zs (zs (zs (zs (yC h) 206 ((a * 6).toNat) b) 206 (((a * 6) + 1).toNat) c) 206 (((a * 6) + 2).toNat) d) 206 (((a * 6) + 3).toNat) ((yC h) 37 69)) 37 70 = (zs (zs (zs (yC h) 206 ((a * 6).toNat) b) 206 (((a * 6) + 1).toNat) c) 206 (((a * 6) + 2).toNat) d) 37 70) (Eq.trans (zs_na (by decide) : (zs (zs (zs (yC h) 206 ((a * 6).toNat) b) 206 (((a * 6) + 1).toNat) c) 206 (((a * 6) + 2).toNat) d) 37 70 = (zs (zs (yC h) 206 ((a * 6).toNat) b) 206 (((a * 6) + 1).toNat) c) 37 70) (Eq.trans (zs_na (by decide) : (zs (zs (yC h) 206 ((a * 6).toNat) b) 206 (((a * 6) + 1).toNat) c) 37 70 = (zs (yC h) 206 ((a * 6).toNat) b) 37 70) (Eq.trans (zs_na (by decide) : (zs (yC h) 206 ((a * 6).toNat) b) 37 70 = (yC h) 37 70) rfl)))))))
      have ib5 : 0 ≤ ((a * 6) + 4) ∧ ((a * 6) + 4) < ((936 : Nat) : Int) := (by first | omega | exact ⟨by omega, by omega⟩)
      refine zwW_as Ch10.1 (a1 := 35) (a2 := 35) (n := 936) (lo := -2147483648) (hi := 2147483647) (nx := 82) (by decide +kernel) (by first | decide | exact ⟨by decide, by decide⟩) ib5 (by first | omega | exact ⟨by omega, by omega⟩) ?_
      intro h12 eh12 Ih12
      have Ch12 : CI h12 := Ch10.wc eh12 Ih12 (by decide) (by decide)
      have Qh12 : zXR [(35, 35, 0, 936)] 0 0 h10 h12 := zXR.wc eh12 rfl ⟨by decide, by decide, Or.inl (by decide)⟩ (by first | omega | exact ⟨by omega, by omega⟩)
      have Uh12 : yC h12 = (zs (zs (zs (zs (zs (zs (yC h) 206 ((a * 6).toNat) b) 206 (((a * 6) + 1).toNat) c) 206 (((a * 6) + 2).toNat) d) 206 (((a * 6) + 3).toNat) ((yC h) 37 69)) 37 71 (w32 (((yC h) 37 71) + c))) 206 (((a * 6) + 4).toNat) ((yC h) 37 70)) := by rw [yC_wx (a := 206) (r := 35) (n := 936) (i := ((a * 6) + 4).toNat) (kd := 20) rfl (Ch10.1.s (a1 := 35) (a2 := 35) (by decide +kernel) (by decide) (by decide)) (by omega) Ch10 eh12, Zh10, sv11]
      have Zh12 : yC h12 = (zs (zs (zs (zs (zs (zs (yC h) 206 ((a * 6).toNat) b) 206 (((a * 6) + 1).toNat) c) 206 (((a * 6) + 2).toNat) d) 206 (((a * 6) + 3).toNat) ((yC h) 37 69)) 206 (((a * 6) + 4).toNat) ((yC h) 37 70)) 37 71 (w32 (((yC h) 37 71) + c))) := by rw [Uh12, zs_sw (a := 37) (b := 206) (by decide)]
      have Xh12 : zXR msx192_z (0) (0) h h12 := Xh10.tr (c2 := 0) (s2 := 0) Qh12 (by decide +kernel) (by decide) (by decide)
      have Jh12 : yR h12 := Jh10.fr Ch10 Qh12 (by decide +kernel)
      refine zwW_p [(1, 0, 2)] (q := 83) (ls' := [(2, 34), (0, a), (0, b), (0, c), (0, d), (0, (a * 6))]) (st' := [(2, 34)]) (by decide +kernel) rfl ?_
      refine zwW_gc Ch12.1 (kd := 5) (bn := 3) (n := 4) (c := 35) (nx := 86) (by decide +kernel) ?_
      refine zwW_p [(1, 5, 0), (0, 5, 0)] (q := 89) (ls' := [(2, 34), (0, a), (0, b), (0, c), (0, d), (0, (a * 6))]) (st' := [(0, 5), (0, (a * 6)), (2, 35)]) (by decide +kernel) rfl ?_
      refine zwW_add (nx := 90) (by decide +kernel) (by first | omega | exact ⟨by omega, by omega⟩) ?_
      refine zwW_p [(1, 0, 2)] (q := 91) (ls' := [(2, 34), (0, a), (0, b), (0, c), (0, d), (0, (a * 6))]) (st' := [(2, 34), (0, ((a * 6) + 5)), (2, 35)]) (by decide +kernel) rfl ?_
      refine zwW_gs Ch12.1 (kd := 5) (bn := 2) (n := 4) (t := 0) (lo := -2147483648) (hi := 2147483647) (nx := 94) (by decide +kernel) ?_
      intro v13 ev13 lv13 uv13
      have sv13 : v13 = (w32 (((yC h) 37 71) + c)) := Eq.trans ev13 (Eq.trans (Eq.symm (yC_s (h := h12) (i := 71) rfl)) (Eq.trans (congrFun (congrFun Zh12 37) 71) (zs_eq : (zs (zs (zs (zs (zs (zs (yC h) 206 ((a * 6).toNat) b) 206 (((a * 6) + 1).toNat) c) 206 (((a * 6) + 2).toNat) d) 206 (((a * 6) + 3).toNat) ((yC h) 37 69)) 206 (((a * 6) + 4).toNat) ((yC h) 37 70)) 37 71 (w32 (((yC h) 37 71) + c))) 37 71 = (w32 (((yC h) 37 71) + c)))))
      have ib6 : 0 ≤ ((a * 6) + 5) ∧ ((a * 6) + 5) < ((936 : Nat) : Int) := (by first | omega | exact ⟨by omega, by omega⟩)
      refine zwW_as Ch12.1 (a1 := 35) (a2 := 35) (n := 936) (lo := -2147483648) (hi := 2147483647) (nx := 95) (by decide +kernel) (by first | decide | exact ⟨by decide, by decide⟩) ib6 (by first | omega | exact ⟨by omega, by omega⟩) ?_
      intro h14 eh14 Ih14
      have Ch14 : CI h14 := Ch12.wc eh14 Ih14 (by decide) (by decide)
      have Qh14 : zXR [(35, 35, 0, 936)] 0 0 h12 h14 := zXR.wc eh14 rfl ⟨by decide, by decide, Or.inl (by decide)⟩ (by first | omega | exact ⟨by omega, by omega⟩)
      have Uh14 : yC h14 = (zs (zs (zs (zs (zs (zs (zs (yC h) 206 ((a * 6).toNat) b) 206 (((a * 6) + 1).toNat) c) 206 (((a * 6) + 2).toNat) d) 206 (((a * 6) + 3).toNat) ((yC h) 37 69)) 206 (((a * 6) + 4).toNat) ((yC h) 37 70)) 37 71 (w32 (((yC h) 37 71) + c))) 206 (((a * 6) + 5).toNat) (w32 (((yC h) 37 71) + c))) := by rw [yC_wx (a := 206) (r := 35) (n := 936) (i := ((a * 6) + 5).toNat) (kd := 20) rfl (Ch12.1.s (a1 := 35) (a2 := 35) (by decide +kernel) (by decide) (by decide)) (by omega) Ch12 eh14, Zh12, sv13]
      have Zh14 : yC h14 = (zs (zs (zs (zs (zs (zs (zs (yC h) 206 ((a * 6).toNat) b) 206 (((a * 6) + 1).toNat) c) 206 (((a * 6) + 2).toNat) d) 206 (((a * 6) + 3).toNat) ((yC h) 37 69)) 206 (((a * 6) + 4).toNat) ((yC h) 37 70)) 206 (((a * 6) + 5).toNat) (w32 (((yC h) 37 71) + c))) 37 71 (w32 (((yC h) 37 71) + c))) := by rw [Uh14, zs_sw (a := 37) (b := 206) (by decide)]
      have Xh14 : zXR msx192_z (0) (0) h h14 := Xh12.tr (c2 := 0) (s2 := 0) Qh14 (by decide +kernel) (by decide) (by decide)
      have Jh14 : yR h14 := Jh12.fr Ch12 Qh14 (by decide +kernel)
      refine zwW_retv (nx := 96) (a := 0) (b := 0) (by decide +kernel) ?_
      exact ⟨Ch14, Xh14.le (by decide) (by decide), by refine Eq.trans Zh14 ?_; unfold yClo; (repeat' (first | rw [if_pos (by omega)] | rw [if_neg (by omega)])); all_goals (repeat' (first | rfl | apply zs_cg | omega)), by exact Jh14⟩
end
section
/-! contracts of methods -/
def ms215_n : Zms := [(168, 168, 0, 13)]
-- WheelLandModel.clears()V
theorem m215_n {sc : List Int} (h : Hp) (I : zI h) : zwC sc 2 215 [(2, 37)] h (zwRv (fun g => zI g ∧ zMR ms215_n h g ∧ (n13 168 g (yNm0 (fld h 37 0))))) := by
  refine zwC_of (D := 1) 2 (by decide +kernel) rfl (ls := [(2, 37), (9, 0)]) rfl ?_
  have R : zMR ms215_n h h := zMR.rf _ _
  refine zwW_p [(0, 0, 0), (2, 1, 0)] (q := 2) (ls' := [(2, 37), (0, 0)]) (st' := []) (by decide +kernel) rfl ?_
  have L1 : ∀ (n0 : Nat) (kL1 : Int) (hL1 : Hp), n0 = ((100 - kL1)).toNat → ((0 ≤ kL1 ∧ kL1 ≤ 13) ∧ fld hL1 37 0 = fld h 37 0) → (∀ j : Nat, (j : Int) < kL1 → fld hL1 168 j = 0) → zI hL1 → zMR ms215_n h hL1 → zwW sc (1) 215 2 [(2, 37), (0, kL1)] [] hL1 (zwRv (fun g => zI g ∧ zMR ms215_n h g ∧ (n13 168 g (yNm0 (fld h 37 0))))) := by
    intro n0
    induction n0 using Nat.strongRecOn with
    | ind n0 IHL1 =>
      intro kL1 hL1 hnL1 iL1_0 iL1_1 IhL1 RhL1
      refine zwW_p [(1, 1, 0), (0, 13, 0)] (q := 5) (ls' := [(2, 37), (0, kL1)]) (st' := [(0, 13), (0, kL1)]) (by decide +kernel) rfl ?_
      refine zwic_ge (q := 21) (nx := 8) (by decide +kernel) (fun c2 => ?_) (fun c2 => ?_)
      · refine zwW_p [(1, 0, 2)] (q := 22) (ls' := [(2, 37), (0, kL1)]) (st' := [(2, 37)]) (by decide +kernel) rfl ?_
        refine zwW_gc IhL1 (kd := 13) (bn := 56) (n := 97) (c := 168) (nx := 25) (by decide +kernel) ?_
        refine zwW_p [(0, 0, 0), (1, 0, 2)] (q := 27) (ls' := [(2, 37), (0, kL1)]) (st' := [(2, 37), (0, 0), (2, 168)]) (by decide +kernel) rfl ?_
        refine zwW_gs IhL1 (kd := 13) (bn := 0) (n := 97) (t := 0) (lo := 0) (hi := 156) (nx := 30) (by decide +kernel) ?_
        intro v3 ev3 lv3 uv3
        refine zwW_as IhL1 (a1 := 168) (a2 := 168) (n := 13) (lo := -2147483648) (hi := 2147483647) (nx := 31) (by decide +kernel) (by first | decide | exact ⟨by decide, by decide⟩) (by first | decide | exact ⟨by decide, by decide⟩) (by first | omega | exact ⟨by omega, by omega⟩) ?_
        intro h4 eh4 Ih4
        have th4_37_0 : fld h4 37 0 = fld hL1 37 0 := by rw [eh4]; exact fld_wr (by decide)
        have G30 : n13 168 h4 (zu (fun _ => 0) 0 (fld h 37 0)) := n13.zu (N := fun _ => 0) (fun j hj => iL1_1 j (by omega)) (fld_zu (IhL1.s (a1 := 168) (a2 := 168) (k := 20) (n := 13) (by decide +kernel) (by decide) (by decide)) (by decide) eh4) (by omega)
        have Rh4 : zMR ms215_n h h4 := RhL1.w (a1 := 168) (a2 := 168) (j1 := 0) (j2 := 13) (by decide +kernel) (by first | decide | exact ⟨by decide, by decide⟩) (by first | decide | exact ⟨by decide, by decide⟩) eh4
        refine zwW_p [(1, 0, 2)] (q := 32) (ls' := [(2, 37), (0, kL1)]) (st' := [(2, 37)]) (by decide +kernel) rfl ?_
        refine zwW_gc Ih4 (kd := 13) (bn := 56) (n := 97) (c := 168) (nx := 35) (by decide +kernel) ?_
        refine zwW_p [(0, 1, 0), (1, 0, 2)] (q := 37) (ls' := [(2, 37), (0, kL1)]) (st' := [(2, 37), (0, 1), (2, 168)]) (by decide +kernel) rfl ?_
        refine zwW_gs Ih4 (kd := 13) (bn := 0) (n := 97) (t := 0) (lo := 0) (hi := 156) (nx := 40) (by decide +kernel) ?_
        intro v5 ev5 lv5 uv5
        refine zwW_cs (k' := 174) (n := 1) (nx := 43) (as := [(0, v5)]) (st' := [(0, 1), (2, 168)]) (by decide +kernel) rfl (m174 h4 v5 (by omega) (by omega)) rfl ?_
        rintro v6 _ ⟨rfl, f7, f8, f9, f10⟩
        refine zwW_as Ih4 (a1 := 168) (a2 := 168) (n := 13) (lo := -2147483648) (hi := 2147483647) (nx := 44) (by decide +kernel) (by first | decide | exact ⟨by decide, by decide⟩) (by first | decide | exact ⟨by decide, by decide⟩) (by first | omega | exact ⟨by omega, by omega⟩) ?_
        intro h11 eh11 Ih11
        have th11_37_0 : fld h11 37 0 = fld h4 37 0 := by rw [eh11]; exact fld_wr (by decide)
        have G43 : n13 168 h11 (yNm0 (fld h 37 0)) := G30.zu (fld_zu (Ih4.s (a1 := 168) (a2 := 168) (k := 20) (n := 13) (by decide +kernel) (by decide) (by decide)) (by decide) eh11) (by omega)
        have Rh11 : zMR ms215_n h h11 := Rh4.w (a1 := 168) (a2 := 168) (j1 := 0) (j2 := 13) (by decide +kernel) (by first | decide | exact ⟨by decide, by decide⟩) (by first | decide | exact ⟨by decide, by decide⟩) eh11
        refine zwW_retv (nx := 45) (a := 0) (b := 0) (by decide +kernel) ?_
        exact ⟨Ih11, Rh11, by exact G43⟩
      · refine zwW_p [(1, 0, 2)] (q := 9) (ls' := [(2, 37), (0, kL1)]) (st' := [(2, 37)]) (by decide +kernel) rfl ?_
        refine zwW_gc IhL1 (kd := 13) (bn := 56) (n := 97) (c := 168) (nx := 12) (by decide +kernel) ?_
        refine zwW_p [(1, 1, 0), (0, 0, 0)] (q := 14) (ls' := [(2, 37), (0, kL1)]) (st' := [(0, 0), (0, kL1), (2, 168)]) (by decide +kernel) rfl ?_
        have ib1 : 0 ≤ kL1 ∧ kL1 < ((13 : Nat) : Int) := (by first | omega | exact ⟨by omega, by omega⟩)
        refine zwW_as IhL1 (a1 := 168) (a2 := 168) (n := 13) (lo := -2147483648) (hi := 2147483647) (nx := 15) (by decide +kernel) (by first | decide | exact ⟨by decide, by decide⟩) ib1 (by first | decide | exact ⟨by decide, by decide⟩) ?_
        intro h12 eh12 Ih12
        have jbh12 : 0 ≤ kL1.toNat ∧ kL1.toNat < 13 := ⟨Nat.zero_le _, zit ib1⟩
        have th12_37_0 : fld h12 37 0 = fld hL1 37 0 := by rw [eh12]; exact fld_wr (Or.inl (by decide))
        have W14 := zr_w iL1_1 eh12 (IhL1.s (a1 := 168) (a2 := 168) (k := 20) (n := 13) (by decide +kernel) (by decide) (by decide)) (by first | omega | exact ⟨by omega, by omega⟩)
        have Rh12 : zMR ms215_n h h12 := RhL1.w (a1 := 168) (a2 := 168) (j1 := 0) (j2 := 13) (by decide +kernel) (by first | decide | exact ⟨by decide, by decide⟩) jbh12 eh12
        refine zwW_inc (i := 1) (c := 1) (x := kL1) (nx := 18) (by decide +kernel) rfl (by first | omega | exact ⟨by omega, by omega⟩) (ls' := [(2, 37), (0, (kL1 + 1))]) rfl ?_
        refine zwW_p [(24, 2, 0)] (q := 2) (ls' := [(2, 37), (0, (kL1 + 1))]) (st' := []) (by decide +kernel) rfl ?_
        exact IHL1 ((100 - (kL1 + 1))).toNat (by omega) (kL1 + 1) h12 rfl (by omega) (W14) Ih12 Rh12
  exact L1 _ 0 h rfl (by omega) (fun j hj => by omega) I R
-- WheelLandModel.asksOf(I)V
theorem m225_z {sc : List Int} (h : Hp) (I : zI h) (a : Int) (p1 : 0 ≤ a) (p2 : a ≤ 19) : zwC sc 3 225 [(2, 37), (0, a)] h (zwRv (fun g => zI g ∧ zMR ms225 h g ∧ (n13 168 g (yNmH (yM h) a.toNat (yNm0 (yM h 37 0)))))) := by
  refine zwC_of (D := 2) 2 (by decide +kernel) rfl (ls := [(2, 37), (0, a)]) rfl ?_
  have R : zMR ms225 h h := zMR.rf _ _
  have u0 : yM h 37 0 = fld h 37 0 := rfl
  refine zwW_p [(1, 0, 2)] (q := 1) (ls' := [(2, 37), (0, a)]) (st' := [(2, 37)]) (by decide +kernel) rfl ?_
  refine zwW_cmv I (op := 60) (k' := 215) (n := 0) (kd := 13) (m := 97) (nx := 4) (r := 37) (tl := []) (st' := []) (by decide +kernel) rfl (by decide +kernel) rfl (m215_n h I) ?_
  rintro h2 ⟨Ih2, Qh2, f1⟩
  have Rh2 : zMR ms225 h h2 := R.tr Qh2 (by decide +kernel)
  have th2_37_0 : fld h2 37 0 = fld h 37 0 := Qh2.f (a1 := 37) (a2 := 37) (j1 := 0) (j2 := 1) (by decide +kernel) (by first | decide | exact ⟨by decide, by decide⟩) (by first | decide | exact ⟨by decide, by decide⟩)
  have Zh2 : yM h2 = (yM h) := (yM_fr Qh2 (by decide +kernel) (I.b (a1 := 37) (a2 := 37) (j1 := 86) (j2 := 87) (lo := 0) (hi := 6) (by decide +kernel) (r := 37) (j := 86) (by decide) (by decide) (by decide) (by decide)).2).trans (rfl : yM h = yM h)
  have G1 : n13 168 h2 (yNm0 (yM h 37 0)) := f1
  refine zwW_p [(1, 0, 2)] (q := 5) (ls' := [(2, 37), (0, a)]) (st' := [(2, 37)]) (by decide +kernel) rfl ?_
  refine zwW_gc Ih2 (kd := 13) (bn := 56) (n := 97) (c := 168) (nx := 8) (by decide +kernel) ?_
  refine zwW_p [(0, 2, 0), (1, 0, 2)] (q := 10) (ls' := [(2, 37), (0, a)]) (st' := [(2, 37), (0, 2), (2, 168)]) (by decide +kernel) rfl ?_
  refine zwW_gc Ih2 (kd := 13) (bn := 24) (n := 97) (c := 83) (nx := 13) (by decide +kernel) ?_
  refine zwW_p [(1, 1, 0)] (q := 14) (ls' := [(2, 37), (0, a)]) (st' := [(0, a), (2, 83), (0, 2), (2, 168)]) (by decide +kernel) rfl ?_
  have ib1 : 0 ≤ a ∧ a < ((20 : Nat) : Int) := (by first | omega | exact ⟨by omega, by omega⟩)
  refine zwW_al Ih2 (a1 := 83) (a2 := 83) (kd := 20) (n := 20) (t := 0) (lo := 0) (hi := 9) (nx := 15) (by decide +kernel) (by first | decide | exact ⟨by decide, by decide⟩) ib1 ?_
  intro v3 ev3 lv3 uv3
  have sv3 : v3 = (yM h) 83 a.toNat := Eq.trans ev3 (Eq.trans (Eq.symm (yM_p (h := h2) (a := 83) (n := 20) (i := a.toNat) rfl (zit ib1))) (Eq.trans (congrFun (congrFun Zh2 83) a.toNat) rfl))
  refine zwW_as Ih2 (a1 := 168) (a2 := 168) (n := 13) (lo := -2147483648) (hi := 2147483647) (nx := 16) (by decide +kernel) (by first | decide | exact ⟨by decide, by decide⟩) (by first | decide | exact ⟨by decide, by decide⟩) (by first | omega | exact ⟨by omega, by omega⟩) ?_
  intro h4 eh4 Ih4
  have th4_37_0 : fld h4 37 0 = fld h2 37 0 := by rw [eh4]; exact fld_wr (by decide)
  have G15 : n13 168 h4 (zu (yNm0 (yM h 37 0)) 2 (yM h 83 a.toNat)) := G1.zu (fld_zu (Ih2.s (a1 := 168) (a2 := 168) (k := 20) (n := 13) (by decide +kernel) (by decide) (by decide)) (by decide) eh4) sv3
  have Zh4 : yM h4 = (yM h) := (yM_fr (ms := [(168, 168, 0, 13)]) (zMR.one (a1 := 168) (a2 := 168) (j1 := 0) (j2 := 13) (by first | decide | exact ⟨by decide, by decide⟩) (by first | decide | exact ⟨by decide, by decide⟩) eh4) (by decide +kernel) (Ih2.b (a1 := 37) (a2 := 37) (j1 := 86) (j2 := 87) (lo := 0) (hi := 6) (by decide +kernel) (r := 37) (j := 86) (by decide) (by decide) (by decide) (by decide)).2).trans Zh2
  have Rh4 : zMR ms225 h h4 := Rh2.w (a1 := 168) (a2 := 168) (j1 := 0) (j2 := 13) (by decide +kernel) (by first | decide | exact ⟨by decide, by decide⟩) (by first | decide | exact ⟨by decide, by decide⟩) eh4
  refine zwW_p [(1, 0, 2)] (q := 17) (ls' := [(2, 37), (0, a)]) (st' := [(2, 37)]) (by decide +kernel) rfl ?_
  refine zwW_gc Ih4 (kd := 13) (bn := 56) (n := 97) (c := 168) (nx := 20) (by decide +kernel) ?_
  refine zwW_p [(0, 3, 0), (1, 0, 2)] (q := 22) (ls' := [(2, 37), (0, a)]) (st' := [(2, 37), (0, 3), (2, 168)]) (by decide +kernel) rfl ?_
  refine zwW_gc Ih4 (kd := 13) (bn := 21) (n := 97) (c := 80) (nx := 25) (by decide +kernel) ?_
  refine zwW_p [(1, 1, 0)] (q := 26) (ls' := [(2, 37), (0, a)]) (st' := [(0, a), (2, 80), (0, 3), (2, 168)]) (by decide +kernel) rfl ?_
  refine zwW_al Ih4 (a1 := 80) (a2 := 80) (kd := 20) (n := 20) (t := 0) (lo := 0) (hi := 5) (nx := 27) (by decide +kernel) (by first | decide | exact ⟨by decide, by decide⟩) ib1 ?_
  intro v5 ev5 lv5 uv5
  have sv5 : v5 = (yM h) 80 a.toNat := Eq.trans ev5 (Eq.trans (Eq.symm (yM_p (h := h4) (a := 80) (n := 20) (i := a.toNat) rfl (zit ib1))) (Eq.trans (congrFun (congrFun Zh4 80) a.toNat) rfl))
  refine zwW_as Ih4 (a1 := 168) (a2 := 168) (n := 13) (lo := -2147483648) (hi := 2147483647) (nx := 28) (by decide +kernel) (by first | decide | exact ⟨by decide, by decide⟩) (by first | decide | exact ⟨by decide, by decide⟩) (by first | omega | exact ⟨by omega, by omega⟩) ?_
  intro h6 eh6 Ih6
  have th6_37_0 : fld h6 37 0 = fld h4 37 0 := by rw [eh6]; exact fld_wr (by decide)
  have G27 : n13 168 h6 (zu (zu (yNm0 (yM h 37 0)) 2 (yM h 83 a.toNat)) 3 (yM h 80 a.toNat)) := G15.zu (fld_zu (Ih4.s (a1 := 168) (a2 := 168) (k := 20) (n := 13) (by decide +kernel) (by decide) (by decide)) (by decide) eh6) sv5
  have Zh6 : yM h6 = (yM h) := (yM_fr (ms := [(168, 168, 0, 13)]) (zMR.one (a1 := 168) (a2 := 168) (j1 := 0) (j2 := 13) (by first | decide | exact ⟨by decide, by decide⟩) (by first | decide | exact ⟨by decide, by decide⟩) eh6) (by decide +kernel) (Ih4.b (a1 := 37) (a2 := 37) (j1 := 86) (j2 := 87) (lo := 0) (hi := 6) (by decide +kernel) (r := 37) (j := 86) (by decide) (by decide) (by decide) (by decide)).2).trans Zh4
  have Rh6 : zMR ms225 h h6 := Rh4.w (a1 := 168) (a2 := 168) (j1 := 0) (j2 := 13) (by decide +kernel) (by first | decide | exact ⟨by decide, by decide⟩) (by first | decide | exact ⟨by decide, by decide⟩) eh6
  refine zwW_p [(1, 0, 2)] (q := 29) (ls' := [(2, 37), (0, a)]) (st' := [(2, 37)]) (by decide +kernel) rfl ?_
  refine zwW_gc Ih6 (kd := 13) (bn := 56) (n := 97) (c := 168) (nx := 32) (by decide +kernel) ?_
  refine zwW_p [(0, 4, 0), (1, 0, 2)] (q := 34) (ls' := [(2, 37), (0, a)]) (st' := [(2, 37), (0, 4), (2, 168)]) (by decide +kernel) rfl ?_
  refine zwW_gc Ih6 (kd := 13) (bn := 22) (n := 97) (c := 81) (nx := 37) (by decide +kernel) ?_
  refine zwW_p [(1, 1, 0)] (q := 38) (ls' := [(2, 37), (0, a)]) (st' := [(0, a), (2, 81), (0, 4), (2, 168)]) (by decide +kernel) rfl ?_
  refine zwW_al Ih6 (a1 := 81) (a2 := 81) (kd := 20) (n := 20) (t := 0) (lo := 0) (hi := 9) (nx := 39) (by decide +kernel) (by first | decide | exact ⟨by decide, by decide⟩) ib1 ?_
  intro v7 ev7 lv7 uv7
  have sv7 : v7 = (yM h) 81 a.toNat := Eq.trans ev7 (Eq.trans (Eq.symm (yM_p (h := h6) (a := 81) (n := 20) (i := a.toNat) rfl (zit ib1))) (Eq.trans (congrFun (congrFun Zh6 81) a.toNat) rfl))
  refine zwW_as Ih6 (a1 := 168) (a2 := 168) (n := 13) (lo := -2147483648) (hi := 2147483647) (nx := 40) (by decide +kernel) (by first | decide | exact ⟨by decide, by decide⟩) (by first | decide | exact ⟨by decide, by decide⟩) (by first | omega | exact ⟨by omega, by omega⟩) ?_
  intro h8 eh8 Ih8
  have th8_37_0 : fld h8 37 0 = fld h6 37 0 := by rw [eh8]; exact fld_wr (by decide)
  have G39 : n13 168 h8 (zu (zu (zu (yNm0 (yM h 37 0)) 2 (yM h 83 a.toNat)) 3 (yM h 80 a.toNat)) 4 (yM h 81 a.toNat)) := G27.zu (fld_zu (Ih6.s (a1 := 168) (a2 := 168) (k := 20) (n := 13) (by decide +kernel) (by decide) (by decide)) (by decide) eh8) sv7
  have Zh8 : yM h8 = (yM h) := (yM_fr (ms := [(168, 168, 0, 13)]) (zMR.one (a1 := 168) (a2 := 168) (j1 := 0) (j2 := 13) (by first | decide | exact ⟨by decide, by decide⟩) (by first | decide | exact ⟨by decide, by decide⟩) eh8) (by decide +kernel) (Ih6.b (a1 := 37) (a2 := 37) (j1 := 86) (j2 := 87) (lo := 0) (hi := 6) (by decide +kernel) (r := 37) (j := 86) (by decide) (by decide) (by decide) (by decide)).2).trans Zh6
  have Rh8 : zMR ms225 h h8 := Rh6.w (a1 := 168) (a2 := 168) (j1 := 0) (j2 := 13) (by decide +kernel) (by first | decide | exact ⟨by decide, by decide⟩) (by first | decide | exact ⟨by decide, by decide⟩) eh8
  refine zwW_p [(1, 0, 2)] (q := 41) (ls' := [(2, 37), (0, a)]) (st' := [(2, 37)]) (by decide +kernel) rfl ?_
  refine zwW_gc Ih8 (kd := 13) (bn := 56) (n := 97) (c := 168) (nx := 44) (by decide +kernel) ?_
  refine zwW_p [(0, 5, 0), (1, 0, 2)] (q := 46) (ls' := [(2, 37), (0, a)]) (st' := [(2, 37), (0, 5), (2, 168)]) (by decide +kernel) rfl ?_
  refine zwW_gc Ih8 (kd := 13) (bn := 23) (n := 97) (c := 82) (nx := 49) (by decide +kernel) ?_
  refine zwW_p [(1, 1, 0)] (q := 50) (ls' := [(2, 37), (0, a)]) (st' := [(0, a), (2, 82), (0, 5), (2, 168)]) (by decide +kernel) rfl ?_
  refine zwW_al Ih8 (a1 := 82) (a2 := 82) (kd := 20) (n := 20) (t := 0) (lo := 0) (hi := 5) (nx := 51) (by decide +kernel) (by first | decide | exact ⟨by decide, by decide⟩) ib1 ?_
  intro v9 ev9 lv9 uv9
  have sv9 : v9 = (yM h) 82 a.toNat := Eq.trans ev9 (Eq.trans (Eq.symm (yM_p (h := h8) (a := 82) (n := 20) (i := a.toNat) rfl (zit ib1))) (Eq.trans (congrFun (congrFun Zh8 82) a.toNat) rfl))
  refine zwW_as Ih8 (a1 := 168) (a2 := 168) (n := 13) (lo := -2147483648) (hi := 2147483647) (nx := 52) (by decide +kernel) (by first | decide | exact ⟨by decide, by decide⟩) (by first | decide | exact ⟨by decide, by decide⟩) (by first | omega | exact ⟨by omega, by omega⟩) ?_
  intro h10 eh10 Ih10
  have th10_37_0 : fld h10 37 0 = fld h8 37 0 := by rw [eh10]; exact fld_wr (by decide)
  have G51 : n13 168 h10 (zu (zu (zu (zu (yNm0 (yM h 37 0)) 2 (yM h 83 a.toNat)) 3 (yM h 80 a.toNat)) 4 (yM h 81 a.toNat)) 5 (yM h 82 a.toNat)) := G39.zu (fld_zu (Ih8.s (a1 := 168) (a2 := 168) (k := 20) (n := 13) (by decide +kernel) (by decide) (by decide)) (by decide) eh10) sv9
  have Zh10 : yM h10 = (yM h) := (yM_fr (ms := [(168, 168, 0, 13)]) (zMR.one (a1 := 168) (a2 := 168) (j1 := 0) (j2 := 13) (by first | decide | exact ⟨by decide, by decide⟩) (by first | decide | exact ⟨by decide, by decide⟩) eh10) (by decide +kernel) (Ih8.b (a1 := 37) (a2 := 37) (j1 := 86) (j2 := 87) (lo := 0) (hi := 6) (by decide +kernel) (r := 37) (j := 86) (by decide) (by decide) (by decide) (by decide)).2).trans Zh8
  have Rh10 : zMR ms225 h h10 := Rh8.w (a1 := 168) (a2 := 168) (j1 := 0) (j2 := 13) (by decide +kernel) (by first | decide | exact ⟨by decide, by decide⟩) (by first | decide | exact ⟨by decide, by decide⟩) eh10
  refine zwW_p [(1, 0, 2)] (q := 53) (ls' := [(2, 37), (0, a)]) (st' := [(2, 37)]) (by decide +kernel) rfl ?_
  refine zwW_gc Ih10 (kd := 13) (bn := 56) (n := 97) (c := 168) (nx := 56) (by decide +kernel) ?_
  refine zwW_p [(0, 10, 0), (1, 0, 2)] (q := 59) (ls' := [(2, 37), (0, a)]) (st' := [(2, 37), (0, 10), (2, 168)]) (by decide +kernel) rfl ?_
  refine zwW_gc Ih10 (kd := 13) (bn := 3) (n := 97) (c := 38) (nx := 62) (by decide +kernel) ?_
  refine zwW_p [(1, 0, 2)] (q := 63) (ls' := [(2, 37), (0, a)]) (st' := [(2, 37), (2, 38), (0, 10), (2, 168)]) (by decide +kernel) rfl ?_
  refine zwW_gc Ih10 (kd := 13) (bn := 20) (n := 97) (c := 79) (nx := 66) (by decide +kernel) ?_
  refine zwW_p [(1, 1, 0)] (q := 67) (ls' := [(2, 37), (0, a)]) (st' := [(0, a), (2, 79), (2, 38), (0, 10), (2, 168)]) (by decide +kernel) rfl ?_
  refine zwW_al Ih10 (a1 := 79) (a2 := 79) (kd := 20) (n := 20) (t := 0) (lo := 0) (hi := 7) (nx := 68) (by decide +kernel) (by first | decide | exact ⟨by decide, by decide⟩) ib1 ?_
  intro v11 ev11 lv11 uv11
  have sv11 : v11 = (yM h) 79 a.toNat := Eq.trans ev11 (Eq.trans (Eq.symm (yM_p (h := h10) (a := 79) (n := 20) (i := a.toNat) rfl (zit ib1))) (Eq.trans (congrFun (congrFun Zh10 79) a.toNat) rfl))
  refine zwW_ro Ih10 (a := 38) (n := 8) (kd := 26) (base := 39) (step := 1) (nx := 69) (by decide +kernel) rfl (by first | omega | exact ⟨by omega, by omega⟩) ?_
  rw [show ((39 : Nat) : Int) + ((1 : Nat) : Int) * v11 = (39 + v11) by omega]
  refine zwW_p [(1, 0, 2)] (q := 70) (ls' := [(2, 37), (0, a)]) (st' := [(2, 37), (2, (39 + v11)), (0, 10), (2, 168)]) (by decide +kernel) rfl ?_
  refine zwW_gs Ih10 (kd := 13) (bn := 0) (n := 97) (t := 0) (lo := 0) (hi := 156) (nx := 73) (by decide +kernel) ?_
  intro v12 ev12 lv12 uv12
  have sv12 : v12 = (yM h) 37 0 := Eq.trans ev12 (Eq.trans (Eq.symm (yM_s (h := h10) (i := 0) rfl)) (Eq.trans (congrFun (congrFun Zh10 37) 0) rfl))
  refine zwW_cs (k' := 174) (n := 1) (nx := 76) (as := [(0, v12)]) (st' := [(2, (39 + v11)), (0, 10), (2, 168)]) (by decide +kernel) rfl (m174 h10 v12 (by omega) (by omega)) rfl ?_
  rintro v13 _ ⟨rfl, f14, f15, f16, f17⟩
  have ib2 : 0 ≤ v13 ∧ v13 < ((4 : Nat) : Int) := (by first | omega | exact ⟨by omega, by omega⟩)
  refine zwW_al Ih10 (a1 := 39) (a2 := 46) (kd := 20) (n := 4) (t := 0) (lo := 0) (hi := 40) (nx := 77) (by decide +kernel) (by first | omega | exact ⟨by omega, by omega⟩) ib2 ?_
  intro v18 ev18 lv18 uv18
  have sv18 : v18 = (yM h) 39 (4 * v11.toNat + v13.toNat) := Eq.trans (show v18 = yM h10 39 (4 * v11.toNat + v13.toNat) by rw [yM_2 (a := 39) (w := 4) (v := v11.toNat) (j := v13.toNat) rfl (by omega) (by show _ < 32; omega), ev18]; congr 1; omega) (Eq.trans (congrFun (congrFun Zh10 39) (4 * v11.toNat + v13.toNat)) rfl)
  refine zwW_as Ih10 (a1 := 168) (a2 := 168) (n := 13) (lo := -2147483648) (hi := 2147483647) (nx := 78) (by decide +kernel) (by first | decide | exact ⟨by decide, by decide⟩) (by first | decide | exact ⟨by decide, by decide⟩) (by first | omega | exact ⟨by omega, by omega⟩) ?_
  intro h19 eh19 Ih19
  have th19_37_0 : fld h19 37 0 = fld h10 37 0 := by rw [eh19]; exact fld_wr (by decide)
  have G77 : n13 168 h19 (yNmH (yM h) a.toNat (yNm0 (yM h 37 0))) := G51.zu (fld_zu (Ih10.s (a1 := 168) (a2 := 168) (k := 20) (n := 13) (by decide +kernel) (by decide) (by decide)) (by decide) eh19) (sv18.trans (by unfold yIdl; congr 1; omega))
  have Zh19 : yM h19 = (yM h) := (yM_fr (ms := [(168, 168, 0, 13)]) (zMR.one (a1 := 168) (a2 := 168) (j1 := 0) (j2 := 13) (by first | decide | exact ⟨by decide, by decide⟩) (by first | decide | exact ⟨by decide, by decide⟩) eh19) (by decide +kernel) (Ih10.b (a1 := 37) (a2 := 37) (j1 := 86) (j2 := 87) (lo := 0) (hi := 6) (by decide +kernel) (r := 37) (j := 86) (by decide) (by decide) (by decide) (by decide)).2).trans Zh10
  have Rh19 : zMR ms225 h h19 := Rh10.w (a1 := 168) (a2 := 168) (j1 := 0) (j2 := 13) (by decide +kernel) (by first | decide | exact ⟨by decide, by decide⟩) (by first | decide | exact ⟨by decide, by decide⟩) eh19
  refine zwW_retv (nx := 79) (a := 0) (b := 0) (by decide +kernel) ?_
  exact ⟨Ih19, Rh19, by exact G77⟩
-- WheelLandModel.dutyAt(I)I
theorem m155_z {sc : List Int} (h : Hp) (I : zI h) (a : Int) (q : qT) (p1 : 0 ≤ a) (p2 : a ≤ 7) (pv : a < fld h 37 1) (V : mRq q h) (ok : yOK (yM h)) : zwC sc 4 155 [(2, 37), (0, a)] h (zwRt 0 (fun x g => zI g ∧ zMR ms155 h g ∧ (-2147483648 ≤ x ∧ x ≤ 2147483647) ∧ (0 ≤ x ∧ x ≤ 1000000) ∧ (x = yDut q (yM h) a.toNat))) := by
  refine zwC_of (D := 3) 2 (by decide +kernel) rfl (ls := [(2, 37), (0, a)]) rfl ?_
  have R : zMR ms155 h h := zMR.rf _ _
  have u0 : yM h 37 0 = fld h 37 0 := rfl
  have O155 : ((a.toNat : Nat) : Int) < yM h 37 1 := by show _ < fld h 37 1; omega
  have B155 : eNum (q 2 (yM h 37 0) (zu (yNm0 (yM h 37 0)) 12 (yM h 71 a.toNat))) := V.num (eNs_dut ok O155) (by first | decide | exact ⟨by decide, by decide⟩)
  unfold eNum at B155
  refine zwW_p [(1, 0, 2)] (q := 1) (ls' := [(2, 37), (0, a)]) (st' := [(2, 37)]) (by decide +kernel) rfl ?_
  refine zwW_cmv I (op := 60) (k' := 215) (n := 0) (kd := 13) (m := 97) (nx := 4) (r := 37) (tl := []) (st' := []) (by decide +kernel) rfl (by decide +kernel) rfl (m215_n h I) ?_
  rintro h2 ⟨Ih2, Qh2, f1⟩
  have Rh2 : zMR ms155 h h2 := R.tr Qh2 (by decide +kernel)
  have Vh2 : mRq q h2 := V.fr Qh2 (by decide +kernel)
  have th2_37_0 : fld h2 37 0 = fld h 37 0 := Qh2.f (a1 := 37) (a2 := 37) (j1 := 0) (j2 := 1) (by decide +kernel) (by first | decide | exact ⟨by decide, by decide⟩) (by first | decide | exact ⟨by decide, by decide⟩)
  have Zh2 : yM h2 = (yM h) := (yM_fr Qh2 (by decide +kernel) (I.b (a1 := 37) (a2 := 37) (j1 := 86) (j2 := 87) (lo := 0) (hi := 6) (by decide +kernel) (r := 37) (j := 86) (by decide) (by decide) (by decide) (by decide)).2).trans (rfl : yM h = yM h)
  have G1 : n13 168 h2 (yNm0 (yM h 37 0)) := f1
  refine zwW_p [(1, 0, 2)] (q := 5) (ls' := [(2, 37), (0, a)]) (st' := [(2, 37)]) (by decide +kernel) rfl ?_
  refine zwW_gc Ih2 (kd := 13) (bn := 56) (n := 97) (c := 168) (nx := 8) (by decide +kernel) ?_
  refine zwW_p [(0, 12, 0), (1, 0, 2)] (q := 11) (ls' := [(2, 37), (0, a)]) (st' := [(2, 37), (0, 12), (2, 168)]) (by decide +kernel) rfl ?_
  refine zwW_gc Ih2 (kd := 13) (bn := 12) (n := 97) (c := 71) (nx := 14) (by decide +kernel) ?_
  refine zwW_p [(1, 1, 0)] (q := 15) (ls' := [(2, 37), (0, a)]) (st' := [(0, a), (2, 71), (0, 12), (2, 168)]) (by decide +kernel) rfl ?_
  have ib1 : 0 ≤ a ∧ a < ((8 : Nat) : Int) := (by first | omega | exact ⟨by omega, by omega⟩)
  refine zwW_al Ih2 (a1 := 71) (a2 := 71) (kd := 20) (n := 8) (t := 0) (lo := -2147483648) (hi := 2147483647) (nx := 16) (by decide +kernel) (by first | decide | exact ⟨by decide, by decide⟩) ib1 ?_
  intro v3 ev3 lv3 uv3
  have sv3 : v3 = (yM h) 71 a.toNat := Eq.trans ev3 (Eq.trans (Eq.symm (yM_p (h := h2) (a := 71) (n := 8) (i := a.toNat) rfl (zit ib1))) (Eq.trans (congrFun (congrFun Zh2 71) a.toNat) rfl))
  refine zwW_as Ih2 (a1 := 168) (a2 := 168) (n := 13) (lo := -2147483648) (hi := 2147483647) (nx := 17) (by decide +kernel) (by first | decide | exact ⟨by decide, by decide⟩) (by first | decide | exact ⟨by decide, by decide⟩) (by first | omega | exact ⟨by omega, by omega⟩) ?_
  intro h4 eh4 Ih4
  have th4_37_0 : fld h4 37 0 = fld h2 37 0 := by rw [eh4]; exact fld_wr (by decide)
  have G16 : n13 168 h4 (zu (yNm0 (yM h 37 0)) 12 (yM h 71 a.toNat)) := G1.zu (fld_zu (Ih2.s (a1 := 168) (a2 := 168) (k := 20) (n := 13) (by decide +kernel) (by decide) (by decide)) (by decide) eh4) sv3
  have Vh4 : mRq q h4 := Vh2.fr (zMR.one (a1 := 168) (a2 := 168) (j1 := 0) (j2 := 13) (by first | decide | exact ⟨by decide, by decide⟩) (by first | decide | exact ⟨by decide, by decide⟩) eh4) (by decide +kernel)
  have Zh4 : yM h4 = (yM h) := (yM_fr (ms := [(168, 168, 0, 13)]) (zMR.one (a1 := 168) (a2 := 168) (j1 := 0) (j2 := 13) (by first | decide | exact ⟨by decide, by decide⟩) (by first | decide | exact ⟨by decide, by decide⟩) eh4) (by decide +kernel) (Ih2.b (a1 := 37) (a2 := 37) (j1 := 86) (j2 := 87) (lo := 0) (hi := 6) (by decide +kernel) (r := 37) (j := 86) (by decide) (by decide) (by decide) (by decide)).2).trans Zh2
  have Rh4 : zMR ms155 h h4 := Rh2.w (a1 := 168) (a2 := 168) (j1 := 0) (j2 := 13) (by decide +kernel) (by first | decide | exact ⟨by decide, by decide⟩) (by first | decide | exact ⟨by decide, by decide⟩) eh4
  refine zwW_p [(1, 0, 2), (0, 2, 0)] (q := 19) (ls' := [(2, 37), (0, a)]) (st' := [(0, 2), (2, 37)]) (by decide +kernel) rfl ?_
  refine zwW_cm Ih4 (op := 60) (k' := 137) (n := 1) (kd := 13) (m := 97) (nx := 22) (r := 37) (tl := [(0, 2)]) (st' := []) (by decide +kernel) rfl (by decide +kernel) rfl (m137_e h4 Ih4 2 (by decide) (by decide) Vh4.2.1 Vh4.1 (G16.ns (eNs_dut ok O155))) ?_
  rintro v5 h8 ⟨Ih8, Qh8, f6, f7⟩
  have Rh8 : zMR ms155 h h8 := Rh4.tr Qh8 (by decide +kernel)
  have Vh8 : mRq q h8 := Vh4.fr Qh8 (by decide +kernel)
  have th8_37_0 : fld h8 37 0 = fld h4 37 0 := Qh8.f (a1 := 37) (a2 := 37) (j1 := 0) (j2 := 1) (by decide +kernel) (by first | decide | exact ⟨by decide, by decide⟩) (by first | decide | exact ⟨by decide, by decide⟩)
  have Zh8 : yM h8 = (yM h) := (yM_fr Qh8 (by decide +kernel) (Ih4.b (a1 := 37) (a2 := 37) (j1 := 86) (j2 := 87) (lo := 0) (hi := 6) (by decide +kernel) (r := 37) (j := 86) (by decide) (by decide) (by decide) (by decide)).2).trans Zh4
  have A19 : v5 = q 2 (yM h 37 0) (zu (yNm0 (yM h 37 0)) 12 (yM h 71 a.toNat)) := by
    have z := f7
    rw [z, G16.tl, Vh4.2.2.2 _ _ _ (by decide) (by decide), show fld h4 37 0 = yM h 37 0 by show _ = fld h 37 0; omega]
  refine zwW_cs (k' := 129) (n := 1) (nx := 25) (as := [(0, v5)]) (st' := []) (by decide +kernel) rfl (m129 h8 v5 (by omega)) rfl ?_
  rintro v9 _ ⟨rfl, f10, f11, f12⟩
  refine zwW_ret (nx := 26) (a := 0) (b := 0) (by decide +kernel) rfl (Or.inl rfl) ?_
  exact ⟨Ih8, Rh8, by omega, by omega, by unfold yDut; omega⟩
-- WheelLandModel.canHand(I)Z
theorem m156_z {sc : List Int} (h : Hp) (I : zI h) (a : Int) (p1 : 0 ≤ a) (p2 : a ≤ 19) : zwC sc 1 156 [(2, 37), (0, a)] h (zwRt 0 (fun x g => h = g ∧ (-2147483648 ≤ x ∧ x ≤ 2147483647) ∧ (x = yCh0 (yM h) a.toNat))) := by
  refine zwC_of (D := 0) 3 (by decide +kernel) rfl (ls := [(2, 37), (0, a), (9, 0)]) rfl ?_
  have u0 : yM h 37 0 = fld h 37 0 := rfl
  have u1 : yM h 37 1 = fld h 37 1 := rfl
  have u2 : yM h 37 2 = fld h 37 2 := rfl
  have u64 : yM h 37 64 = fld h 37 64 := rfl
  have u78 : yM h 37 78 = fld h 37 78 := rfl
  refine zwW_p [(1, 0, 2)] (q := 1) (ls' := [(2, 37), (0, a), (9, 0)]) (st' := [(2, 37)]) (by decide +kernel) rfl ?_
  refine zwW_gc I (kd := 13) (bn := 20) (n := 97) (c := 79) (nx := 4) (by decide +kernel) ?_
  refine zwW_p [(1, 1, 0)] (q := 5) (ls' := [(2, 37), (0, a), (9, 0)]) (st' := [(0, a), (2, 79)]) (by decide +kernel) rfl ?_
  have ib1 : 0 ≤ a ∧ a < ((20 : Nat) : Int) := (by first | omega | exact ⟨by omega, by omega⟩)
  refine zwW_al I (a1 := 79) (a2 := 79) (kd := 20) (n := 20) (t := 0) (lo := 0) (hi := 7) (nx := 6) (by decide +kernel) (by first | decide | exact ⟨by decide, by decide⟩) ib1 ?_
  intro v1 ev1 lv1 uv1
  have sv1 : v1 = (yM h) 79 a.toNat := Eq.trans ev1 (Eq.trans (Eq.symm (yM_p (h := h) (a := 79) (n := 20) (i := a.toNat) rfl (zit ib1))) (Eq.trans (congrFun (congrFun (rfl : yM h = yM h) 79) a.toNat) rfl))
  refine zwW_p [(2, 2, 0), (1, 0, 2)] (q := 8) (ls' := [(2, 37), (0, a), (0, v1)]) (st' := [(2, 37)]) (by decide +kernel) rfl ?_
  refine zwW_gc I (kd := 13) (bn := 8) (n := 97) (c := 67) (nx := 11) (by decide +kernel) ?_
  refine zwW_p [(1, 2, 0)] (q := 12) (ls' := [(2, 37), (0, a), (0, v1)]) (st' := [(0, v1), (2, 67)]) (by decide +kernel) rfl ?_
  have ib2 : 0 ≤ v1 ∧ v1 < ((8 : Nat) : Int) := (by first | omega | exact ⟨by omega, by omega⟩)
  refine zwW_al I (a1 := 67) (a2 := 67) (kd := 20) (n := 8) (t := 0) (lo := -2147483648) (hi := 2147483647) (nx := 13) (by decide +kernel) (by first | decide | exact ⟨by decide, by decide⟩) ib2 ?_
  intro v2 ev2 lv2 uv2
  have sv2 : v2 = (yM h) 67 (((yM h) 79 a.toNat).toNat) := Eq.trans ev2 (Eq.trans (Eq.symm (yM_p (h := h) (a := 67) (n := 8) (i := v1.toNat) rfl (zit ib2))) (Eq.trans (congrArg (yM h 67) (show v1.toNat = ((yM h) 79 a.toNat).toNat by rw [sv1])) (Eq.trans (congrFun (congrFun (rfl : yM h = yM h) 67) (((yM h) 79 a.toNat).toNat)) rfl)))
  refine zwW_p [(1, 0, 2)] (q := 14) (ls' := [(2, 37), (0, a), (0, v1)]) (st' := [(2, 37), (0, v2)]) (by decide +kernel) rfl ?_
  refine zwW_gc I (kd := 13) (bn := 9) (n := 97) (c := 68) (nx := 17) (by decide +kernel) ?_
  refine zwW_p [(1, 2, 0)] (q := 18) (ls' := [(2, 37), (0, a), (0, v1)]) (st' := [(0, v1), (2, 68), (0, v2)]) (by decide +kernel) rfl ?_
  refine zwW_al I (a1 := 68) (a2 := 68) (kd := 20) (n := 8) (t := 0) (lo := -2147483648) (hi := 2147483647) (nx := 19) (by decide +kernel) (by first | decide | exact ⟨by decide, by decide⟩) ib2 ?_
  intro v3 ev3 lv3 uv3
  have sv3 : v3 = (yM h) 68 (((yM h) 79 a.toNat).toNat) := Eq.trans ev3 (Eq.trans (Eq.symm (yM_p (h := h) (a := 68) (n := 8) (i := v1.toNat) rfl (zit ib2))) (Eq.trans (congrArg (yM h 68) (show v1.toNat = ((yM h) 79 a.toNat).toNat by rw [sv1])) (Eq.trans (congrFun (congrFun (rfl : yM h = yM h) 68) (((yM h) 79 a.toNat).toNat)) rfl)))
  refine zwW_adw (nx := 20) (by decide +kernel) ?_
  intro v4 ev4 lv4 uv4
  have Ev4 : v4 = w32 (((yM h) 67 (((yM h) 79 a.toNat).toNat)) + ((yM h) 68 (((yM h) 79 a.toNat).toNat))) := by rw [ev4, sv2, sv3]
  refine zwif_le (q := 42) (nx := 23) (by decide +kernel) (fun c5 => ?_) (fun c5 => ?_)
  · refine zwW_p [(0, 0, 0)] (q := 43) (ls' := [(2, 37), (0, a), (0, v1)]) (st' := [(0, 0)]) (by decide +kernel) rfl ?_
    refine zwW_ret (nx := 44) (a := 1) (b := 0) (by decide +kernel) rfl (Or.inr (Or.inl ⟨rfl, Or.inl rfl⟩)) ?_
    exact ⟨rfl, by omega, by unfold yCh0; (repeat' (first | rw [if_pos (by omega)] | rw [if_neg (by omega)])); all_goals (first | rfl | omega)⟩
  · refine zwW_p [(1, 0, 2)] (q := 24) (ls' := [(2, 37), (0, a), (0, v1)]) (st' := [(2, 37)]) (by decide +kernel) rfl ?_
    refine zwW_gc I (kd := 13) (bn := 25) (n := 97) (c := 84) (nx := 27) (by decide +kernel) ?_
    refine zwW_p [(1, 1, 0)] (q := 28) (ls' := [(2, 37), (0, a), (0, v1)]) (st' := [(0, a), (2, 84)]) (by decide +kernel) rfl ?_
    refine zwW_al I (a1 := 84) (a2 := 84) (kd := 20) (n := 20) (t := 0) (lo := -2147483648) (hi := 2147483647) (nx := 29) (by decide +kernel) (by first | decide | exact ⟨by decide, by decide⟩) ib1 ?_
    intro v6 ev6 lv6 uv6
    have sv6 : v6 = (yM h) 84 a.toNat := Eq.trans ev6 (Eq.trans (Eq.symm (yM_p (h := h) (a := 84) (n := 20) (i := a.toNat) rfl (zit ib1))) (Eq.trans (congrFun (congrFun (rfl : yM h = yM h) 84) a.toNat) rfl))
    refine zwW_p [(1, 0, 2)] (q := 30) (ls' := [(2, 37), (0, a), (0, v1)]) (st' := [(2, 37), (0, v6)]) (by decide +kernel) rfl ?_
    refine zwW_gc I (kd := 13) (bn := 11) (n := 97) (c := 70) (nx := 33) (by decide +kernel) ?_
    refine zwW_p [(1, 2, 0)] (q := 34) (ls' := [(2, 37), (0, a), (0, v1)]) (st' := [(0, v1), (2, 70), (0, v6)]) (by decide +kernel) rfl ?_
    refine zwW_al I (a1 := 70) (a2 := 70) (kd := 20) (n := 8) (t := 0) (lo := -2147483648) (hi := 2147483647) (nx := 35) (by decide +kernel) (by first | decide | exact ⟨by decide, by decide⟩) ib2 ?_
    intro v7 ev7 lv7 uv7
    have sv7 : v7 = (yM h) 70 (((yM h) 79 a.toNat).toNat) := Eq.trans ev7 (Eq.trans (Eq.symm (yM_p (h := h) (a := 70) (n := 8) (i := v1.toNat) rfl (zit ib2))) (Eq.trans (congrArg (yM h 70) (show v1.toNat = ((yM h) 79 a.toNat).toNat by rw [sv1])) (Eq.trans (congrFun (congrFun (rfl : yM h = yM h) 70) (((yM h) 79 a.toNat).toNat)) rfl)))
    refine zwic_lt (q := 42) (nx := 38) (by decide +kernel) (fun c8 => ?_) (fun c8 => ?_)
    · refine zwW_p [(0, 0, 0)] (q := 43) (ls' := [(2, 37), (0, a), (0, v1)]) (st' := [(0, 0)]) (by decide +kernel) rfl ?_
      refine zwW_ret (nx := 44) (a := 1) (b := 0) (by decide +kernel) rfl (Or.inr (Or.inl ⟨rfl, Or.inl rfl⟩)) ?_
      exact ⟨rfl, by omega, by unfold yCh0; (repeat' (first | rw [if_pos (by omega)] | rw [if_neg (by omega)])); all_goals (first | rfl | omega)⟩
    · refine zwW_p [(0, 1, 0), (24, 43, 0)] (q := 43) (ls' := [(2, 37), (0, a), (0, v1)]) (st' := [(0, 1)]) (by decide +kernel) rfl ?_
      refine zwW_ret (nx := 44) (a := 1) (b := 0) (by decide +kernel) rfl (Or.inr (Or.inl ⟨rfl, Or.inr rfl⟩)) ?_
      exact ⟨rfl, by omega, by unfold yCh0; (repeat' (first | rw [if_pos (by omega)] | rw [if_neg (by omega)])); all_goals (first | rfl | omega)⟩
-- WheelLandModel.canMill(I)Z
theorem m157_z {sc : List Int} (h : Hp) (I : zI h) (a : Int) (q : qT) (p1 : 0 ≤ a) (p2 : a ≤ 19) (pv : a < fld h 37 2) (V : mRq q h) (ok : yOK (yM h)) : zwC sc 5 157 [(2, 37), (0, a)] h (zwRt 0 (fun x g => zI g ∧ zMR ms157 h g ∧ (-2147483648 ≤ x ∧ x ≤ 2147483647) ∧ (x = yCm1 q (yM h) a.toNat))) := by
  refine zwC_of (D := 4) 3 (by decide +kernel) rfl (ls := [(2, 37), (0, a), (9, 0)]) rfl ?_
  have R : zMR ms157 h h := zMR.rf _ _
  have u1 : yM h 37 1 = fld h 37 1 := rfl
  have u2 : yM h 37 2 = fld h 37 2 := rfl
  have KH := ok.ho (k := a.toNat) (by show _ < fld h 37 2; omega)
  refine zwW_p [(1, 0, 2)] (q := 1) (ls' := [(2, 37), (0, a), (9, 0)]) (st' := [(2, 37)]) (by decide +kernel) rfl ?_
  refine zwW_gc I (kd := 13) (bn := 20) (n := 97) (c := 79) (nx := 4) (by decide +kernel) ?_
  refine zwW_p [(1, 1, 0)] (q := 5) (ls' := [(2, 37), (0, a), (9, 0)]) (st' := [(0, a), (2, 79)]) (by decide +kernel) rfl ?_
  have ib1 : 0 ≤ a ∧ a < ((20 : Nat) : Int) := (by first | omega | exact ⟨by omega, by omega⟩)
  refine zwW_al I (a1 := 79) (a2 := 79) (kd := 20) (n := 20) (t := 0) (lo := 0) (hi := 7) (nx := 6) (by decide +kernel) (by first | decide | exact ⟨by decide, by decide⟩) ib1 ?_
  intro v1 ev1 lv1 uv1
  have sv1 : v1 = (yM h) 79 a.toNat := Eq.trans ev1 (Eq.trans (Eq.symm (yM_p (h := h) (a := 79) (n := 20) (i := a.toNat) rfl (zit ib1))) (Eq.trans (congrFun (congrFun (rfl : yM h = yM h) 79) a.toNat) rfl))
  refine zwW_p [(2, 2, 0), (1, 0, 2)] (q := 8) (ls' := [(2, 37), (0, a), (0, v1)]) (st' := [(2, 37)]) (by decide +kernel) rfl ?_
  refine zwW_gc I (kd := 13) (bn := 10) (n := 97) (c := 69) (nx := 11) (by decide +kernel) ?_
  refine zwW_p [(1, 2, 0)] (q := 12) (ls' := [(2, 37), (0, a), (0, v1)]) (st' := [(0, v1), (2, 69)]) (by decide +kernel) rfl ?_
  have ib2 : 0 ≤ v1 ∧ v1 < ((8 : Nat) : Int) := (by first | omega | exact ⟨by omega, by omega⟩)
  refine zwW_al I (a1 := 69) (a2 := 69) (kd := 20) (n := 8) (t := 0) (lo := -2147483648) (hi := 2147483647) (nx := 13) (by decide +kernel) (by first | decide | exact ⟨by decide, by decide⟩) ib2 ?_
  intro v2 ev2 lv2 uv2
  have sv2 : v2 = (yM h) 69 (((yM h) 79 a.toNat).toNat) := Eq.trans ev2 (Eq.trans (Eq.symm (yM_p (h := h) (a := 69) (n := 8) (i := v1.toNat) rfl (zit ib2))) (Eq.trans (congrArg (yM h 69) (show v1.toNat = ((yM h) 79 a.toNat).toNat by rw [sv1])) (Eq.trans (congrFun (congrFun (rfl : yM h = yM h) 69) (((yM h) 79 a.toNat).toNat)) rfl)))
  refine zwif_le (q := 41) (nx := 16) (by decide +kernel) (fun c3 => ?_) (fun c3 => ?_)
  · refine zwW_p [(0, 0, 0)] (q := 42) (ls' := [(2, 37), (0, a), (0, v1)]) (st' := [(0, 0)]) (by decide +kernel) rfl ?_
    refine zwW_ret (nx := 43) (a := 1) (b := 0) (by decide +kernel) rfl (Or.inr (Or.inl ⟨rfl, Or.inl rfl⟩)) ?_
    exact ⟨I, R, by omega, by unfold yCm1 yCm0; (repeat' (first | rw [if_pos (by omega)] | rw [if_neg (by omega)])); all_goals (first | rfl | omega)⟩
  · refine zwW_p [(1, 0, 2)] (q := 17) (ls' := [(2, 37), (0, a), (0, v1)]) (st' := [(2, 37)]) (by decide +kernel) rfl ?_
    refine zwW_gc I (kd := 13) (bn := 25) (n := 97) (c := 84) (nx := 20) (by decide +kernel) ?_
    refine zwW_p [(1, 1, 0)] (q := 21) (ls' := [(2, 37), (0, a), (0, v1)]) (st' := [(0, a), (2, 84)]) (by decide +kernel) rfl ?_
    refine zwW_al I (a1 := 84) (a2 := 84) (kd := 20) (n := 20) (t := 0) (lo := -2147483648) (hi := 2147483647) (nx := 22) (by decide +kernel) (by first | decide | exact ⟨by decide, by decide⟩) ib1 ?_
    intro v4 ev4 lv4 uv4
    have sv4 : v4 = (yM h) 84 a.toNat := Eq.trans ev4 (Eq.trans (Eq.symm (yM_p (h := h) (a := 84) (n := 20) (i := a.toNat) rfl (zit ib1))) (Eq.trans (congrFun (congrFun (rfl : yM h = yM h) 84) a.toNat) rfl))
    refine zwW_p [(1, 0, 2)] (q := 23) (ls' := [(2, 37), (0, a), (0, v1)]) (st' := [(2, 37), (0, v4)]) (by decide +kernel) rfl ?_
    refine zwW_gc I (kd := 13) (bn := 12) (n := 97) (c := 71) (nx := 26) (by decide +kernel) ?_
    refine zwW_p [(1, 2, 0)] (q := 27) (ls' := [(2, 37), (0, a), (0, v1)]) (st' := [(0, v1), (2, 71), (0, v4)]) (by decide +kernel) rfl ?_
    refine zwW_al I (a1 := 71) (a2 := 71) (kd := 20) (n := 8) (t := 0) (lo := -2147483648) (hi := 2147483647) (nx := 28) (by decide +kernel) (by first | decide | exact ⟨by decide, by decide⟩) ib2 ?_
    intro v5 ev5 lv5 uv5
    have sv5 : v5 = (yM h) 71 (((yM h) 79 a.toNat).toNat) := Eq.trans ev5 (Eq.trans (Eq.symm (yM_p (h := h) (a := 71) (n := 8) (i := v1.toNat) rfl (zit ib2))) (Eq.trans (congrArg (yM h 71) (show v1.toNat = ((yM h) 79 a.toNat).toNat by rw [sv1])) (Eq.trans (congrFun (congrFun (rfl : yM h = yM h) 71) (((yM h) 79 a.toNat).toNat)) rfl)))
    refine zwW_p [(1, 0, 2), (1, 2, 0)] (q := 30) (ls' := [(2, 37), (0, a), (0, v1)]) (st' := [(0, v1), (2, 37), (0, v5), (0, v4)]) (by decide +kernel) rfl ?_
    refine zwW_cm I (op := 60) (k' := 155) (n := 1) (kd := 13) (m := 97) (nx := 33) (r := 37) (tl := [(0, v1)]) (st' := [(0, v5), (0, v4)]) (by decide +kernel) rfl (by decide +kernel) rfl (m155_z h I v1 q (by omega) (by omega) (by omega) V (by rw [(rfl : yM h = yM h)]; exact ok)) ?_
    rintro v6 h10 ⟨Ih10, Qh10, f7, f8, f9⟩
    have Rh10 : zMR ms157 h h10 := R.tr Qh10 (by decide +kernel)
    have Vh10 : mRq q h10 := V.fr Qh10 (by decide +kernel)
    have th10_37_1 : fld h10 37 1 = fld h 37 1 := Qh10.f (a1 := 37) (a2 := 37) (j1 := 1) (j2 := 2) (by decide +kernel) (by first | decide | exact ⟨by decide, by decide⟩) (by first | decide | exact ⟨by decide, by decide⟩)
    have sv6 : v6 = yDut q (yM h) (((yM h) 79 a.toNat).toNat) := by rw [f9, sv1]
    have Zh10 : yM h10 = (yM h) := (yM_fr Qh10 (by decide +kernel) (I.b (a1 := 37) (a2 := 37) (j1 := 86) (j2 := 87) (lo := 0) (hi := 6) (by decide +kernel) (r := 37) (j := 86) (by decide) (by decide) (by decide) (by decide)).2).trans (rfl : yM h = yM h)
    refine zwW_adw (nx := 34) (by decide +kernel) ?_
    intro v11 ev11 lv11 uv11
    have Ev11 : v11 = w32 (((yM h) 71 (((yM h) 79 a.toNat).toNat)) + (yDut q (yM h) (((yM h) 79 a.toNat).toNat))) := by rw [ev11, sv5, sv6]
    refine zwic_lt (q := 41) (nx := 37) (by decide +kernel) (fun c12 => ?_) (fun c12 => ?_)
    · refine zwW_p [(0, 0, 0)] (q := 42) (ls' := [(2, 37), (0, a), (0, v1)]) (st' := [(0, 0)]) (by decide +kernel) rfl ?_
      refine zwW_ret (nx := 43) (a := 1) (b := 0) (by decide +kernel) rfl (Or.inr (Or.inl ⟨rfl, Or.inl rfl⟩)) ?_
      exact ⟨Ih10, Rh10, by omega, by unfold yCm1 yCm0; (repeat' (first | rw [if_pos (by omega)] | rw [if_neg (by omega)])); all_goals (first | rfl | omega)⟩
    · refine zwW_p [(0, 1, 0), (24, 42, 0)] (q := 42) (ls' := [(2, 37), (0, a), (0, v1)]) (st' := [(0, 1)]) (by decide +kernel) rfl ?_
      refine zwW_ret (nx := 43) (a := 1) (b := 0) (by decide +kernel) rfl (Or.inr (Or.inl ⟨rfl, Or.inr rfl⟩)) ?_
      exact ⟨Ih10, Rh10, by omega, by unfold yCm1 yCm0; (repeat' (first | rw [if_pos (by omega)] | rw [if_neg (by omega)])); all_goals (first | rfl | omega)⟩
-- WheelLandModel.likes(I)I
theorem m62_z {sc : List Int} (h : Hp) (I : zI h) (a : Int) (q : qT) (V : mRq q h) (ok : yOK (yM h)) : zwC sc 6 62 [(2, 37), (0, a)] h (zwRt 0 (fun x g => zI g ∧ zMR ms62 h g ∧ (-2147483648 ≤ x ∧ x ≤ 2147483647) ∧ (-1 ≤ x ∧ x ≤ 1) ∧ (x = yLikA q (yM h) a))) := by
  refine zwC_of (D := 5) 4 (by decide +kernel) rfl (ls := [(2, 37), (0, a), (9, 0), (9, 0)]) rfl ?_
  have R : zMR ms62 h h := zMR.rf _ _
  have u1 : yM h 37 1 = fld h 37 1 := rfl
  have u2 : yM h 37 2 = fld h 37 2 := rfl
  refine zwW_p [(1, 0, 2), (1, 1, 0)] (q := 2) (ls' := [(2, 37), (0, a), (9, 0), (9, 0)]) (st' := [(0, a), (2, 37)]) (by decide +kernel) rfl ?_
  refine zwW_cm I (op := 60) (k' := 111) (n := 1) (kd := 13) (m := 97) (nx := 5) (r := 37) (tl := [(0, a)]) (st' := []) (by decide +kernel) rfl (by decide +kernel) rfl (m111 h I a) ?_
  rintro x _ ⟨rfl, ⟨rfl, c1⟩ | ⟨rfl, c1⟩⟩
  · refine zwif_ne (q := 10) (nx := 8) (by decide +kernel) (fun c2 => ?_) (fun c2 => ?_)
    · have KH := ok.ho (k := a.toNat) (by show _ < fld h 37 2; omega)
      refine zwW_p [(1, 0, 2)] (q := 11) (ls' := [(2, 37), (0, a), (9, 0), (9, 0)]) (st' := [(2, 37)]) (by decide +kernel) rfl ?_
      refine zwW_gc I (kd := 13) (bn := 20) (n := 97) (c := 79) (nx := 14) (by decide +kernel) ?_
      refine zwW_p [(1, 1, 0)] (q := 15) (ls' := [(2, 37), (0, a), (9, 0), (9, 0)]) (st' := [(0, a), (2, 79)]) (by decide +kernel) rfl ?_
      have ib1 : 0 ≤ a ∧ a < ((20 : Nat) : Int) := (by first | omega | exact ⟨by omega, by omega⟩)
      refine zwW_al I (a1 := 79) (a2 := 79) (kd := 20) (n := 20) (t := 0) (lo := 0) (hi := 7) (nx := 16) (by decide +kernel) (by first | decide | exact ⟨by decide, by decide⟩) ib1 ?_
      intro v3 ev3 lv3 uv3
      have sv3 : v3 = (yM h) 79 a.toNat := Eq.trans ev3 (Eq.trans (Eq.symm (yM_p (h := h) (a := 79) (n := 20) (i := a.toNat) rfl (zit ib1))) (Eq.trans (congrFun (congrFun (rfl : yM h = yM h) 79) a.toNat) rfl))
      refine zwW_p [(2, 2, 0), (1, 0, 2)] (q := 18) (ls' := [(2, 37), (0, a), (0, v3), (9, 0)]) (st' := [(2, 37)]) (by decide +kernel) rfl ?_
      refine zwW_gc I (kd := 13) (bn := 11) (n := 97) (c := 70) (nx := 21) (by decide +kernel) ?_
      refine zwW_p [(1, 2, 0)] (q := 22) (ls' := [(2, 37), (0, a), (0, v3), (9, 0)]) (st' := [(0, v3), (2, 70)]) (by decide +kernel) rfl ?_
      have ib2 : 0 ≤ v3 ∧ v3 < ((8 : Nat) : Int) := (by first | omega | exact ⟨by omega, by omega⟩)
      refine zwW_al I (a1 := 70) (a2 := 70) (kd := 20) (n := 8) (t := 0) (lo := -2147483648) (hi := 2147483647) (nx := 23) (by decide +kernel) (by first | decide | exact ⟨by decide, by decide⟩) ib2 ?_
      intro v4 ev4 lv4 uv4
      have sv4 : v4 = (yM h) 70 (((yM h) 79 a.toNat).toNat) := Eq.trans ev4 (Eq.trans (Eq.symm (yM_p (h := h) (a := 70) (n := 8) (i := v3.toNat) rfl (zit ib2))) (Eq.trans (congrArg (yM h 70) (show v3.toNat = ((yM h) 79 a.toNat).toNat by rw [sv3])) (Eq.trans (congrFun (congrFun (rfl : yM h = yM h) 70) (((yM h) 79 a.toNat).toNat)) rfl)))
      refine zwW_p [(1, 0, 2)] (q := 24) (ls' := [(2, 37), (0, a), (0, v3), (9, 0)]) (st' := [(2, 37), (0, v4)]) (by decide +kernel) rfl ?_
      refine zwW_gc I (kd := 13) (bn := 12) (n := 97) (c := 71) (nx := 27) (by decide +kernel) ?_
      refine zwW_p [(1, 2, 0)] (q := 28) (ls' := [(2, 37), (0, a), (0, v3), (9, 0)]) (st' := [(0, v3), (2, 71), (0, v4)]) (by decide +kernel) rfl ?_
      refine zwW_al I (a1 := 71) (a2 := 71) (kd := 20) (n := 8) (t := 0) (lo := -2147483648) (hi := 2147483647) (nx := 29) (by decide +kernel) (by first | decide | exact ⟨by decide, by decide⟩) ib2 ?_
      intro v5 ev5 lv5 uv5
      have sv5 : v5 = (yM h) 71 (((yM h) 79 a.toNat).toNat) := Eq.trans ev5 (Eq.trans (Eq.symm (yM_p (h := h) (a := 71) (n := 8) (i := v3.toNat) rfl (zit ib2))) (Eq.trans (congrArg (yM h 71) (show v3.toNat = ((yM h) 79 a.toNat).toNat by rw [sv3])) (Eq.trans (congrFun (congrFun (rfl : yM h = yM h) 71) (((yM h) 79 a.toNat).toNat)) rfl)))
      refine zwW_p [(1, 0, 2), (1, 2, 0)] (q := 31) (ls' := [(2, 37), (0, a), (0, v3), (9, 0)]) (st' := [(0, v3), (2, 37), (0, v5), (0, v4)]) (by decide +kernel) rfl ?_
      refine zwW_cm I (op := 60) (k' := 155) (n := 1) (kd := 13) (m := 97) (nx := 34) (r := 37) (tl := [(0, v3)]) (st' := [(0, v5), (0, v4)]) (by decide +kernel) rfl (by decide +kernel) rfl (m155_z h I v3 q (by omega) (by omega) (by omega) V (by rw [(rfl : yM h = yM h)]; exact ok)) ?_
      rintro v6 h10 ⟨Ih10, Qh10, f7, f8, f9⟩
      have Rh10 : zMR ms62 h h10 := R.tr Qh10 (by decide +kernel)
      have Vh10 : mRq q h10 := V.fr Qh10 (by decide +kernel)
      have th10_37_1 : fld h10 37 1 = fld h 37 1 := Qh10.f (a1 := 37) (a2 := 37) (j1 := 1) (j2 := 2) (by decide +kernel) (by first | decide | exact ⟨by decide, by decide⟩) (by first | decide | exact ⟨by decide, by decide⟩)
      have th10_37_2 : fld h10 37 2 = fld h 37 2 := Qh10.f (a1 := 37) (a2 := 37) (j1 := 2) (j2 := 3) (by decide +kernel) (by first | decide | exact ⟨by decide, by decide⟩) (by first | decide | exact ⟨by decide, by decide⟩)
      have sv6 : v6 = yDut q (yM h) (((yM h) 79 a.toNat).toNat) := by rw [f9, sv3]
      have Zh10 : yM h10 = (yM h) := (yM_fr Qh10 (by decide +kernel) (I.b (a1 := 37) (a2 := 37) (j1 := 86) (j2 := 87) (lo := 0) (hi := 6) (by decide +kernel) (r := 37) (j := 86) (by decide) (by decide) (by decide) (by decide)).2).trans (rfl : yM h = yM h)
      refine zwW_adw (nx := 35) (by decide +kernel) ?_
      intro v11 ev11 lv11 uv11
      have Ev11 : v11 = w32 (((yM h) 71 (((yM h) 79 a.toNat).toNat)) + (yDut q (yM h) (((yM h) 79 a.toNat).toNat))) := by rw [ev11, sv5, sv6]
      refine zwW_p [(1, 0, 2)] (q := 36) (ls' := [(2, 37), (0, a), (0, v3), (9, 0)]) (st' := [(2, 37), (0, v11), (0, v4)]) (by decide +kernel) rfl ?_
      refine zwW_gc Ih10 (kd := 13) (bn := 13) (n := 97) (c := 72) (nx := 39) (by decide +kernel) ?_
      refine zwW_p [(1, 2, 0)] (q := 40) (ls' := [(2, 37), (0, a), (0, v3), (9, 0)]) (st' := [(0, v3), (2, 72), (0, v11), (0, v4)]) (by decide +kernel) rfl ?_
      refine zwW_al Ih10 (a1 := 72) (a2 := 72) (kd := 20) (n := 8) (t := 0) (lo := -2147483648) (hi := 2147483647) (nx := 41) (by decide +kernel) (by first | decide | exact ⟨by decide, by decide⟩) ib2 ?_
      intro v12 ev12 lv12 uv12
      have sv12 : v12 = (yM h) 72 (((yM h) 79 a.toNat).toNat) := Eq.trans ev12 (Eq.trans (Eq.symm (yM_p (h := h10) (a := 72) (n := 8) (i := v3.toNat) rfl (zit ib2))) (Eq.trans (congrArg (yM h10 72) (show v3.toNat = ((yM h) 79 a.toNat).toNat by rw [sv3])) (Eq.trans (congrFun (congrFun Zh10 72) (((yM h) 79 a.toNat).toNat)) rfl)))
      refine zwW_adw (nx := 42) (by decide +kernel) ?_
      intro v13 ev13 lv13 uv13
      have Ev13 : v13 = w32 ((w32 (((yM h) 71 (((yM h) 79 a.toNat).toNat)) + (yDut q (yM h) (((yM h) 79 a.toNat).toNat)))) + ((yM h) 72 (((yM h) 79 a.toNat).toNat))) := by rw [ev13, Ev11, sv12]
      refine zwic_gt (q := 49) (nx := 45) (by decide +kernel) (fun c14 => ?_) (fun c14 => ?_)
      · refine zwW_p [(0, 0, 0), (2, 3, 0), (1, 3, 0)] (q := 52) (ls' := [(2, 37), (0, a), (0, v3), (0, 0)]) (st' := [(0, 0)]) (by decide +kernel) rfl ?_
        refine zwif_eq (q := 65) (nx := 55) (by decide +kernel) (fun c15 => ?_) (fun c15 => ?_)
        · refine zwW_p [(1, 0, 2), (1, 1, 0)] (q := 67) (ls' := [(2, 37), (0, a), (0, v3), (0, 0)]) (st' := [(0, a), (2, 37)]) (by decide +kernel) rfl ?_
          refine zwW_cm Ih10 (op := 60) (k' := 157) (n := 1) (kd := 13) (m := 97) (nx := 70) (r := 37) (tl := [(0, a)]) (st' := []) (by decide +kernel) rfl (by decide +kernel) rfl (m157_z h10 Ih10 a q (by omega) (by omega) (by omega) Vh10 (by rw [Zh10]; exact ok)) ?_
          rintro v16 h19 ⟨Ih19, Qh19, f17, f18⟩
          have Rh19 : zMR ms62 h h19 := Rh10.tr Qh19 (by decide +kernel)
          have Vh19 : mRq q h19 := Vh10.fr Qh19 (by decide +kernel)
          have th19_37_1 : fld h19 37 1 = fld h10 37 1 := Qh19.f (a1 := 37) (a2 := 37) (j1 := 1) (j2 := 2) (by decide +kernel) (by first | decide | exact ⟨by decide, by decide⟩) (by first | decide | exact ⟨by decide, by decide⟩)
          have th19_37_2 : fld h19 37 2 = fld h10 37 2 := Qh19.f (a1 := 37) (a2 := 37) (j1 := 2) (j2 := 3) (by decide +kernel) (by first | decide | exact ⟨by decide, by decide⟩) (by first | decide | exact ⟨by decide, by decide⟩)
          have sv16 : v16 = yCm1 q (yM h) a.toNat := by rw [f18, Zh10]
          have Zh19 : yM h19 = (yM h) := (yM_fr Qh19 (by decide +kernel) (Ih10.b (a1 := 37) (a2 := 37) (j1 := 86) (j2 := 87) (lo := 0) (hi := 6) (by decide +kernel) (r := 37) (j := 86) (by decide) (by decide) (by decide) (by decide)).2).trans Zh10
          refine zwif_eq (q := 75) (nx := 73) (by decide +kernel) (fun c20 => ?_) (fun c20 => ?_)
          · refine zwW_p [(1, 0, 2), (1, 1, 0)] (q := 77) (ls' := [(2, 37), (0, a), (0, v3), (0, 0)]) (st' := [(0, a), (2, 37)]) (by decide +kernel) rfl ?_
            refine zwW_cm Ih19 (op := 60) (k' := 156) (n := 1) (kd := 13) (m := 97) (nx := 80) (r := 37) (tl := [(0, a)]) (st' := []) (by decide +kernel) rfl (by decide +kernel) rfl (m156_z h19 Ih19 a (by omega) (by omega)) ?_
            rintro v21 _ ⟨rfl, f22, f23⟩
            have sv21 : v21 = yCh0 (yM h) a.toNat := by rw [f23, Zh19]
            refine zwif_eq (q := 87) (nx := 83) (by decide +kernel) (fun c24 => ?_) (fun c24 => ?_)
            · refine zwW_p [(0, -1, 0)] (q := 88) (ls' := [(2, 37), (0, a), (0, v3), (0, 0)]) (st' := [(0, -1)]) (by decide +kernel) rfl ?_
              refine zwW_ret (nx := 89) (a := 0) (b := 0) (by decide +kernel) rfl (Or.inl rfl) ?_
              exact ⟨Ih19, Rh19, by omega, by omega, by have H2 := yCm1_c (q := q) (S := yM h) (k := a.toNat); unfold yLikA yCho; rcases yCh0_c (S := yM h) (k := a.toNat) with ⟨H1, H3, H4⟩ | ⟨H1, H3⟩ <;> first | (exfalso; omega) | ((repeat' (first | rw [if_neg (by omega)] | rw [if_pos (by omega)])); all_goals (first | rfl | omega))⟩
            · refine zwW_p [(0, 0, 0), (24, 88, 0)] (q := 88) (ls' := [(2, 37), (0, a), (0, v3), (0, 0)]) (st' := [(0, 0)]) (by decide +kernel) rfl ?_
              refine zwW_ret (nx := 89) (a := 0) (b := 0) (by decide +kernel) rfl (Or.inl rfl) ?_
              exact ⟨Ih19, Rh19, by omega, by omega, by have H2 := yCm1_c (q := q) (S := yM h) (k := a.toNat); unfold yLikA yCho; rcases yCh0_c (S := yM h) (k := a.toNat) with ⟨H1, H3, H4⟩ | ⟨H1, H3⟩ <;> first | (exfalso; omega) | ((repeat' (first | rw [if_pos (by omega)] | rw [if_neg (by omega)])); all_goals (first | rfl | omega))⟩
          · refine zwW_p [(0, 1, 0)] (q := 74) (ls' := [(2, 37), (0, a), (0, v3), (0, 0)]) (st' := [(0, 1)]) (by decide +kernel) rfl ?_
            refine zwW_ret (nx := 75) (a := 0) (b := 0) (by decide +kernel) rfl (Or.inl rfl) ?_
            exact ⟨Ih19, Rh19, by omega, by omega, by have H2 := yCm1_c (q := q) (S := yM h) (k := a.toNat); unfold yLikA yCho; rcases yCh0_c (S := yM h) (k := a.toNat) with ⟨H1, H3, H4⟩ | ⟨H1, H3⟩ <;> first | (exfalso; omega) | ((repeat' (first | rw [if_pos (by omega)] | rw [if_neg (by omega)])); all_goals (first | rfl | omega))⟩
        · exfalso; omega
      · refine zwW_p [(0, 1, 0), (24, 50, 0), (2, 3, 0), (1, 3, 0)] (q := 52) (ls' := [(2, 37), (0, a), (0, v3), (0, 1)]) (st' := [(0, 1)]) (by decide +kernel) rfl ?_
        refine zwif_eq (q := 65) (nx := 55) (by decide +kernel) (fun c25 => ?_) (fun c25 => ?_)
        · exfalso; omega
        · refine zwW_p [(1, 0, 2), (1, 1, 0)] (q := 57) (ls' := [(2, 37), (0, a), (0, v3), (0, 1)]) (st' := [(0, a), (2, 37)]) (by decide +kernel) rfl ?_
          refine zwW_cm Ih10 (op := 60) (k' := 156) (n := 1) (kd := 13) (m := 97) (nx := 60) (r := 37) (tl := [(0, a)]) (st' := []) (by decide +kernel) rfl (by decide +kernel) rfl (m156_z h10 Ih10 a (by omega) (by omega)) ?_
          rintro v26 _ ⟨rfl, f27, f28⟩
          have sv26 : v26 = yCh0 (yM h) a.toNat := by rw [f28, Zh10]
          refine zwif_eq (q := 65) (nx := 63) (by decide +kernel) (fun c29 => ?_) (fun c29 => ?_)
          · refine zwW_p [(1, 0, 2), (1, 1, 0)] (q := 67) (ls' := [(2, 37), (0, a), (0, v3), (0, 1)]) (st' := [(0, a), (2, 37)]) (by decide +kernel) rfl ?_
            refine zwW_cm Ih10 (op := 60) (k' := 157) (n := 1) (kd := 13) (m := 97) (nx := 70) (r := 37) (tl := [(0, a)]) (st' := []) (by decide +kernel) rfl (by decide +kernel) rfl (m157_z h10 Ih10 a q (by omega) (by omega) (by omega) Vh10 (by rw [Zh10]; exact ok)) ?_
            rintro v30 h33 ⟨Ih33, Qh33, f31, f32⟩
            have Rh33 : zMR ms62 h h33 := Rh10.tr Qh33 (by decide +kernel)
            have Vh33 : mRq q h33 := Vh10.fr Qh33 (by decide +kernel)
            have th33_37_1 : fld h33 37 1 = fld h10 37 1 := Qh33.f (a1 := 37) (a2 := 37) (j1 := 1) (j2 := 2) (by decide +kernel) (by first | decide | exact ⟨by decide, by decide⟩) (by first | decide | exact ⟨by decide, by decide⟩)
            have th33_37_2 : fld h33 37 2 = fld h10 37 2 := Qh33.f (a1 := 37) (a2 := 37) (j1 := 2) (j2 := 3) (by decide +kernel) (by first | decide | exact ⟨by decide, by decide⟩) (by first | decide | exact ⟨by decide, by decide⟩)
            have sv30 : v30 = yCm1 q (yM h) a.toNat := by rw [f32, Zh10]
            have Zh33 : yM h33 = (yM h) := (yM_fr Qh33 (by decide +kernel) (Ih10.b (a1 := 37) (a2 := 37) (j1 := 86) (j2 := 87) (lo := 0) (hi := 6) (by decide +kernel) (r := 37) (j := 86) (by decide) (by decide) (by decide) (by decide)).2).trans Zh10
            refine zwif_eq (q := 75) (nx := 73) (by decide +kernel) (fun c34 => ?_) (fun c34 => ?_)
            · refine zwW_p [(1, 0, 2), (1, 1, 0)] (q := 77) (ls' := [(2, 37), (0, a), (0, v3), (0, 1)]) (st' := [(0, a), (2, 37)]) (by decide +kernel) rfl ?_
              refine zwW_cm Ih33 (op := 60) (k' := 156) (n := 1) (kd := 13) (m := 97) (nx := 80) (r := 37) (tl := [(0, a)]) (st' := []) (by decide +kernel) rfl (by decide +kernel) rfl (m156_z h33 Ih33 a (by omega) (by omega)) ?_
              rintro v35 _ ⟨rfl, f36, f37⟩
              have sv35 : v35 = yCh0 (yM h) a.toNat := by rw [f37, Zh33]
              refine zwif_eq (q := 87) (nx := 83) (by decide +kernel) (fun c38 => ?_) (fun c38 => ?_)
              · refine zwW_p [(0, -1, 0)] (q := 88) (ls' := [(2, 37), (0, a), (0, v3), (0, 1)]) (st' := [(0, -1)]) (by decide +kernel) rfl ?_
                refine zwW_ret (nx := 89) (a := 0) (b := 0) (by decide +kernel) rfl (Or.inl rfl) ?_
                exact ⟨Ih33, Rh33, by omega, by omega, by have H2 := yCm1_c (q := q) (S := yM h) (k := a.toNat); unfold yLikA yCho; rcases yCh0_c (S := yM h) (k := a.toNat) with ⟨H1, H3, H4⟩ | ⟨H1, H3⟩ <;> first | (exfalso; omega) | ((repeat' (first | rw [if_neg (by omega)] | rw [if_pos (by omega)])); all_goals (first | rfl | omega))⟩
              · refine zwW_p [(0, 0, 0), (24, 88, 0)] (q := 88) (ls' := [(2, 37), (0, a), (0, v3), (0, 1)]) (st' := [(0, 0)]) (by decide +kernel) rfl ?_
                refine zwW_ret (nx := 89) (a := 0) (b := 0) (by decide +kernel) rfl (Or.inl rfl) ?_
                exact ⟨Ih33, Rh33, by omega, by omega, by have H2 := yCm1_c (q := q) (S := yM h) (k := a.toNat); unfold yLikA yCho; rcases yCh0_c (S := yM h) (k := a.toNat) with ⟨H1, H3, H4⟩ | ⟨H1, H3⟩ <;> first | (exfalso; omega) | ((repeat' (first | rw [if_pos (by omega)] | rw [if_neg (by omega)])); all_goals (first | rfl | omega))⟩
            · refine zwW_p [(0, 1, 0)] (q := 74) (ls' := [(2, 37), (0, a), (0, v3), (0, 1)]) (st' := [(0, 1)]) (by decide +kernel) rfl ?_
              refine zwW_ret (nx := 75) (a := 0) (b := 0) (by decide +kernel) rfl (Or.inl rfl) ?_
              exact ⟨Ih33, Rh33, by omega, by omega, by have H2 := yCm1_c (q := q) (S := yM h) (k := a.toNat); unfold yLikA yCho; rcases yCh0_c (S := yM h) (k := a.toNat) with ⟨H1, H3, H4⟩ | ⟨H1, H3⟩ <;> first | (exfalso; omega) | ((repeat' (first | rw [if_pos (by omega)] | rw [if_neg (by omega)])); all_goals (first | rfl | omega))⟩
          · refine zwW_p [(0, 0, 0)] (q := 64) (ls' := [(2, 37), (0, a), (0, v3), (0, 1)]) (st' := [(0, 0)]) (by decide +kernel) rfl ?_
            refine zwW_ret (nx := 65) (a := 0) (b := 0) (by decide +kernel) rfl (Or.inl rfl) ?_
            exact ⟨Ih10, Rh10, by omega, by omega, by have H2 := yCm1_c (q := q) (S := yM h) (k := a.toNat); unfold yLikA yCho; rcases yCh0_c (S := yM h) (k := a.toNat) with ⟨H1, H3, H4⟩ | ⟨H1, H3⟩ <;> first | (exfalso; omega) | ((repeat' (first | rw [if_pos (by omega)] | rw [if_neg (by omega)])); all_goals (first | rfl | omega))⟩
    · exfalso; omega
  · refine zwif_ne (q := 10) (nx := 8) (by decide +kernel) (fun c39 => ?_) (fun c39 => ?_)
    · exfalso; omega
    · refine zwW_p [(0, -1, 0)] (q := 9) (ls' := [(2, 37), (0, a), (9, 0), (9, 0)]) (st' := [(0, -1)]) (by decide +kernel) rfl ?_
      refine zwW_ret (nx := 10) (a := 0) (b := 0) (by decide +kernel) rfl (Or.inl rfl) ?_
      exact ⟨I, R, by omega, by omega, by have H2 := yCm1_c (q := q) (S := yM h) (k := a.toNat); unfold yLikA yCho; rcases yCh0_c (S := yM h) (k := a.toNat) with ⟨H1, H3, H4⟩ | ⟨H1, H3⟩ <;> first | (exfalso; omega) | ((repeat' (first | rw [if_neg (by omega)] | rw [if_pos (by omega)])); all_goals (first | rfl | omega))⟩
-- WheelLandModel.buys(I)V
theorem m195_z {sc : List Int} (h : Hp) (I : zI h) (a : Int) (q : qT) (p1 : 0 ≤ a) (p2 : a ≤ 19) (pv : a < fld h 37 2) (V : mRq q h) (ok : yOK (yM h)) : zwC sc 7 195 [(2, 37), (0, a)] h (zwRv (fun g => zI g ∧ zMR ms195 h g ∧ (yM g = yByh q (yM h) a.toNat))) := by
  refine zwC_of (D := 6) 5 (by decide +kernel) rfl (ls := [(2, 37), (0, a), (9, 0), (9, 0), (9, 0)]) rfl ?_
  have R : zMR ms195 h h := zMR.rf _ _
  have u1 : yM h 37 1 = fld h 37 1 := rfl
  have u2 : yM h 37 2 = fld h 37 2 := rfl
  have KH := ok.ho (k := a.toNat) (by show _ < fld h 37 2; omega)
  have L0 : yLikA q (yM h) a = yCho (yM h) (yM h 79 a.toNat).toNat (yM h 84 a.toNat) (yDut q (yM h) (yM h 79 a.toNat).toNat) := if_pos ⟨by omega, by show _ < fld h 37 2; omega⟩
  refine zwW_p [(1, 0, 2)] (q := 1) (ls' := [(2, 37), (0, a), (9, 0), (9, 0), (9, 0)]) (st' := [(2, 37)]) (by decide +kernel) rfl ?_
  refine zwW_gc I (kd := 13) (bn := 20) (n := 97) (c := 79) (nx := 4) (by decide +kernel) ?_
  refine zwW_p [(1, 1, 0)] (q := 5) (ls' := [(2, 37), (0, a), (9, 0), (9, 0), (9, 0)]) (st' := [(0, a), (2, 79)]) (by decide +kernel) rfl ?_
  have ib1 : 0 ≤ a ∧ a < ((20 : Nat) : Int) := (by first | omega | exact ⟨by omega, by omega⟩)
  refine zwW_al I (a1 := 79) (a2 := 79) (kd := 20) (n := 20) (t := 0) (lo := 0) (hi := 7) (nx := 6) (by decide +kernel) (by first | decide | exact ⟨by decide, by decide⟩) ib1 ?_
  intro v1 ev1 lv1 uv1
  have sv1 : v1 = (yM h) 79 a.toNat := Eq.trans ev1 (Eq.trans (Eq.symm (yM_p (h := h) (a := 79) (n := 20) (i := a.toNat) rfl (zit ib1))) (Eq.trans (congrFun (congrFun (rfl : yM h = yM h) 79) a.toNat) rfl))
  refine zwW_p [(2, 2, 0), (1, 0, 2), (1, 1, 0)] (q := 9) (ls' := [(2, 37), (0, a), (0, v1), (9, 0), (9, 0)]) (st' := [(0, a), (2, 37)]) (by decide +kernel) rfl ?_
  refine zwW_cm I (op := 60) (k' := 62) (n := 1) (kd := 13) (m := 97) (nx := 12) (r := 37) (tl := [(0, a)]) (st' := []) (by decide +kernel) rfl (by decide +kernel) rfl (m62_z h I a q V (by rw [(rfl : yM h = yM h)]; exact ok)) ?_
  rintro v2 h6 ⟨Ih6, Qh6, f3, f4, f5⟩
  have Rh6 : zMR ms195 h h6 := R.tr Qh6 (by decide +kernel)
  have Vh6 : mRq q h6 := V.fr Qh6 (by decide +kernel)
  have th6_37_1 : fld h6 37 1 = fld h 37 1 := Qh6.f (a1 := 37) (a2 := 37) (j1 := 1) (j2 := 2) (by decide +kernel) (by first | decide | exact ⟨by decide, by decide⟩) (by first | decide | exact ⟨by decide, by decide⟩)
  have th6_37_2 : fld h6 37 2 = fld h 37 2 := Qh6.f (a1 := 37) (a2 := 37) (j1 := 2) (j2 := 3) (by decide +kernel) (by first | decide | exact ⟨by decide, by decide⟩) (by first | decide | exact ⟨by decide, by decide⟩)
  have sv2 : v2 = yLikA q (yM h) a := by rw [f5]
  have Zh6 : yM h6 = (yM h) := (yM_fr Qh6 (by decide +kernel) (I.b (a1 := 37) (a2 := 37) (j1 := 86) (j2 := 87) (lo := 0) (hi := 6) (by decide +kernel) (r := 37) (j := 86) (by decide) (by decide) (by decide) (by decide)).2).trans (rfl : yM h = yM h)
  refine zwW_p [(2, 3, 0), (1, 3, 0), (0, -1, 0)] (q := 15) (ls' := [(2, 37), (0, a), (0, v1), (0, v2), (9, 0)]) (st' := [(0, -1), (0, v2)]) (by decide +kernel) rfl ?_
  refine zwic_ne (q := 31) (nx := 18) (by decide +kernel) (fun c7 => ?_) (fun c7 => ?_)
  · refine zwW_p [(1, 3, 0)] (q := 32) (ls' := [(2, 37), (0, a), (0, v1), (0, v2), (9, 0)]) (st' := [(0, v2)]) (by decide +kernel) rfl ?_
    refine zwif_ne (q := 120) (nx := 35) (by decide +kernel) (fun c8 => ?_) (fun c8 => ?_)
    · refine zwW_p [(1, 0, 2), (1, 2, 0)] (q := 122) (ls' := [(2, 37), (0, a), (0, v1), (0, v2), (9, 0)]) (st' := [(0, v1), (2, 37)]) (by decide +kernel) rfl ?_
      refine zwW_cm Ih6 (op := 60) (k' := 155) (n := 1) (kd := 13) (m := 97) (nx := 125) (r := 37) (tl := [(0, v1)]) (st' := []) (by decide +kernel) rfl (by decide +kernel) rfl (m155_z h6 Ih6 v1 q (by omega) (by omega) (by omega) Vh6 (by rw [Zh6]; exact ok)) ?_
      rintro v9 h13 ⟨Ih13, Qh13, f10, f11, f12⟩
      have Rh13 : zMR ms195 h h13 := Rh6.tr Qh13 (by decide +kernel)
      have Vh13 : mRq q h13 := Vh6.fr Qh13 (by decide +kernel)
      have th13_37_1 : fld h13 37 1 = fld h6 37 1 := Qh13.f (a1 := 37) (a2 := 37) (j1 := 1) (j2 := 2) (by decide +kernel) (by first | decide | exact ⟨by decide, by decide⟩) (by first | decide | exact ⟨by decide, by decide⟩)
      have th13_37_2 : fld h13 37 2 = fld h6 37 2 := Qh13.f (a1 := 37) (a2 := 37) (j1 := 2) (j2 := 3) (by decide +kernel) (by first | decide | exact ⟨by decide, by decide⟩) (by first | decide | exact ⟨by decide, by decide⟩)
      have sv9 : v9 = yDut q (yM h) (((yM h) 79 a.toNat).toNat) := by rw [f12, Zh6, sv1]
      have Zh13 : yM h13 = (yM h) := (yM_fr Qh13 (by decide +kernel) (Ih6.b (a1 := 37) (a2 := 37) (j1 := 86) (j2 := 87) (lo := 0) (hi := 6) (by decide +kernel) (r := 37) (j := 86) (by decide) (by decide) (by decide) (by decide)).2).trans Zh6
      refine zwW_p [(2, 4, 0), (1, 0, 2)] (q := 128) (ls' := [(2, 37), (0, a), (0, v1), (0, v2), (0, v9)]) (st' := [(2, 37)]) (by decide +kernel) rfl ?_
      refine zwW_gc Ih13 (kd := 13) (bn := 25) (n := 97) (c := 84) (nx := 131) (by decide +kernel) ?_
      refine zwW_p [(1, 1, 0), (14, 0, 0)] (q := 133) (ls' := [(2, 37), (0, a), (0, v1), (0, v2), (0, v9)]) (st' := [(0, a), (2, 84), (0, a), (2, 84)]) (by decide +kernel) rfl ?_
      refine zwW_al Ih13 (a1 := 84) (a2 := 84) (kd := 20) (n := 20) (t := 0) (lo := -2147483648) (hi := 2147483647) (nx := 134) (by decide +kernel) (by first | decide | exact ⟨by decide, by decide⟩) ib1 ?_
      intro v14 ev14 lv14 uv14
      have sv14 : v14 = (yM h) 84 a.toNat := Eq.trans ev14 (Eq.trans (Eq.symm (yM_p (h := h13) (a := 84) (n := 20) (i := a.toNat) rfl (zit ib1))) (Eq.trans (congrFun (congrFun Zh13 84) a.toNat) rfl))
      refine zwW_p [(1, 0, 2)] (q := 135) (ls' := [(2, 37), (0, a), (0, v1), (0, v2), (0, v9)]) (st' := [(2, 37), (0, v14), (0, a), (2, 84)]) (by decide +kernel) rfl ?_
      refine zwW_gc Ih13 (kd := 13) (bn := 12) (n := 97) (c := 71) (nx := 138) (by decide +kernel) ?_
      refine zwW_p [(1, 2, 0)] (q := 139) (ls' := [(2, 37), (0, a), (0, v1), (0, v2), (0, v9)]) (st' := [(0, v1), (2, 71), (0, v14), (0, a), (2, 84)]) (by decide +kernel) rfl ?_
      have ib2 : 0 ≤ v1 ∧ v1 < ((8 : Nat) : Int) := (by first | omega | exact ⟨by omega, by omega⟩)
      refine zwW_al Ih13 (a1 := 71) (a2 := 71) (kd := 20) (n := 8) (t := 0) (lo := -2147483648) (hi := 2147483647) (nx := 140) (by decide +kernel) (by first | decide | exact ⟨by decide, by decide⟩) ib2 ?_
      intro v15 ev15 lv15 uv15
      have sv15 : v15 = (yM h) 71 (((yM h) 79 a.toNat).toNat) := Eq.trans ev15 (Eq.trans (Eq.symm (yM_p (h := h13) (a := 71) (n := 8) (i := v1.toNat) rfl (zit ib2))) (Eq.trans (congrArg (yM h13 71) (show v1.toNat = ((yM h) 79 a.toNat).toNat by rw [sv1])) (Eq.trans (congrFun (congrFun Zh13 71) (((yM h) 79 a.toNat).toNat)) rfl)))
      refine zwW_p [(1, 4, 0)] (q := 142) (ls' := [(2, 37), (0, a), (0, v1), (0, v2), (0, v9)]) (st' := [(0, v9), (0, v15), (0, v14), (0, a), (2, 84)]) (by decide +kernel) rfl ?_
      refine zwW_adw (nx := 143) (by decide +kernel) ?_
      intro v16 ev16 lv16 uv16
      have Ev16 : v16 = w32 (((yM h) 71 (((yM h) 79 a.toNat).toNat)) + (yDut q (yM h) (((yM h) 79 a.toNat).toNat))) := by rw [ev16, sv15, sv9]
      refine zwW_sbw (nx := 144) (by decide +kernel) ?_
      intro v17 ev17 lv17 uv17
      have Ev17 : v17 = w32 (((yM h) 84 a.toNat) - (w32 (((yM h) 71 (((yM h) 79 a.toNat).toNat)) + (yDut q (yM h) (((yM h) 79 a.toNat).toNat))))) := by rw [ev17, sv14, Ev16]
      refine zwW_as Ih13 (a1 := 84) (a2 := 84) (n := 20) (lo := -2147483648) (hi := 2147483647) (nx := 145) (by decide +kernel) (by first | decide | exact ⟨by decide, by decide⟩) ib1 (by first | omega | exact ⟨by omega, by omega⟩) ?_
      intro h18 eh18 Ih18
      have jbh18 : 0 ≤ a.toNat ∧ a.toNat < 20 := ⟨Nat.zero_le _, zit ib1⟩
      have th18_37_1 : fld h18 37 1 = fld h13 37 1 := by rw [eh18]; exact fld_wr (Or.inl (by decide))
      have th18_37_2 : fld h18 37 2 = fld h13 37 2 := by rw [eh18]; exact fld_wr (Or.inl (by decide))
      have Vh18 : mRq q h18 := Vh13.fr (zMR.one (a1 := 84) (a2 := 84) (j1 := 0) (j2 := 20) (by first | decide | exact ⟨by decide, by decide⟩) jbh18 eh18) (by decide +kernel)
      have Zh18 : yM h18 = (zs (yM h) 84 a.toNat (w32 (((yM h) 84 a.toNat) - (w32 (((yM h) 71 (((yM h) 79 a.toNat).toNat)) + (yDut q (yM h) (((yM h) 79 a.toNat).toNat))))))) := by rw [yM_w (a := 84) (n := 20) (i := a.toNat) (kd := 20) rfl (Ih13.s (a1 := 84) (a2 := 84) (by decide +kernel) (by decide) (by decide)) jbh18.2 eh18, Zh13, Ev17]
      have Rh18 : zMR ms195 h h18 := Rh13.w (a1 := 84) (a2 := 84) (j1 := 0) (j2 := 20) (by decide +kernel) (by first | decide | exact ⟨by decide, by decide⟩) jbh18 eh18
      refine zwW_p [(1, 0, 2)] (q := 146) (ls' := [(2, 37), (0, a), (0, v1), (0, v2), (0, v9)]) (st' := [(2, 37)]) (by decide +kernel) rfl ?_
      refine zwW_gc Ih18 (kd := 13) (bn := 14) (n := 97) (c := 73) (nx := 149) (by decide +kernel) ?_
      refine zwW_p [(1, 2, 0), (14, 0, 0)] (q := 151) (ls' := [(2, 37), (0, a), (0, v1), (0, v2), (0, v9)]) (st' := [(0, v1), (2, 73), (0, v1), (2, 73)]) (by decide +kernel) rfl ?_
      refine zwW_al Ih18 (a1 := 73) (a2 := 73) (kd := 20) (n := 8) (t := 0) (lo := -2147483648) (hi := 2147483647) (nx := 152) (by decide +kernel) (by first | decide | exact ⟨by decide, by decide⟩) ib2 ?_
      intro v19 ev19 lv19 uv19
      have sv19 : v19 = (yM h) 73 (((yM h) 79 a.toNat).toNat) := Eq.trans ev19 (Eq.trans (Eq.symm (yM_p (h := h18) (a := 73) (n := 8) (i := v1.toNat) rfl (zit ib2))) (Eq.trans (congrArg (yM h18 73) (show v1.toNat = ((yM h) 79 a.toNat).toNat by rw [sv1])) (Eq.trans (congrFun (congrFun Zh18 73) (((yM h) 79 a.toNat).toNat)) (Eq.trans (zs_na (by decide) : (zs (yM h) 84 a.toNat (w32 (((yM h) 84 a.toNat) - (w32 (((yM h) 71 (((yM h) 79 a.toNat).toNat)) + (yDut q (yM h) (((yM h) 79 a.toNat).toNat))))))) 73 (((yM h) 79 a.toNat).toNat) = (yM h) 73 (((yM h) 79 a.toNat).toNat)) rfl))))
      refine zwW_p [(1, 0, 2)] (q := 153) (ls' := [(2, 37), (0, a), (0, v1), (0, v2), (0, v9)]) (st' := [(2, 37), (0, v19), (0, v1), (2, 73)]) (by decide +kernel) rfl ?_
      refine zwW_gc Ih18 (kd := 13) (bn := 12) (n := 97) (c := 71) (nx := 156) (by decide +kernel) ?_
      refine zwW_p [(1, 2, 0)] (q := 157) (ls' := [(2, 37), (0, a), (0, v1), (0, v2), (0, v9)]) (st' := [(0, v1), (2, 71), (0, v19), (0, v1), (2, 73)]) (by decide +kernel) rfl ?_
      refine zwW_al Ih18 (a1 := 71) (a2 := 71) (kd := 20) (n := 8) (t := 0) (lo := -2147483648) (hi := 2147483647) (nx := 158) (by decide +kernel) (by first | decide | exact ⟨by decide, by decide⟩) ib2 ?_
      intro v20 ev20 lv20 uv20
      have sv20 : v20 = (yM h) 71 (((yM h) 79 a.toNat).toNat) := Eq.trans ev20 (Eq.trans (Eq.symm (yM_p (h := h18) (a := 71) (n := 8) (i := v1.toNat) rfl (zit ib2))) (Eq.trans (congrArg (yM h18 71) (show v1.toNat = ((yM h) 79 a.toNat).toNat by rw [sv1])) (Eq.trans (congrFun (congrFun Zh18 71) (((yM h) 79 a.toNat).toNat)) (Eq.trans (zs_na (by decide) : (zs (yM h) 84 a.toNat (w32 (((yM h) 84 a.toNat) - (w32 (((yM h) 71 (((yM h) 79 a.toNat).toNat)) + (yDut q (yM h) (((yM h) 79 a.toNat).toNat))))))) 71 (((yM h) 79 a.toNat).toNat) = (yM h) 71 (((yM h) 79 a.toNat).toNat)) rfl))))
      refine zwW_adw (nx := 159) (by decide +kernel) ?_
      intro v21 ev21 lv21 uv21
      have Ev21 : v21 = w32 (((yM h) 73 (((yM h) 79 a.toNat).toNat)) + ((yM h) 71 (((yM h) 79 a.toNat).toNat))) := by rw [ev21, sv19, sv20]
      refine zwW_as Ih18 (a1 := 73) (a2 := 73) (n := 8) (lo := -2147483648) (hi := 2147483647) (nx := 160) (by decide +kernel) (by first | decide | exact ⟨by decide, by decide⟩) ib2 (by first | omega | exact ⟨by omega, by omega⟩) ?_
      intro h22 eh22 Ih22
      have jbh22 : 0 ≤ v1.toNat ∧ v1.toNat < 8 := ⟨Nat.zero_le _, zit ib2⟩
      have th22_37_1 : fld h22 37 1 = fld h18 37 1 := by rw [eh22]; exact fld_wr (Or.inl (by decide))
      have th22_37_2 : fld h22 37 2 = fld h18 37 2 := by rw [eh22]; exact fld_wr (Or.inl (by decide))
      have Vh22 : mRq q h22 := Vh18.fr (zMR.one (a1 := 73) (a2 := 73) (j1 := 0) (j2 := 8) (by first | decide | exact ⟨by decide, by decide⟩) jbh22 eh22) (by decide +kernel)
      have Uh22 : yM h22 = (zs (zs (yM h) 84 a.toNat (w32 (((yM h) 84 a.toNat) - (w32 (((yM h) 71 (((yM h) 79 a.toNat).toNat)) + (yDut q (yM h) (((yM h) 79 a.toNat).toNat))))))) 73 (((yM h) 79 a.toNat).toNat) (w32 (((yM h) 73 (((yM h) 79 a.toNat).toNat)) + ((yM h) 71 (((yM h) 79 a.toNat).toNat))))) := by rw [yM_w (a := 73) (n := 8) (i := v1.toNat) (kd := 20) rfl (Ih18.s (a1 := 73) (a2 := 73) (by decide +kernel) (by decide) (by decide)) jbh22.2 eh22, Zh18, Ev21, sv1]
      have Zh22 : yM h22 = (zs (zs (yM h) 73 (((yM h) 79 a.toNat).toNat) (w32 (((yM h) 73 (((yM h) 79 a.toNat).toNat)) + ((yM h) 71 (((yM h) 79 a.toNat).toNat))))) 84 a.toNat (w32 (((yM h) 84 a.toNat) - (w32 (((yM h) 71 (((yM h) 79 a.toNat).toNat)) + (yDut q (yM h) (((yM h) 79 a.toNat).toNat))))))) := by rw [Uh22, zs_sw (a := 84) (b := 73) (by decide)]
      have Rh22 : zMR ms195 h h22 := Rh18.w (a1 := 73) (a2 := 73) (j1 := 0) (j2 := 8) (by decide +kernel) (by first | decide | exact ⟨by decide, by decide⟩) jbh22 eh22
      refine zwW_p [(1, 0, 2), (12, 0, 0)] (q := 162) (ls' := [(2, 37), (0, a), (0, v1), (0, v2), (0, v9)]) (st' := [(2, 37), (2, 37)]) (by decide +kernel) rfl ?_
      refine zwW_gs Ih22 (kd := 13) (bn := 38) (n := 97) (t := 0) (lo := -2147483648) (hi := 2147483647) (nx := 165) (by decide +kernel) ?_
      intro v23 ev23 lv23 uv23
      have sv23 : v23 = (yM h) 37 38 := Eq.trans ev23 (Eq.trans (Eq.symm (yM_s (h := h22) (i := 38) rfl)) (Eq.trans (congrFun (congrFun Zh22 37) 38) (Eq.trans (zs_na (by decide) : (zs (zs (yM h) 73 (((yM h) 79 a.toNat).toNat) (w32 (((yM h) 73 (((yM h) 79 a.toNat).toNat)) + ((yM h) 71 (((yM h) 79 a.toNat).toNat))))) 84 a.toNat (w32 (((yM h) 84 a.toNat) - (w32 (((yM h) 71 (((yM h) 79 a.toNat).toNat)) + (yDut q (yM h) (((yM h) 79 a.toNat).toNat))))))) 37 38 = (zs (yM h) 73 (((yM h) 79 a.toNat).toNat) (w32 (((yM h) 73 (((yM h) 79 a.toNat).toNat)) + ((yM h) 71 (((yM h) 79 a.toNat).toNat))))) 37 38) (Eq.trans (zs_na (by decide) : (zs (yM h) 73 (((yM h) 79 a.toNat).toNat) (w32 (((yM h) 73 (((yM h) 79 a.toNat).toNat)) + ((yM h) 71 (((yM h) 79 a.toNat).toNat))))) 37 38 = (yM h) 37 38) rfl))))
      refine zwW_p [(1, 4, 0)] (q := 167) (ls' := [(2, 37), (0, a), (0, v1), (0, v2), (0, v9)]) (st' := [(0, v9), (0, v23), (2, 37)]) (by decide +kernel) rfl ?_
      refine zwW_adw (nx := 168) (by decide +kernel) ?_
      intro v24 ev24 lv24 uv24
      have Ev24 : v24 = w32 (((yM h) 37 38) + (yDut q (yM h) (((yM h) 79 a.toNat).toNat))) := by rw [ev24, sv23, sv9]
      refine zwW_ps Ih22 (kd := 13) (bn := 38) (n := 97) (lo := -2147483648) (hi := 2147483647) (nx := 171) (by decide +kernel) (by first | omega | exact ⟨by omega, by omega⟩) ?_
      intro h25 eh25 Ih25
      have th25_37_1 : fld h25 37 1 = fld h22 37 1 := by rw [eh25]; exact fld_wr (by decide)
      have th25_37_2 : fld h25 37 2 = fld h22 37 2 := by rw [eh25]; exact fld_wr (by decide)
      have Vh25 : mRq q h25 := Vh22.fr (zMR.one (a1 := 37) (a2 := 37) (j1 := 38) (j2 := 39) (by first | decide | exact ⟨by decide, by decide⟩) (by first | decide | exact ⟨by decide, by decide⟩) eh25) (by decide +kernel)
      have Zh25 : yM h25 = (zs (zs (zs (yM h) 73 (((yM h) 79 a.toNat).toNat) (w32 (((yM h) 73 (((yM h) 79 a.toNat).toNat)) + ((yM h) 71 (((yM h) 79 a.toNat).toNat))))) 84 a.toNat (w32 (((yM h) 84 a.toNat) - (w32 (((yM h) 71 (((yM h) 79 a.toNat).toNat)) + (yDut q (yM h) (((yM h) 79 a.toNat).toNat))))))) 37 38 (w32 (((yM h) 37 38) + (yDut q (yM h) (((yM h) 79 a.toNat).toNat))))) := by rw [yM_ws (i := 38) (kd := 13) (n := 97) rfl (Ih22.s (a1 := 37) (a2 := 37) (by decide +kernel) (by decide) (by decide)) (by decide) eh25, Zh22, Ev24]
      have Rh25 : zMR ms195 h h25 := Rh22.w (a1 := 37) (a2 := 37) (j1 := 38) (j2 := 39) (by decide +kernel) (by first | decide | exact ⟨by decide, by decide⟩) (by first | decide | exact ⟨by decide, by decide⟩) eh25
      refine zwW_p [(1, 0, 2)] (q := 172) (ls' := [(2, 37), (0, a), (0, v1), (0, v2), (0, v9)]) (st' := [(2, 37)]) (by decide +kernel) rfl ?_
      refine zwW_gc Ih25 (kd := 13) (bn := 29) (n := 97) (c := 88) (nx := 175) (by decide +kernel) ?_
      refine zwW_p [(1, 1, 0), (14, 0, 0)] (q := 177) (ls' := [(2, 37), (0, a), (0, v1), (0, v2), (0, v9)]) (st' := [(0, a), (2, 88), (0, a), (2, 88)]) (by decide +kernel) rfl ?_
      refine zwW_al Ih25 (a1 := 88) (a2 := 88) (kd := 20) (n := 20) (t := 0) (lo := -2147483648) (hi := 2147483647) (nx := 178) (by decide +kernel) (by first | decide | exact ⟨by decide, by decide⟩) ib1 ?_
      intro v26 ev26 lv26 uv26
      have sv26 : v26 = (yM h) 88 a.toNat := Eq.trans ev26 (Eq.trans (Eq.symm (yM_p (h := h25) (a := 88) (n := 20) (i := a.toNat) rfl (zit ib1))) (Eq.trans (congrFun (congrFun Zh25 88) a.toNat) (Eq.trans (zs_na (by decide) : (zs (zs (zs (yM h) 73 (((yM h) 79 a.toNat).toNat) (w32 (((yM h) 73 (((yM h) 79 a.toNat).toNat)) + ((yM h) 71 (((yM h) 79 a.toNat).toNat))))) 84 a.toNat (w32 (((yM h) 84 a.toNat) - (w32 (((yM h) 71 (((yM h) 79 a.toNat).toNat)) + (yDut q (yM h) (((yM h) 79 a.toNat).toNat))))))) 37 38 (w32 (((yM h) 37 38) + (yDut q (yM h) (((yM h) 79 a.toNat).toNat))))) 88 a.toNat = (zs (zs (yM h) 73 (((yM h) 79 a.toNat).toNat) (w32 (((yM h) 73 (((yM h) 79 a.toNat).toNat)) + ((yM h) 71 (((yM h) 79 a.toNat).toNat))))) 84 a.toNat (w32 (((yM h) 84 a.toNat) - (w32 (((yM h) 71 (((yM h) 79 a.toNat).toNat)) + (yDut q (yM h) (((yM h) 79 a.toNat).toNat))))))) 88 a.toNat) (Eq.trans (zs_na (by decide) : (zs (zs (yM h) 73 (((yM h) 79 a.toNat).toNat) (w32 (((yM h) 73 (((yM h) 79 a.toNat).toNat)) + ((yM h) 71 (((yM h) 79 a.toNat).toNat))))) 84 a.toNat (w32 (((yM h) 84 a.toNat) - (w32 (((yM h) 71 (((yM h) 79 a.toNat).toNat)) + (yDut q (yM h) (((yM h) 79 a.toNat).toNat))))))) 88 a.toNat = (zs (yM h) 73 (((yM h) 79 a.toNat).toNat) (w32 (((yM h) 73 (((yM h) 79 a.toNat).toNat)) + ((yM h) 71 (((yM h) 79 a.toNat).toNat))))) 88 a.toNat) (Eq.trans (zs_na (by decide) : (zs (yM h) 73 (((yM h) 79 a.toNat).toNat) (w32 (((yM h) 73 (((yM h) 79 a.toNat).toNat)) + ((yM h) 71 (((yM h) 79 a.toNat).toNat))))) 88 a.toNat = (yM h) 88 a.toNat) rfl)))))
      refine zwW_p [(0, 1, 0)] (q := 179) (ls' := [(2, 37), (0, a), (0, v1), (0, v2), (0, v9)]) (st' := [(0, 1), (0, v26), (0, a), (2, 88)]) (by decide +kernel) rfl ?_
      refine zwW_adw (nx := 180) (by decide +kernel) ?_
      intro v27 ev27 lv27 uv27
      have Ev27 : v27 = w32 (((yM h) 88 a.toNat) + 1) := by rw [ev27, sv26]
      refine zwW_as Ih25 (a1 := 88) (a2 := 88) (n := 20) (lo := -2147483648) (hi := 2147483647) (nx := 181) (by decide +kernel) (by first | decide | exact ⟨by decide, by decide⟩) ib1 (by first | omega | exact ⟨by omega, by omega⟩) ?_
      intro h28 eh28 Ih28
      have jbh28 : 0 ≤ a.toNat ∧ a.toNat < 20 := ⟨Nat.zero_le _, zit ib1⟩
      have th28_37_1 : fld h28 37 1 = fld h25 37 1 := by rw [eh28]; exact fld_wr (Or.inl (by decide))
      have th28_37_2 : fld h28 37 2 = fld h25 37 2 := by rw [eh28]; exact fld_wr (Or.inl (by decide))
      have Vh28 : mRq q h28 := Vh25.fr (zMR.one (a1 := 88) (a2 := 88) (j1 := 0) (j2 := 20) (by first | decide | exact ⟨by decide, by decide⟩) jbh28 eh28) (by decide +kernel)
      have Uh28 : yM h28 = (zs (zs (zs (zs (yM h) 73 (((yM h) 79 a.toNat).toNat) (w32 (((yM h) 73 (((yM h) 79 a.toNat).toNat)) + ((yM h) 71 (((yM h) 79 a.toNat).toNat))))) 84 a.toNat (w32 (((yM h) 84 a.toNat) - (w32 (((yM h) 71 (((yM h) 79 a.toNat).toNat)) + (yDut q (yM h) (((yM h) 79 a.toNat).toNat))))))) 37 38 (w32 (((yM h) 37 38) + (yDut q (yM h) (((yM h) 79 a.toNat).toNat))))) 88 a.toNat (w32 (((yM h) 88 a.toNat) + 1))) := by rw [yM_w (a := 88) (n := 20) (i := a.toNat) (kd := 20) rfl (Ih25.s (a1 := 88) (a2 := 88) (by decide +kernel) (by decide) (by decide)) jbh28.2 eh28, Zh25, Ev27]
      have Zh28 : yM h28 = (zs (zs (zs (zs (yM h) 73 (((yM h) 79 a.toNat).toNat) (w32 (((yM h) 73 (((yM h) 79 a.toNat).toNat)) + ((yM h) 71 (((yM h) 79 a.toNat).toNat))))) 84 a.toNat (w32 (((yM h) 84 a.toNat) - (w32 (((yM h) 71 (((yM h) 79 a.toNat).toNat)) + (yDut q (yM h) (((yM h) 79 a.toNat).toNat))))))) 88 a.toNat (w32 (((yM h) 88 a.toNat) + 1))) 37 38 (w32 (((yM h) 37 38) + (yDut q (yM h) (((yM h) 79 a.toNat).toNat))))) := by rw [Uh28, zs_sw (a := 37) (b := 88) (by decide)]
      have Rh28 : zMR ms195 h h28 := Rh25.w (a1 := 88) (a2 := 88) (j1 := 0) (j2 := 20) (by decide +kernel) (by first | decide | exact ⟨by decide, by decide⟩) jbh28 eh28
      refine zwW_p [(1, 0, 2)] (q := 182) (ls' := [(2, 37), (0, a), (0, v1), (0, v2), (0, v9)]) (st' := [(2, 37)]) (by decide +kernel) rfl ?_
      refine zwW_gc Ih28 (kd := 13) (bn := 10) (n := 97) (c := 69) (nx := 185) (by decide +kernel) ?_
      refine zwW_p [(1, 2, 0), (14, 0, 0)] (q := 187) (ls' := [(2, 37), (0, a), (0, v1), (0, v2), (0, v9)]) (st' := [(0, v1), (2, 69), (0, v1), (2, 69)]) (by decide +kernel) rfl ?_
      refine zwW_al Ih28 (a1 := 69) (a2 := 69) (kd := 20) (n := 8) (t := 0) (lo := -2147483648) (hi := 2147483647) (nx := 188) (by decide +kernel) (by first | decide | exact ⟨by decide, by decide⟩) ib2 ?_
      intro v29 ev29 lv29 uv29
      have sv29 : v29 = (yM h) 69 (((yM h) 79 a.toNat).toNat) := Eq.trans ev29 (Eq.trans (Eq.symm (yM_p (h := h28) (a := 69) (n := 8) (i := v1.toNat) rfl (zit ib2))) (Eq.trans (congrArg (yM h28 69) (show v1.toNat = ((yM h) 79 a.toNat).toNat by rw [sv1])) (Eq.trans (congrFun (congrFun Zh28 69) (((yM h) 79 a.toNat).toNat)) (Eq.trans (zs_na (by decide) : (zs (zs (zs (zs (yM h) 73 (((yM h) 79 a.toNat).toNat) (w32 (((yM h) 73 (((yM h) 79 a.toNat).toNat)) + ((yM h) 71 (((yM h) 79 a.toNat).toNat))))) 84 a.toNat (w32 (((yM h) 84 a.toNat) - (w32 (((yM h) 71 (((yM h) 79 a.toNat).toNat)) + (yDut q (yM h) (((yM h) 79 a.toNat).toNat))))))) 88 a.toNat (w32 (((yM h) 88 a.toNat) + 1))) 37 38 (w32 (((yM h) 37 38) + (yDut q (yM h) (((yM h) 79 a.toNat).toNat))))) 69 (((yM h) 79 a.toNat).toNat) = (zs (zs (zs (yM h) 73 (((yM h) 79 a.toNat).toNat) (w32 (((yM h) 73 (((yM h) 79 a.toNat).toNat)) + ((yM h) 71 (((yM h) 79 a.toNat).toNat))))) 84 a.toNat (w32 (((yM h) 84 a.toNat) - (w32 (((yM h) 71 (((yM h) 79 a.toNat).toNat)) + (yDut q (yM h) (((yM h) 79 a.toNat).toNat))))))) 88 a.toNat (w32 (((yM h) 88 a.toNat) + 1))) 69 (((yM h) 79 a.toNat).toNat)) (Eq.trans (zs_na (by decide) : (zs (zs (zs (yM h) 73 (((yM h) 79 a.toNat).toNat) (w32 (((yM h) 73 (((yM h) 79 a.toNat).toNat)) + ((yM h) 71 (((yM h) 79 a.toNat).toNat))))) 84 a.toNat (w32 (((yM h) 84 a.toNat) - (w32 (((yM h) 71 (((yM h) 79 a.toNat).toNat)) + (yDut q (yM h) (((yM h) 79 a.toNat).toNat))))))) 88 a.toNat (w32 (((yM h) 88 a.toNat) + 1))) 69 (((yM h) 79 a.toNat).toNat) = (zs (zs (yM h) 73 (((yM h) 79 a.toNat).toNat) (w32 (((yM h) 73 (((yM h) 79 a.toNat).toNat)) + ((yM h) 71 (((yM h) 79 a.toNat).toNat))))) 84 a.toNat (w32 (((yM h) 84 a.toNat) - (w32 (((yM h) 71 (((yM h) 79 a.toNat).toNat)) + (yDut q (yM h) (((yM h) 79 a.toNat).toNat))))))) 69 (((yM h) 79 a.toNat).toNat)) (Eq.trans (zs_na (by decide) : (zs (zs (yM h) 73 (((yM h) 79 a.toNat).toNat) (w32 (((yM h) 73 (((yM h) 79 a.toNat).toNat)) + ((yM h) 71 (((yM h) 79 a.toNat).toNat))))) 84 a.toNat (w32 (((yM h) 84 a.toNat) - (w32 (((yM h) 71 (((yM h) 79 a.toNat).toNat)) + (yDut q (yM h) (((yM h) 79 a.toNat).toNat))))))) 69 (((yM h) 79 a.toNat).toNat) = (zs (yM h) 73 (((yM h) 79 a.toNat).toNat) (w32 (((yM h) 73 (((yM h) 79 a.toNat).toNat)) + ((yM h) 71 (((yM h) 79 a.toNat).toNat))))) 69 (((yM h) 79 a.toNat).toNat)) (Eq.trans (zs_na (by decide) : (zs (yM h) 73 (((yM h) 79 a.toNat).toNat) (w32 (((yM h) 73 (((yM h) 79 a.toNat).toNat)) + ((yM h) 71 (((yM h) 79 a.toNat).toNat))))) 69 (((yM h) 79 a.toNat).toNat) = (yM h) 69 (((yM h) 79 a.toNat).toNat)) rfl)))))))
      refine zwW_p [(0, 1, 0)] (q := 189) (ls' := [(2, 37), (0, a), (0, v1), (0, v2), (0, v9)]) (st' := [(0, 1), (0, v29), (0, v1), (2, 69)]) (by decide +kernel) rfl ?_
      refine zwW_sbw (nx := 190) (by decide +kernel) ?_
      intro v30 ev30 lv30 uv30
      have Ev30 : v30 = w32 (((yM h) 69 (((yM h) 79 a.toNat).toNat)) - 1) := by rw [ev30, sv29]
      refine zwW_as Ih28 (a1 := 69) (a2 := 69) (n := 8) (lo := -2147483648) (hi := 2147483647) (nx := 191) (by decide +kernel) (by first | decide | exact ⟨by decide, by decide⟩) ib2 (by first | omega | exact ⟨by omega, by omega⟩) ?_
      intro h31 eh31 Ih31
      have jbh31 : 0 ≤ v1.toNat ∧ v1.toNat < 8 := ⟨Nat.zero_le _, zit ib2⟩
      have th31_37_1 : fld h31 37 1 = fld h28 37 1 := by rw [eh31]; exact fld_wr (Or.inl (by decide))
      have th31_37_2 : fld h31 37 2 = fld h28 37 2 := by rw [eh31]; exact fld_wr (Or.inl (by decide))
      have Vh31 : mRq q h31 := Vh28.fr (zMR.one (a1 := 69) (a2 := 69) (j1 := 0) (j2 := 8) (by first | decide | exact ⟨by decide, by decide⟩) jbh31 eh31) (by decide +kernel)
      have Uh31 : yM h31 = (zs (zs (zs (zs (zs (yM h) 73 (((yM h) 79 a.toNat).toNat) (w32 (((yM h) 73 (((yM h) 79 a.toNat).toNat)) + ((yM h) 71 (((yM h) 79 a.toNat).toNat))))) 84 a.toNat (w32 (((yM h) 84 a.toNat) - (w32 (((yM h) 71 (((yM h) 79 a.toNat).toNat)) + (yDut q (yM h) (((yM h) 79 a.toNat).toNat))))))) 88 a.toNat (w32 (((yM h) 88 a.toNat) + 1))) 37 38 (w32 (((yM h) 37 38) + (yDut q (yM h) (((yM h) 79 a.toNat).toNat))))) 69 (((yM h) 79 a.toNat).toNat) (w32 (((yM h) 69 (((yM h) 79 a.toNat).toNat)) - 1))) := by rw [yM_w (a := 69) (n := 8) (i := v1.toNat) (kd := 20) rfl (Ih28.s (a1 := 69) (a2 := 69) (by decide +kernel) (by decide) (by decide)) jbh31.2 eh31, Zh28, Ev30, sv1]
      have Zh31 : yM h31 = (zs (zs (zs (zs (zs (yM h) 69 (((yM h) 79 a.toNat).toNat) (w32 (((yM h) 69 (((yM h) 79 a.toNat).toNat)) - 1))) 73 (((yM h) 79 a.toNat).toNat) (w32 (((yM h) 73 (((yM h) 79 a.toNat).toNat)) + ((yM h) 71 (((yM h) 79 a.toNat).toNat))))) 84 a.toNat (w32 (((yM h) 84 a.toNat) - (w32 (((yM h) 71 (((yM h) 79 a.toNat).toNat)) + (yDut q (yM h) (((yM h) 79 a.toNat).toNat))))))) 88 a.toNat (w32 (((yM h) 88 a.toNat) + 1))) 37 38 (w32 (((yM h) 37 38) + (yDut q (yM h) (((yM h) 79 a.toNat).toNat))))) := by rw [Uh31, zs_sw (a := 37) (b := 69) (by decide), zs_sw (a := 88) (b := 69) (by decide), zs_sw (a := 84) (b := 69) (by decide), zs_sw (a := 73) (b := 69) (by decide)]
      have Rh31 : zMR ms195 h h31 := Rh28.w (a1 := 69) (a2 := 69) (j1 := 0) (j2 := 8) (by decide +kernel) (by first | decide | exact ⟨by decide, by decide⟩) jbh31 eh31
      refine zwW_p [(1, 0, 2)] (q := 192) (ls' := [(2, 37), (0, a), (0, v1), (0, v2), (0, v9)]) (st' := [(2, 37)]) (by decide +kernel) rfl ?_
      refine zwW_gc Ih31 (kd := 13) (bn := 18) (n := 97) (c := 77) (nx := 195) (by decide +kernel) ?_
      refine zwW_p [(1, 2, 0), (14, 0, 0)] (q := 197) (ls' := [(2, 37), (0, a), (0, v1), (0, v2), (0, v9)]) (st' := [(0, v1), (2, 77), (0, v1), (2, 77)]) (by decide +kernel) rfl ?_
      refine zwW_al Ih31 (a1 := 77) (a2 := 77) (kd := 20) (n := 8) (t := 0) (lo := -2147483648) (hi := 2147483647) (nx := 198) (by decide +kernel) (by first | decide | exact ⟨by decide, by decide⟩) ib2 ?_
      intro v32 ev32 lv32 uv32
      have sv32 : v32 = (yM h) 77 (((yM h) 79 a.toNat).toNat) := Eq.trans ev32 (Eq.trans (Eq.symm (yM_p (h := h31) (a := 77) (n := 8) (i := v1.toNat) rfl (zit ib2))) (Eq.trans (congrArg (yM h31 77) (show v1.toNat = ((yM h) 79 a.toNat).toNat by rw [sv1])) (Eq.trans (congrFun (congrFun Zh31 77) (((yM h) 79 a.toNat).toNat)) (Eq.trans (zs_na (by decide) : (zs (zs (zs (zs (zs (yM h) 69 (((yM h) 79 a.toNat).toNat) (w32 (((yM h) 69 (((yM h) 79 a.toNat).toNat)) - 1))) 73 (((yM h) 79 a.toNat).toNat) (w32 (((yM h) 73 (((yM h) 79 a.toNat).toNat)) + ((yM h) 71 (((yM h) 79 a.toNat).toNat))))) 84 a.toNat (w32 (((yM h) 84 a.toNat) - (w32 (((yM h) 71 (((yM h) 79 a.toNat).toNat)) + (yDut q (yM h) (((yM h) 79 a.toNat).toNat))))))) 88 a.toNat (w32 (((yM h) 88 a.toNat) + 1))) 37 38 (w32 (((yM h) 37 38) + (yDut q (yM h) (((yM h) 79 a.toNat).toNat))))) 77 (((yM h) 79 a.toNat).toNat) = (zs (zs (zs (zs (yM h) 69 (((yM h) 79 a.toNat).toNat) (w32 (((yM h) 69 (((yM h) 79 a.toNat).toNat)) - 1))) 73 (((yM h) 79 a.toNat).toNat) (w32 (((yM h) 73 (((yM h) 79 a.toNat).toNat)) + ((yM h) 71 (((yM h) 79 a.toNat).toNat))))) 84 a.toNat (w32 (((yM h) 84 a.toNat) - (w32 (((yM h) 71 (((yM h) 79 a.toNat).toNat)) + (yDut q (yM h) (((yM h) 79 a.toNat).toNat))))))) 88 a.toNat (w32 (((yM h) 88 a.toNat) + 1))) 77 (((yM h) 79 a.toNat).toNat)) (Eq.trans (zs_na (by decide) : (zs (zs (zs (zs (yM h) 69 (((yM h) 79 a.toNat).toNat) (w32 (((yM h) 69 (((yM h) 79 a.toNat).toNat)) - 1))) 73 (((yM h) 79 a.toNat).toNat) (w32 (((yM h) 73 (((yM h) 79 a.toNat).toNat)) + ((yM h) 71 (((yM h) 79 a.toNat).toNat))))) 84 a.toNat (w32 (((yM h) 84 a.toNat) - (w32 (((yM h) 71 (((yM h) 79 a.toNat).toNat)) + (yDut q (yM h) (((yM h) 79 a.toNat).toNat))))))) 88 a.toNat (w32 (((yM h) 88 a.toNat) + 1))) 77 (((yM h) 79 a.toNat).toNat) = (zs (zs (zs (yM h) 69 (((yM h) 79 a.toNat).toNat) (w32 (((yM h) 69 (((yM h) 79 a.toNat).toNat)) - 1))) 73 (((yM h) 79 a.toNat).toNat) (w32 (((yM h) 73 (((yM h) 79 a.toNat).toNat)) + ((yM h) 71 (((yM h) 79 a.toNat).toNat))))) 84 a.toNat (w32 (((yM h) 84 a.toNat) - (w32 (((yM h) 71 (((yM h) 79 a.toNat).toNat)) + (yDut q (yM h) (((yM h) 79 a.toNat).toNat))))))) 77 (((yM h) 79 a.toNat).toNat)) (Eq.trans (zs_na (by decide) : (zs (zs (zs (yM h) 69 (((yM h) 79 a.toNat).toNat) (w32 (((yM h) 69 (((yM h) 79 a.toNat).toNat)) - 1))) 73 (((yM h) 79 a.toNat).toNat) (w32 (((yM h) 73 (((yM h) 79 a.toNat).toNat)) + ((yM h) 71 (((yM h) 79 a.toNat).toNat))))) 84 a.toNat (w32 (((yM h) 84 a.toNat) - (w32 (((yM h) 71 (((yM h) 79 a.toNat).toNat)) + (yDut q (yM h) (((yM h) 79 a.toNat).toNat))))))) 77 (((yM h) 79 a.toNat).toNat) = (zs (zs (yM h) 69 (((yM h) 79 a.toNat).toNat) (w32 (((yM h) 69 (((yM h) 79 a.toNat).toNat)) - 1))) 73 (((yM h) 79 a.toNat).toNat) (w32 (((yM h) 73 (((yM h) 79 a.toNat).toNat)) + ((yM h) 71 (((yM h) 79 a.toNat).toNat))))) 77 (((yM h) 79 a.toNat).toNat)) (Eq.trans (zs_na (by decide) : (zs (zs (yM h) 69 (((yM h) 79 a.toNat).toNat) (w32 (((yM h) 69 (((yM h) 79 a.toNat).toNat)) - 1))) 73 (((yM h) 79 a.toNat).toNat) (w32 (((yM h) 73 (((yM h) 79 a.toNat).toNat)) + ((yM h) 71 (((yM h) 79 a.toNat).toNat))))) 77 (((yM h) 79 a.toNat).toNat) = (zs (yM h) 69 (((yM h) 79 a.toNat).toNat) (w32 (((yM h) 69 (((yM h) 79 a.toNat).toNat)) - 1))) 77 (((yM h) 79 a.toNat).toNat)) (Eq.trans (zs_na (by decide) : (zs (yM h) 69 (((yM h) 79 a.toNat).toNat) (w32 (((yM h) 69 (((yM h) 79 a.toNat).toNat)) - 1))) 77 (((yM h) 79 a.toNat).toNat) = (yM h) 77 (((yM h) 79 a.toNat).toNat)) rfl))))))))
      refine zwW_p [(0, 1, 0)] (q := 199) (ls' := [(2, 37), (0, a), (0, v1), (0, v2), (0, v9)]) (st' := [(0, 1), (0, v32), (0, v1), (2, 77)]) (by decide +kernel) rfl ?_
      refine zwW_adw (nx := 200) (by decide +kernel) ?_
      intro v33 ev33 lv33 uv33
      have Ev33 : v33 = w32 (((yM h) 77 (((yM h) 79 a.toNat).toNat)) + 1) := by rw [ev33, sv32]
      refine zwW_as Ih31 (a1 := 77) (a2 := 77) (n := 8) (lo := -2147483648) (hi := 2147483647) (nx := 201) (by decide +kernel) (by first | decide | exact ⟨by decide, by decide⟩) ib2 (by first | omega | exact ⟨by omega, by omega⟩) ?_
      intro h34 eh34 Ih34
      have jbh34 : 0 ≤ v1.toNat ∧ v1.toNat < 8 := ⟨Nat.zero_le _, zit ib2⟩
      have th34_37_1 : fld h34 37 1 = fld h31 37 1 := by rw [eh34]; exact fld_wr (Or.inl (by decide))
      have th34_37_2 : fld h34 37 2 = fld h31 37 2 := by rw [eh34]; exact fld_wr (Or.inl (by decide))
      have Vh34 : mRq q h34 := Vh31.fr (zMR.one (a1 := 77) (a2 := 77) (j1 := 0) (j2 := 8) (by first | decide | exact ⟨by decide, by decide⟩) jbh34 eh34) (by decide +kernel)
      have Uh34 : yM h34 = (zs (zs (zs (zs (zs (zs (yM h) 69 (((yM h) 79 a.toNat).toNat) (w32 (((yM h) 69 (((yM h) 79 a.toNat).toNat)) - 1))) 73 (((yM h) 79 a.toNat).toNat) (w32 (((yM h) 73 (((yM h) 79 a.toNat).toNat)) + ((yM h) 71 (((yM h) 79 a.toNat).toNat))))) 84 a.toNat (w32 (((yM h) 84 a.toNat) - (w32 (((yM h) 71 (((yM h) 79 a.toNat).toNat)) + (yDut q (yM h) (((yM h) 79 a.toNat).toNat))))))) 88 a.toNat (w32 (((yM h) 88 a.toNat) + 1))) 37 38 (w32 (((yM h) 37 38) + (yDut q (yM h) (((yM h) 79 a.toNat).toNat))))) 77 (((yM h) 79 a.toNat).toNat) (w32 (((yM h) 77 (((yM h) 79 a.toNat).toNat)) + 1))) := by rw [yM_w (a := 77) (n := 8) (i := v1.toNat) (kd := 20) rfl (Ih31.s (a1 := 77) (a2 := 77) (by decide +kernel) (by decide) (by decide)) jbh34.2 eh34, Zh31, Ev33, sv1]
      have Zh34 : yM h34 = (zs (zs (zs (zs (zs (zs (yM h) 69 (((yM h) 79 a.toNat).toNat) (w32 (((yM h) 69 (((yM h) 79 a.toNat).toNat)) - 1))) 73 (((yM h) 79 a.toNat).toNat) (w32 (((yM h) 73 (((yM h) 79 a.toNat).toNat)) + ((yM h) 71 (((yM h) 79 a.toNat).toNat))))) 77 (((yM h) 79 a.toNat).toNat) (w32 (((yM h) 77 (((yM h) 79 a.toNat).toNat)) + 1))) 84 a.toNat (w32 (((yM h) 84 a.toNat) - (w32 (((yM h) 71 (((yM h) 79 a.toNat).toNat)) + (yDut q (yM h) (((yM h) 79 a.toNat).toNat))))))) 88 a.toNat (w32 (((yM h) 88 a.toNat) + 1))) 37 38 (w32 (((yM h) 37 38) + (yDut q (yM h) (((yM h) 79 a.toNat).toNat))))) := by rw [Uh34, zs_sw (a := 37) (b := 77) (by decide), zs_sw (a := 88) (b := 77) (by decide), zs_sw (a := 84) (b := 77) (by decide)]
      have Rh34 : zMR ms195 h h34 := Rh31.w (a1 := 77) (a2 := 77) (j1 := 0) (j2 := 8) (by decide +kernel) (by first | decide | exact ⟨by decide, by decide⟩) jbh34 eh34
      refine zwW_retv (nx := 202) (a := 0) (b := 0) (by decide +kernel) ?_
      exact ⟨Ih34, Rh34, by refine Eq.trans Zh34 ?_; unfold yByh yByd yBya ySlH ySlM; (repeat' (first | rw [if_pos (by omega)] | rw [if_neg (by omega)])); all_goals (repeat' (first | rfl | apply zs_cg | omega))⟩
    · refine zwW_p [(1, 0, 2)] (q := 36) (ls' := [(2, 37), (0, a), (0, v1), (0, v2), (9, 0)]) (st' := [(2, 37)]) (by decide +kernel) rfl ?_
      refine zwW_gc Ih6 (kd := 13) (bn := 25) (n := 97) (c := 84) (nx := 39) (by decide +kernel) ?_
      refine zwW_p [(1, 1, 0), (14, 0, 0)] (q := 41) (ls' := [(2, 37), (0, a), (0, v1), (0, v2), (9, 0)]) (st' := [(0, a), (2, 84), (0, a), (2, 84)]) (by decide +kernel) rfl ?_
      refine zwW_al Ih6 (a1 := 84) (a2 := 84) (kd := 20) (n := 20) (t := 0) (lo := -2147483648) (hi := 2147483647) (nx := 42) (by decide +kernel) (by first | decide | exact ⟨by decide, by decide⟩) ib1 ?_
      intro v35 ev35 lv35 uv35
      have sv35 : v35 = (yM h) 84 a.toNat := Eq.trans ev35 (Eq.trans (Eq.symm (yM_p (h := h6) (a := 84) (n := 20) (i := a.toNat) rfl (zit ib1))) (Eq.trans (congrFun (congrFun Zh6 84) a.toNat) rfl))
      refine zwW_p [(1, 0, 2)] (q := 43) (ls' := [(2, 37), (0, a), (0, v1), (0, v2), (9, 0)]) (st' := [(2, 37), (0, v35), (0, a), (2, 84)]) (by decide +kernel) rfl ?_
      refine zwW_gc Ih6 (kd := 13) (bn := 11) (n := 97) (c := 70) (nx := 46) (by decide +kernel) ?_
      refine zwW_p [(1, 2, 0)] (q := 47) (ls' := [(2, 37), (0, a), (0, v1), (0, v2), (9, 0)]) (st' := [(0, v1), (2, 70), (0, v35), (0, a), (2, 84)]) (by decide +kernel) rfl ?_
      have ib3 : 0 ≤ v1 ∧ v1 < ((8 : Nat) : Int) := (by first | omega | exact ⟨by omega, by omega⟩)
      refine zwW_al Ih6 (a1 := 70) (a2 := 70) (kd := 20) (n := 8) (t := 0) (lo := -2147483648) (hi := 2147483647) (nx := 48) (by decide +kernel) (by first | decide | exact ⟨by decide, by decide⟩) ib3 ?_
      intro v36 ev36 lv36 uv36
      have sv36 : v36 = (yM h) 70 (((yM h) 79 a.toNat).toNat) := Eq.trans ev36 (Eq.trans (Eq.symm (yM_p (h := h6) (a := 70) (n := 8) (i := v1.toNat) rfl (zit ib3))) (Eq.trans (congrArg (yM h6 70) (show v1.toNat = ((yM h) 79 a.toNat).toNat by rw [sv1])) (Eq.trans (congrFun (congrFun Zh6 70) (((yM h) 79 a.toNat).toNat)) rfl)))
      refine zwW_sbw (nx := 49) (by decide +kernel) ?_
      intro v37 ev37 lv37 uv37
      have Ev37 : v37 = w32 (((yM h) 84 a.toNat) - ((yM h) 70 (((yM h) 79 a.toNat).toNat))) := by rw [ev37, sv35, sv36]
      refine zwW_as Ih6 (a1 := 84) (a2 := 84) (n := 20) (lo := -2147483648) (hi := 2147483647) (nx := 50) (by decide +kernel) (by first | decide | exact ⟨by decide, by decide⟩) ib1 (by first | omega | exact ⟨by omega, by omega⟩) ?_
      intro h38 eh38 Ih38
      have jbh38 : 0 ≤ a.toNat ∧ a.toNat < 20 := ⟨Nat.zero_le _, zit ib1⟩
      have th38_37_1 : fld h38 37 1 = fld h6 37 1 := by rw [eh38]; exact fld_wr (Or.inl (by decide))
      have th38_37_2 : fld h38 37 2 = fld h6 37 2 := by rw [eh38]; exact fld_wr (Or.inl (by decide))
      have Vh38 : mRq q h38 := Vh6.fr (zMR.one (a1 := 84) (a2 := 84) (j1 := 0) (j2 := 20) (by first | decide | exact ⟨by decide, by decide⟩) jbh38 eh38) (by decide +kernel)
      have Zh38 : yM h38 = (zs (yM h) 84 a.toNat (w32 (((yM h) 84 a.toNat) - ((yM h) 70 (((yM h) 79 a.toNat).toNat))))) := by rw [yM_w (a := 84) (n := 20) (i := a.toNat) (kd := 20) rfl (Ih6.s (a1 := 84) (a2 := 84) (by decide +kernel) (by decide) (by decide)) jbh38.2 eh38, Zh6, Ev37]
      have Rh38 : zMR ms195 h h38 := Rh6.w (a1 := 84) (a2 := 84) (j1 := 0) (j2 := 20) (by decide +kernel) (by first | decide | exact ⟨by decide, by decide⟩) jbh38 eh38
      refine zwW_p [(1, 0, 2)] (q := 51) (ls' := [(2, 37), (0, a), (0, v1), (0, v2), (9, 0)]) (st' := [(2, 37)]) (by decide +kernel) rfl ?_
      refine zwW_gc Ih38 (kd := 13) (bn := 14) (n := 97) (c := 73) (nx := 54) (by decide +kernel) ?_
      refine zwW_p [(1, 2, 0), (14, 0, 0)] (q := 56) (ls' := [(2, 37), (0, a), (0, v1), (0, v2), (9, 0)]) (st' := [(0, v1), (2, 73), (0, v1), (2, 73)]) (by decide +kernel) rfl ?_
      refine zwW_al Ih38 (a1 := 73) (a2 := 73) (kd := 20) (n := 8) (t := 0) (lo := -2147483648) (hi := 2147483647) (nx := 57) (by decide +kernel) (by first | decide | exact ⟨by decide, by decide⟩) ib3 ?_
      intro v39 ev39 lv39 uv39
      have sv39 : v39 = (yM h) 73 (((yM h) 79 a.toNat).toNat) := Eq.trans ev39 (Eq.trans (Eq.symm (yM_p (h := h38) (a := 73) (n := 8) (i := v1.toNat) rfl (zit ib3))) (Eq.trans (congrArg (yM h38 73) (show v1.toNat = ((yM h) 79 a.toNat).toNat by rw [sv1])) (Eq.trans (congrFun (congrFun Zh38 73) (((yM h) 79 a.toNat).toNat)) (Eq.trans (zs_na (by decide) : (zs (yM h) 84 a.toNat (w32 (((yM h) 84 a.toNat) - ((yM h) 70 (((yM h) 79 a.toNat).toNat))))) 73 (((yM h) 79 a.toNat).toNat) = (yM h) 73 (((yM h) 79 a.toNat).toNat)) rfl))))
      refine zwW_p [(1, 0, 2)] (q := 58) (ls' := [(2, 37), (0, a), (0, v1), (0, v2), (9, 0)]) (st' := [(2, 37), (0, v39), (0, v1), (2, 73)]) (by decide +kernel) rfl ?_
      refine zwW_gc Ih38 (kd := 13) (bn := 11) (n := 97) (c := 70) (nx := 61) (by decide +kernel) ?_
      refine zwW_p [(1, 2, 0)] (q := 62) (ls' := [(2, 37), (0, a), (0, v1), (0, v2), (9, 0)]) (st' := [(0, v1), (2, 70), (0, v39), (0, v1), (2, 73)]) (by decide +kernel) rfl ?_
      refine zwW_al Ih38 (a1 := 70) (a2 := 70) (kd := 20) (n := 8) (t := 0) (lo := -2147483648) (hi := 2147483647) (nx := 63) (by decide +kernel) (by first | decide | exact ⟨by decide, by decide⟩) ib3 ?_
      intro v40 ev40 lv40 uv40
      have sv40 : v40 = (yM h) 70 (((yM h) 79 a.toNat).toNat) := Eq.trans ev40 (Eq.trans (Eq.symm (yM_p (h := h38) (a := 70) (n := 8) (i := v1.toNat) rfl (zit ib3))) (Eq.trans (congrArg (yM h38 70) (show v1.toNat = ((yM h) 79 a.toNat).toNat by rw [sv1])) (Eq.trans (congrFun (congrFun Zh38 70) (((yM h) 79 a.toNat).toNat)) (Eq.trans (zs_na (by decide) : (zs (yM h) 84 a.toNat (w32 (((yM h) 84 a.toNat) - ((yM h) 70 (((yM h) 79 a.toNat).toNat))))) 70 (((yM h) 79 a.toNat).toNat) = (yM h) 70 (((yM h) 79 a.toNat).toNat)) rfl))))
      refine zwW_adw (nx := 64) (by decide +kernel) ?_
      intro v41 ev41 lv41 uv41
      have Ev41 : v41 = w32 (((yM h) 73 (((yM h) 79 a.toNat).toNat)) + ((yM h) 70 (((yM h) 79 a.toNat).toNat))) := by rw [ev41, sv39, sv40]
      refine zwW_as Ih38 (a1 := 73) (a2 := 73) (n := 8) (lo := -2147483648) (hi := 2147483647) (nx := 65) (by decide +kernel) (by first | decide | exact ⟨by decide, by decide⟩) ib3 (by first | omega | exact ⟨by omega, by omega⟩) ?_
      intro h42 eh42 Ih42
      have jbh42 : 0 ≤ v1.toNat ∧ v1.toNat < 8 := ⟨Nat.zero_le _, zit ib3⟩
      have th42_37_1 : fld h42 37 1 = fld h38 37 1 := by rw [eh42]; exact fld_wr (Or.inl (by decide))
      have th42_37_2 : fld h42 37 2 = fld h38 37 2 := by rw [eh42]; exact fld_wr (Or.inl (by decide))
      have Vh42 : mRq q h42 := Vh38.fr (zMR.one (a1 := 73) (a2 := 73) (j1 := 0) (j2 := 8) (by first | decide | exact ⟨by decide, by decide⟩) jbh42 eh42) (by decide +kernel)
      have Uh42 : yM h42 = (zs (zs (yM h) 84 a.toNat (w32 (((yM h) 84 a.toNat) - ((yM h) 70 (((yM h) 79 a.toNat).toNat))))) 73 (((yM h) 79 a.toNat).toNat) (w32 (((yM h) 73 (((yM h) 79 a.toNat).toNat)) + ((yM h) 70 (((yM h) 79 a.toNat).toNat))))) := by rw [yM_w (a := 73) (n := 8) (i := v1.toNat) (kd := 20) rfl (Ih38.s (a1 := 73) (a2 := 73) (by decide +kernel) (by decide) (by decide)) jbh42.2 eh42, Zh38, Ev41, sv1]
      have Zh42 : yM h42 = (zs (zs (yM h) 73 (((yM h) 79 a.toNat).toNat) (w32 (((yM h) 73 (((yM h) 79 a.toNat).toNat)) + ((yM h) 70 (((yM h) 79 a.toNat).toNat))))) 84 a.toNat (w32 (((yM h) 84 a.toNat) - ((yM h) 70 (((yM h) 79 a.toNat).toNat))))) := by rw [Uh42, zs_sw (a := 84) (b := 73) (by decide)]
      have Rh42 : zMR ms195 h h42 := Rh38.w (a1 := 73) (a2 := 73) (j1 := 0) (j2 := 8) (by decide +kernel) (by first | decide | exact ⟨by decide, by decide⟩) jbh42 eh42
      refine zwW_p [(1, 0, 2)] (q := 66) (ls' := [(2, 37), (0, a), (0, v1), (0, v2), (9, 0)]) (st' := [(2, 37)]) (by decide +kernel) rfl ?_
      refine zwW_gc Ih42 (kd := 13) (bn := 28) (n := 97) (c := 87) (nx := 69) (by decide +kernel) ?_
      refine zwW_p [(1, 1, 0), (14, 0, 0)] (q := 71) (ls' := [(2, 37), (0, a), (0, v1), (0, v2), (9, 0)]) (st' := [(0, a), (2, 87), (0, a), (2, 87)]) (by decide +kernel) rfl ?_
      refine zwW_al Ih42 (a1 := 87) (a2 := 87) (kd := 20) (n := 20) (t := 0) (lo := -2147483648) (hi := 2147483647) (nx := 72) (by decide +kernel) (by first | decide | exact ⟨by decide, by decide⟩) ib1 ?_
      intro v43 ev43 lv43 uv43
      have sv43 : v43 = (yM h) 87 a.toNat := Eq.trans ev43 (Eq.trans (Eq.symm (yM_p (h := h42) (a := 87) (n := 20) (i := a.toNat) rfl (zit ib1))) (Eq.trans (congrFun (congrFun Zh42 87) a.toNat) (Eq.trans (zs_na (by decide) : (zs (zs (yM h) 73 (((yM h) 79 a.toNat).toNat) (w32 (((yM h) 73 (((yM h) 79 a.toNat).toNat)) + ((yM h) 70 (((yM h) 79 a.toNat).toNat))))) 84 a.toNat (w32 (((yM h) 84 a.toNat) - ((yM h) 70 (((yM h) 79 a.toNat).toNat))))) 87 a.toNat = (zs (yM h) 73 (((yM h) 79 a.toNat).toNat) (w32 (((yM h) 73 (((yM h) 79 a.toNat).toNat)) + ((yM h) 70 (((yM h) 79 a.toNat).toNat))))) 87 a.toNat) (Eq.trans (zs_na (by decide) : (zs (yM h) 73 (((yM h) 79 a.toNat).toNat) (w32 (((yM h) 73 (((yM h) 79 a.toNat).toNat)) + ((yM h) 70 (((yM h) 79 a.toNat).toNat))))) 87 a.toNat = (yM h) 87 a.toNat) rfl))))
      refine zwW_p [(0, 1, 0)] (q := 73) (ls' := [(2, 37), (0, a), (0, v1), (0, v2), (9, 0)]) (st' := [(0, 1), (0, v43), (0, a), (2, 87)]) (by decide +kernel) rfl ?_
      refine zwW_adw (nx := 74) (by decide +kernel) ?_
      intro v44 ev44 lv44 uv44
      have Ev44 : v44 = w32 (((yM h) 87 a.toNat) + 1) := by rw [ev44, sv43]
      refine zwW_as Ih42 (a1 := 87) (a2 := 87) (n := 20) (lo := -2147483648) (hi := 2147483647) (nx := 75) (by decide +kernel) (by first | decide | exact ⟨by decide, by decide⟩) ib1 (by first | omega | exact ⟨by omega, by omega⟩) ?_
      intro h45 eh45 Ih45
      have jbh45 : 0 ≤ a.toNat ∧ a.toNat < 20 := ⟨Nat.zero_le _, zit ib1⟩
      have th45_37_1 : fld h45 37 1 = fld h42 37 1 := by rw [eh45]; exact fld_wr (Or.inl (by decide))
      have th45_37_2 : fld h45 37 2 = fld h42 37 2 := by rw [eh45]; exact fld_wr (Or.inl (by decide))
      have Vh45 : mRq q h45 := Vh42.fr (zMR.one (a1 := 87) (a2 := 87) (j1 := 0) (j2 := 20) (by first | decide | exact ⟨by decide, by decide⟩) jbh45 eh45) (by decide +kernel)
      have Zh45 : yM h45 = (zs (zs (zs (yM h) 73 (((yM h) 79 a.toNat).toNat) (w32 (((yM h) 73 (((yM h) 79 a.toNat).toNat)) + ((yM h) 70 (((yM h) 79 a.toNat).toNat))))) 84 a.toNat (w32 (((yM h) 84 a.toNat) - ((yM h) 70 (((yM h) 79 a.toNat).toNat))))) 87 a.toNat (w32 (((yM h) 87 a.toNat) + 1))) := by rw [yM_w (a := 87) (n := 20) (i := a.toNat) (kd := 20) rfl (Ih42.s (a1 := 87) (a2 := 87) (by decide +kernel) (by decide) (by decide)) jbh45.2 eh45, Zh42, Ev44]
      have Rh45 : zMR ms195 h h45 := Rh42.w (a1 := 87) (a2 := 87) (j1 := 0) (j2 := 20) (by decide +kernel) (by first | decide | exact ⟨by decide, by decide⟩) jbh45 eh45
      refine zwW_p [(1, 0, 2)] (q := 76) (ls' := [(2, 37), (0, a), (0, v1), (0, v2), (9, 0)]) (st' := [(2, 37)]) (by decide +kernel) rfl ?_
      refine zwW_gc Ih45 (kd := 13) (bn := 8) (n := 97) (c := 67) (nx := 79) (by decide +kernel) ?_
      refine zwW_p [(1, 2, 0)] (q := 80) (ls' := [(2, 37), (0, a), (0, v1), (0, v2), (9, 0)]) (st' := [(0, v1), (2, 67)]) (by decide +kernel) rfl ?_
      refine zwW_al Ih45 (a1 := 67) (a2 := 67) (kd := 20) (n := 8) (t := 0) (lo := -2147483648) (hi := 2147483647) (nx := 81) (by decide +kernel) (by first | decide | exact ⟨by decide, by decide⟩) ib3 ?_
      intro v46 ev46 lv46 uv46
      have sv46 : v46 = (yM h) 67 (((yM h) 79 a.toNat).toNat) := Eq.trans ev46 (Eq.trans (Eq.symm (yM_p (h := h45) (a := 67) (n := 8) (i := v1.toNat) rfl (zit ib3))) (Eq.trans (congrArg (yM h45 67) (show v1.toNat = ((yM h) 79 a.toNat).toNat by rw [sv1])) (Eq.trans (congrFun (congrFun Zh45 67) (((yM h) 79 a.toNat).toNat)) (Eq.trans (zs_na (by decide) : (zs (zs (zs (yM h) 73 (((yM h) 79 a.toNat).toNat) (w32 (((yM h) 73 (((yM h) 79 a.toNat).toNat)) + ((yM h) 70 (((yM h) 79 a.toNat).toNat))))) 84 a.toNat (w32 (((yM h) 84 a.toNat) - ((yM h) 70 (((yM h) 79 a.toNat).toNat))))) 87 a.toNat (w32 (((yM h) 87 a.toNat) + 1))) 67 (((yM h) 79 a.toNat).toNat) = (zs (zs (yM h) 73 (((yM h) 79 a.toNat).toNat) (w32 (((yM h) 73 (((yM h) 79 a.toNat).toNat)) + ((yM h) 70 (((yM h) 79 a.toNat).toNat))))) 84 a.toNat (w32 (((yM h) 84 a.toNat) - ((yM h) 70 (((yM h) 79 a.toNat).toNat))))) 67 (((yM h) 79 a.toNat).toNat)) (Eq.trans (zs_na (by decide) : (zs (zs (yM h) 73 (((yM h) 79 a.toNat).toNat) (w32 (((yM h) 73 (((yM h) 79 a.toNat).toNat)) + ((yM h) 70 (((yM h) 79 a.toNat).toNat))))) 84 a.toNat (w32 (((yM h) 84 a.toNat) - ((yM h) 70 (((yM h) 79 a.toNat).toNat))))) 67 (((yM h) 79 a.toNat).toNat) = (zs (yM h) 73 (((yM h) 79 a.toNat).toNat) (w32 (((yM h) 73 (((yM h) 79 a.toNat).toNat)) + ((yM h) 70 (((yM h) 79 a.toNat).toNat))))) 67 (((yM h) 79 a.toNat).toNat)) (Eq.trans (zs_na (by decide) : (zs (yM h) 73 (((yM h) 79 a.toNat).toNat) (w32 (((yM h) 73 (((yM h) 79 a.toNat).toNat)) + ((yM h) 70 (((yM h) 79 a.toNat).toNat))))) 67 (((yM h) 79 a.toNat).toNat) = (yM h) 67 (((yM h) 79 a.toNat).toNat)) rfl))))))
      refine zwif_le (q := 107) (nx := 84) (by decide +kernel) (fun c47 => ?_) (fun c47 => ?_)
      · refine zwW_p [(1, 0, 2)] (q := 108) (ls' := [(2, 37), (0, a), (0, v1), (0, v2), (9, 0)]) (st' := [(2, 37)]) (by decide +kernel) rfl ?_
        refine zwW_gc Ih45 (kd := 13) (bn := 9) (n := 97) (c := 68) (nx := 111) (by decide +kernel) ?_
        refine zwW_p [(1, 2, 0), (14, 0, 0)] (q := 113) (ls' := [(2, 37), (0, a), (0, v1), (0, v2), (9, 0)]) (st' := [(0, v1), (2, 68), (0, v1), (2, 68)]) (by decide +kernel) rfl ?_
        refine zwW_al Ih45 (a1 := 68) (a2 := 68) (kd := 20) (n := 8) (t := 0) (lo := -2147483648) (hi := 2147483647) (nx := 114) (by decide +kernel) (by first | decide | exact ⟨by decide, by decide⟩) ib3 ?_
        intro v48 ev48 lv48 uv48
        have sv48 : v48 = (yM h) 68 (((yM h) 79 a.toNat).toNat) := Eq.trans ev48 (Eq.trans (Eq.symm (yM_p (h := h45) (a := 68) (n := 8) (i := v1.toNat) rfl (zit ib3))) (Eq.trans (congrArg (yM h45 68) (show v1.toNat = ((yM h) 79 a.toNat).toNat by rw [sv1])) (Eq.trans (congrFun (congrFun Zh45 68) (((yM h) 79 a.toNat).toNat)) (Eq.trans (zs_na (by decide) : (zs (zs (zs (yM h) 73 (((yM h) 79 a.toNat).toNat) (w32 (((yM h) 73 (((yM h) 79 a.toNat).toNat)) + ((yM h) 70 (((yM h) 79 a.toNat).toNat))))) 84 a.toNat (w32 (((yM h) 84 a.toNat) - ((yM h) 70 (((yM h) 79 a.toNat).toNat))))) 87 a.toNat (w32 (((yM h) 87 a.toNat) + 1))) 68 (((yM h) 79 a.toNat).toNat) = (zs (zs (yM h) 73 (((yM h) 79 a.toNat).toNat) (w32 (((yM h) 73 (((yM h) 79 a.toNat).toNat)) + ((yM h) 70 (((yM h) 79 a.toNat).toNat))))) 84 a.toNat (w32 (((yM h) 84 a.toNat) - ((yM h) 70 (((yM h) 79 a.toNat).toNat))))) 68 (((yM h) 79 a.toNat).toNat)) (Eq.trans (zs_na (by decide) : (zs (zs (yM h) 73 (((yM h) 79 a.toNat).toNat) (w32 (((yM h) 73 (((yM h) 79 a.toNat).toNat)) + ((yM h) 70 (((yM h) 79 a.toNat).toNat))))) 84 a.toNat (w32 (((yM h) 84 a.toNat) - ((yM h) 70 (((yM h) 79 a.toNat).toNat))))) 68 (((yM h) 79 a.toNat).toNat) = (zs (yM h) 73 (((yM h) 79 a.toNat).toNat) (w32 (((yM h) 73 (((yM h) 79 a.toNat).toNat)) + ((yM h) 70 (((yM h) 79 a.toNat).toNat))))) 68 (((yM h) 79 a.toNat).toNat)) (Eq.trans (zs_na (by decide) : (zs (yM h) 73 (((yM h) 79 a.toNat).toNat) (w32 (((yM h) 73 (((yM h) 79 a.toNat).toNat)) + ((yM h) 70 (((yM h) 79 a.toNat).toNat))))) 68 (((yM h) 79 a.toNat).toNat) = (yM h) 68 (((yM h) 79 a.toNat).toNat)) rfl))))))
        refine zwW_p [(0, 1, 0)] (q := 115) (ls' := [(2, 37), (0, a), (0, v1), (0, v2), (9, 0)]) (st' := [(0, 1), (0, v48), (0, v1), (2, 68)]) (by decide +kernel) rfl ?_
        refine zwW_sbw (nx := 116) (by decide +kernel) ?_
        intro v49 ev49 lv49 uv49
        have Ev49 : v49 = w32 (((yM h) 68 (((yM h) 79 a.toNat).toNat)) - 1) := by rw [ev49, sv48]
        refine zwW_as Ih45 (a1 := 68) (a2 := 68) (n := 8) (lo := -2147483648) (hi := 2147483647) (nx := 117) (by decide +kernel) (by first | decide | exact ⟨by decide, by decide⟩) ib3 (by first | omega | exact ⟨by omega, by omega⟩) ?_
        intro h50 eh50 Ih50
        have jbh50 : 0 ≤ v1.toNat ∧ v1.toNat < 8 := ⟨Nat.zero_le _, zit ib3⟩
        have th50_37_1 : fld h50 37 1 = fld h45 37 1 := by rw [eh50]; exact fld_wr (Or.inl (by decide))
        have th50_37_2 : fld h50 37 2 = fld h45 37 2 := by rw [eh50]; exact fld_wr (Or.inl (by decide))
        have Vh50 : mRq q h50 := Vh45.fr (zMR.one (a1 := 68) (a2 := 68) (j1 := 0) (j2 := 8) (by first | decide | exact ⟨by decide, by decide⟩) jbh50 eh50) (by decide +kernel)
        have Uh50 : yM h50 = (zs (zs (zs (zs (yM h) 73 (((yM h) 79 a.toNat).toNat) (w32 (((yM h) 73 (((yM h) 79 a.toNat).toNat)) + ((yM h) 70 (((yM h) 79 a.toNat).toNat))))) 84 a.toNat (w32 (((yM h) 84 a.toNat) - ((yM h) 70 (((yM h) 79 a.toNat).toNat))))) 87 a.toNat (w32 (((yM h) 87 a.toNat) + 1))) 68 (((yM h) 79 a.toNat).toNat) (w32 (((yM h) 68 (((yM h) 79 a.toNat).toNat)) - 1))) := by rw [yM_w (a := 68) (n := 8) (i := v1.toNat) (kd := 20) rfl (Ih45.s (a1 := 68) (a2 := 68) (by decide +kernel) (by decide) (by decide)) jbh50.2 eh50, Zh45, Ev49, sv1]
        have Zh50 : yM h50 = (zs (zs (zs (zs (yM h) 68 (((yM h) 79 a.toNat).toNat) (w32 (((yM h) 68 (((yM h) 79 a.toNat).toNat)) - 1))) 73 (((yM h) 79 a.toNat).toNat) (w32 (((yM h) 73 (((yM h) 79 a.toNat).toNat)) + ((yM h) 70 (((yM h) 79 a.toNat).toNat))))) 84 a.toNat (w32 (((yM h) 84 a.toNat) - ((yM h) 70 (((yM h) 79 a.toNat).toNat))))) 87 a.toNat (w32 (((yM h) 87 a.toNat) + 1))) := by rw [Uh50, zs_sw (a := 87) (b := 68) (by decide), zs_sw (a := 84) (b := 68) (by decide), zs_sw (a := 73) (b := 68) (by decide)]
        have Rh50 : zMR ms195 h h50 := Rh45.w (a1 := 68) (a2 := 68) (j1 := 0) (j2 := 8) (by decide +kernel) (by first | decide | exact ⟨by decide, by decide⟩) jbh50 eh50
        refine zwW_p [(24, 201, 0)] (q := 201) (ls' := [(2, 37), (0, a), (0, v1), (0, v2), (9, 0)]) (st' := []) (by decide +kernel) rfl ?_
        refine zwW_retv (nx := 202) (a := 0) (b := 0) (by decide +kernel) ?_
        exact ⟨Ih50, Rh50, by refine Eq.trans Zh50 ?_; unfold yByh yByd yBya ySlH ySlM; (repeat' (first | rw [if_pos (by omega)] | rw [if_neg (by omega)])); all_goals (repeat' (first | rfl | apply zs_cg | omega))⟩
      · refine zwW_p [(1, 0, 2)] (q := 85) (ls' := [(2, 37), (0, a), (0, v1), (0, v2), (9, 0)]) (st' := [(2, 37)]) (by decide +kernel) rfl ?_
        refine zwW_gc Ih45 (kd := 13) (bn := 8) (n := 97) (c := 67) (nx := 88) (by decide +kernel) ?_
        refine zwW_p [(1, 2, 0), (14, 0, 0)] (q := 90) (ls' := [(2, 37), (0, a), (0, v1), (0, v2), (9, 0)]) (st' := [(0, v1), (2, 67), (0, v1), (2, 67)]) (by decide +kernel) rfl ?_
        refine zwW_al Ih45 (a1 := 67) (a2 := 67) (kd := 20) (n := 8) (t := 0) (lo := -2147483648) (hi := 2147483647) (nx := 91) (by decide +kernel) (by first | decide | exact ⟨by decide, by decide⟩) ib3 ?_
        intro v51 ev51 lv51 uv51
        have sv51 : v51 = (yM h) 67 (((yM h) 79 a.toNat).toNat) := Eq.trans ev51 (Eq.trans (Eq.symm (yM_p (h := h45) (a := 67) (n := 8) (i := v1.toNat) rfl (zit ib3))) (Eq.trans (congrArg (yM h45 67) (show v1.toNat = ((yM h) 79 a.toNat).toNat by rw [sv1])) (Eq.trans (congrFun (congrFun Zh45 67) (((yM h) 79 a.toNat).toNat)) (Eq.trans (zs_na (by decide) : (zs (zs (zs (yM h) 73 (((yM h) 79 a.toNat).toNat) (w32 (((yM h) 73 (((yM h) 79 a.toNat).toNat)) + ((yM h) 70 (((yM h) 79 a.toNat).toNat))))) 84 a.toNat (w32 (((yM h) 84 a.toNat) - ((yM h) 70 (((yM h) 79 a.toNat).toNat))))) 87 a.toNat (w32 (((yM h) 87 a.toNat) + 1))) 67 (((yM h) 79 a.toNat).toNat) = (zs (zs (yM h) 73 (((yM h) 79 a.toNat).toNat) (w32 (((yM h) 73 (((yM h) 79 a.toNat).toNat)) + ((yM h) 70 (((yM h) 79 a.toNat).toNat))))) 84 a.toNat (w32 (((yM h) 84 a.toNat) - ((yM h) 70 (((yM h) 79 a.toNat).toNat))))) 67 (((yM h) 79 a.toNat).toNat)) (Eq.trans (zs_na (by decide) : (zs (zs (yM h) 73 (((yM h) 79 a.toNat).toNat) (w32 (((yM h) 73 (((yM h) 79 a.toNat).toNat)) + ((yM h) 70 (((yM h) 79 a.toNat).toNat))))) 84 a.toNat (w32 (((yM h) 84 a.toNat) - ((yM h) 70 (((yM h) 79 a.toNat).toNat))))) 67 (((yM h) 79 a.toNat).toNat) = (zs (yM h) 73 (((yM h) 79 a.toNat).toNat) (w32 (((yM h) 73 (((yM h) 79 a.toNat).toNat)) + ((yM h) 70 (((yM h) 79 a.toNat).toNat))))) 67 (((yM h) 79 a.toNat).toNat)) (Eq.trans (zs_na (by decide) : (zs (yM h) 73 (((yM h) 79 a.toNat).toNat) (w32 (((yM h) 73 (((yM h) 79 a.toNat).toNat)) + ((yM h) 70 (((yM h) 79 a.toNat).toNat))))) 67 (((yM h) 79 a.toNat).toNat) = (yM h) 67 (((yM h) 79 a.toNat).toNat)) rfl))))))
        refine zwW_p [(0, 1, 0)] (q := 92) (ls' := [(2, 37), (0, a), (0, v1), (0, v2), (9, 0)]) (st' := [(0, 1), (0, v51), (0, v1), (2, 67)]) (by decide +kernel) rfl ?_
        refine zwW_sbw (nx := 93) (by decide +kernel) ?_
        intro v52 ev52 lv52 uv52
        have Ev52 : v52 = w32 (((yM h) 67 (((yM h) 79 a.toNat).toNat)) - 1) := by rw [ev52, sv51]
        refine zwW_as Ih45 (a1 := 67) (a2 := 67) (n := 8) (lo := -2147483648) (hi := 2147483647) (nx := 94) (by decide +kernel) (by first | decide | exact ⟨by decide, by decide⟩) ib3 (by first | omega | exact ⟨by omega, by omega⟩) ?_
        intro h53 eh53 Ih53
        have jbh53 : 0 ≤ v1.toNat ∧ v1.toNat < 8 := ⟨Nat.zero_le _, zit ib3⟩
        have th53_37_1 : fld h53 37 1 = fld h45 37 1 := by rw [eh53]; exact fld_wr (Or.inl (by decide))
        have th53_37_2 : fld h53 37 2 = fld h45 37 2 := by rw [eh53]; exact fld_wr (Or.inl (by decide))
        have Vh53 : mRq q h53 := Vh45.fr (zMR.one (a1 := 67) (a2 := 67) (j1 := 0) (j2 := 8) (by first | decide | exact ⟨by decide, by decide⟩) jbh53 eh53) (by decide +kernel)
        have Uh53 : yM h53 = (zs (zs (zs (zs (yM h) 73 (((yM h) 79 a.toNat).toNat) (w32 (((yM h) 73 (((yM h) 79 a.toNat).toNat)) + ((yM h) 70 (((yM h) 79 a.toNat).toNat))))) 84 a.toNat (w32 (((yM h) 84 a.toNat) - ((yM h) 70 (((yM h) 79 a.toNat).toNat))))) 87 a.toNat (w32 (((yM h) 87 a.toNat) + 1))) 67 (((yM h) 79 a.toNat).toNat) (w32 (((yM h) 67 (((yM h) 79 a.toNat).toNat)) - 1))) := by rw [yM_w (a := 67) (n := 8) (i := v1.toNat) (kd := 20) rfl (Ih45.s (a1 := 67) (a2 := 67) (by decide +kernel) (by decide) (by decide)) jbh53.2 eh53, Zh45, Ev52, sv1]
        have Zh53 : yM h53 = (zs (zs (zs (zs (yM h) 67 (((yM h) 79 a.toNat).toNat) (w32 (((yM h) 67 (((yM h) 79 a.toNat).toNat)) - 1))) 73 (((yM h) 79 a.toNat).toNat) (w32 (((yM h) 73 (((yM h) 79 a.toNat).toNat)) + ((yM h) 70 (((yM h) 79 a.toNat).toNat))))) 84 a.toNat (w32 (((yM h) 84 a.toNat) - ((yM h) 70 (((yM h) 79 a.toNat).toNat))))) 87 a.toNat (w32 (((yM h) 87 a.toNat) + 1))) := by rw [Uh53, zs_sw (a := 87) (b := 67) (by decide), zs_sw (a := 84) (b := 67) (by decide), zs_sw (a := 73) (b := 67) (by decide)]
        have Rh53 : zMR ms195 h h53 := Rh45.w (a1 := 67) (a2 := 67) (j1 := 0) (j2 := 8) (by decide +kernel) (by first | decide | exact ⟨by decide, by decide⟩) jbh53 eh53
        refine zwW_p [(1, 0, 2)] (q := 95) (ls' := [(2, 37), (0, a), (0, v1), (0, v2), (9, 0)]) (st' := [(2, 37)]) (by decide +kernel) rfl ?_
        refine zwW_gc Ih53 (kd := 13) (bn := 17) (n := 97) (c := 76) (nx := 98) (by decide +kernel) ?_
        refine zwW_p [(1, 2, 0), (14, 0, 0)] (q := 100) (ls' := [(2, 37), (0, a), (0, v1), (0, v2), (9, 0)]) (st' := [(0, v1), (2, 76), (0, v1), (2, 76)]) (by decide +kernel) rfl ?_
        refine zwW_al Ih53 (a1 := 76) (a2 := 76) (kd := 20) (n := 8) (t := 0) (lo := -2147483648) (hi := 2147483647) (nx := 101) (by decide +kernel) (by first | decide | exact ⟨by decide, by decide⟩) ib3 ?_
        intro v54 ev54 lv54 uv54
        have sv54 : v54 = (yM h) 76 (((yM h) 79 a.toNat).toNat) := Eq.trans ev54 (Eq.trans (Eq.symm (yM_p (h := h53) (a := 76) (n := 8) (i := v1.toNat) rfl (zit ib3))) (Eq.trans (congrArg (yM h53 76) (show v1.toNat = ((yM h) 79 a.toNat).toNat by rw [sv1])) (Eq.trans (congrFun (congrFun Zh53 76) (((yM h) 79 a.toNat).toNat)) (Eq.trans (zs_na (by decide) : (zs (zs (zs (zs (yM h) 67 (((yM h) 79 a.toNat).toNat) (w32 (((yM h) 67 (((yM h) 79 a.toNat).toNat)) - 1))) 73 (((yM h) 79 a.toNat).toNat) (w32 (((yM h) 73 (((yM h) 79 a.toNat).toNat)) + ((yM h) 70 (((yM h) 79 a.toNat).toNat))))) 84 a.toNat (w32 (((yM h) 84 a.toNat) - ((yM h) 70 (((yM h) 79 a.toNat).toNat))))) 87 a.toNat (w32 (((yM h) 87 a.toNat) + 1))) 76 (((yM h) 79 a.toNat).toNat) = (zs (zs (zs (yM h) 67 (((yM h) 79 a.toNat).toNat) (w32 (((yM h) 67 (((yM h) 79 a.toNat).toNat)) - 1))) 73 (((yM h) 79 a.toNat).toNat) (w32 (((yM h) 73 (((yM h) 79 a.toNat).toNat)) + ((yM h) 70 (((yM h) 79 a.toNat).toNat))))) 84 a.toNat (w32 (((yM h) 84 a.toNat) - ((yM h) 70 (((yM h) 79 a.toNat).toNat))))) 76 (((yM h) 79 a.toNat).toNat)) (Eq.trans (zs_na (by decide) : (zs (zs (zs (yM h) 67 (((yM h) 79 a.toNat).toNat) (w32 (((yM h) 67 (((yM h) 79 a.toNat).toNat)) - 1))) 73 (((yM h) 79 a.toNat).toNat) (w32 (((yM h) 73 (((yM h) 79 a.toNat).toNat)) + ((yM h) 70 (((yM h) 79 a.toNat).toNat))))) 84 a.toNat (w32 (((yM h) 84 a.toNat) - ((yM h) 70 (((yM h) 79 a.toNat).toNat))))) 76 (((yM h) 79 a.toNat).toNat) = (zs (zs (yM h) 67 (((yM h) 79 a.toNat).toNat) (w32 (((yM h) 67 (((yM h) 79 a.toNat).toNat)) - 1))) 73 (((yM h) 79 a.toNat).toNat) (w32 (((yM h) 73 (((yM h) 79 a.toNat).toNat)) + ((yM h) 70 (((yM h) 79 a.toNat).toNat))))) 76 (((yM h) 79 a.toNat).toNat)) (Eq.trans (zs_na (by decide) : (zs (zs (yM h) 67 (((yM h) 79 a.toNat).toNat) (w32 (((yM h) 67 (((yM h) 79 a.toNat).toNat)) - 1))) 73 (((yM h) 79 a.toNat).toNat) (w32 (((yM h) 73 (((yM h) 79 a.toNat).toNat)) + ((yM h) 70 (((yM h) 79 a.toNat).toNat))))) 76 (((yM h) 79 a.toNat).toNat) = (zs (yM h) 67 (((yM h) 79 a.toNat).toNat) (w32 (((yM h) 67 (((yM h) 79 a.toNat).toNat)) - 1))) 76 (((yM h) 79 a.toNat).toNat)) (Eq.trans (zs_na (by decide) : (zs (yM h) 67 (((yM h) 79 a.toNat).toNat) (w32 (((yM h) 67 (((yM h) 79 a.toNat).toNat)) - 1))) 76 (((yM h) 79 a.toNat).toNat) = (yM h) 76 (((yM h) 79 a.toNat).toNat)) rfl)))))))
        refine zwW_p [(0, 1, 0)] (q := 102) (ls' := [(2, 37), (0, a), (0, v1), (0, v2), (9, 0)]) (st' := [(0, 1), (0, v54), (0, v1), (2, 76)]) (by decide +kernel) rfl ?_
        refine zwW_adw (nx := 103) (by decide +kernel) ?_
        intro v55 ev55 lv55 uv55
        have Ev55 : v55 = w32 (((yM h) 76 (((yM h) 79 a.toNat).toNat)) + 1) := by rw [ev55, sv54]
        refine zwW_as Ih53 (a1 := 76) (a2 := 76) (n := 8) (lo := -2147483648) (hi := 2147483647) (nx := 104) (by decide +kernel) (by first | decide | exact ⟨by decide, by decide⟩) ib3 (by first | omega | exact ⟨by omega, by omega⟩) ?_
        intro h56 eh56 Ih56
        have jbh56 : 0 ≤ v1.toNat ∧ v1.toNat < 8 := ⟨Nat.zero_le _, zit ib3⟩
        have th56_37_1 : fld h56 37 1 = fld h53 37 1 := by rw [eh56]; exact fld_wr (Or.inl (by decide))
        have th56_37_2 : fld h56 37 2 = fld h53 37 2 := by rw [eh56]; exact fld_wr (Or.inl (by decide))
        have Vh56 : mRq q h56 := Vh53.fr (zMR.one (a1 := 76) (a2 := 76) (j1 := 0) (j2 := 8) (by first | decide | exact ⟨by decide, by decide⟩) jbh56 eh56) (by decide +kernel)
        have Uh56 : yM h56 = (zs (zs (zs (zs (zs (yM h) 67 (((yM h) 79 a.toNat).toNat) (w32 (((yM h) 67 (((yM h) 79 a.toNat).toNat)) - 1))) 73 (((yM h) 79 a.toNat).toNat) (w32 (((yM h) 73 (((yM h) 79 a.toNat).toNat)) + ((yM h) 70 (((yM h) 79 a.toNat).toNat))))) 84 a.toNat (w32 (((yM h) 84 a.toNat) - ((yM h) 70 (((yM h) 79 a.toNat).toNat))))) 87 a.toNat (w32 (((yM h) 87 a.toNat) + 1))) 76 (((yM h) 79 a.toNat).toNat) (w32 (((yM h) 76 (((yM h) 79 a.toNat).toNat)) + 1))) := by rw [yM_w (a := 76) (n := 8) (i := v1.toNat) (kd := 20) rfl (Ih53.s (a1 := 76) (a2 := 76) (by decide +kernel) (by decide) (by decide)) jbh56.2 eh56, Zh53, Ev55, sv1]
        have Zh56 : yM h56 = (zs (zs (zs (zs (zs (yM h) 67 (((yM h) 79 a.toNat).toNat) (w32 (((yM h) 67 (((yM h) 79 a.toNat).toNat)) - 1))) 73 (((yM h) 79 a.toNat).toNat) (w32 (((yM h) 73 (((yM h) 79 a.toNat).toNat)) + ((yM h) 70 (((yM h) 79 a.toNat).toNat))))) 76 (((yM h) 79 a.toNat).toNat) (w32 (((yM h) 76 (((yM h) 79 a.toNat).toNat)) + 1))) 84 a.toNat (w32 (((yM h) 84 a.toNat) - ((yM h) 70 (((yM h) 79 a.toNat).toNat))))) 87 a.toNat (w32 (((yM h) 87 a.toNat) + 1))) := by rw [Uh56, zs_sw (a := 87) (b := 76) (by decide), zs_sw (a := 84) (b := 76) (by decide)]
        have Rh56 : zMR ms195 h h56 := Rh53.w (a1 := 76) (a2 := 76) (j1 := 0) (j2 := 8) (by decide +kernel) (by first | decide | exact ⟨by decide, by decide⟩) jbh56 eh56
        refine zwW_p [(24, 201, 0)] (q := 201) (ls' := [(2, 37), (0, a), (0, v1), (0, v2), (9, 0)]) (st' := []) (by decide +kernel) rfl ?_
        refine zwW_retv (nx := 202) (a := 0) (b := 0) (by decide +kernel) ?_
        exact ⟨Ih56, Rh56, by refine Eq.trans Zh56 ?_; unfold yByh yByd yBya ySlH ySlM; (repeat' (first | rw [if_pos (by omega)] | rw [if_neg (by omega)])); all_goals (repeat' (first | rfl | apply zs_cg | omega))⟩
  · refine zwW_p [(1, 0, 2)] (q := 19) (ls' := [(2, 37), (0, a), (0, v1), (0, v2), (9, 0)]) (st' := [(2, 37)]) (by decide +kernel) rfl ?_
    refine zwW_gc Ih6 (kd := 13) (bn := 27) (n := 97) (c := 86) (nx := 22) (by decide +kernel) ?_
    refine zwW_p [(1, 1, 0), (14, 0, 0)] (q := 24) (ls' := [(2, 37), (0, a), (0, v1), (0, v2), (9, 0)]) (st' := [(0, a), (2, 86), (0, a), (2, 86)]) (by decide +kernel) rfl ?_
    refine zwW_al Ih6 (a1 := 86) (a2 := 86) (kd := 20) (n := 20) (t := 0) (lo := -2147483648) (hi := 2147483647) (nx := 25) (by decide +kernel) (by first | decide | exact ⟨by decide, by decide⟩) ib1 ?_
    intro v57 ev57 lv57 uv57
    have sv57 : v57 = (yM h) 86 a.toNat := Eq.trans ev57 (Eq.trans (Eq.symm (yM_p (h := h6) (a := 86) (n := 20) (i := a.toNat) rfl (zit ib1))) (Eq.trans (congrFun (congrFun Zh6 86) a.toNat) rfl))
    refine zwW_p [(0, 1, 0)] (q := 26) (ls' := [(2, 37), (0, a), (0, v1), (0, v2), (9, 0)]) (st' := [(0, 1), (0, v57), (0, a), (2, 86)]) (by decide +kernel) rfl ?_
    refine zwW_adw (nx := 27) (by decide +kernel) ?_
    intro v58 ev58 lv58 uv58
    have Ev58 : v58 = w32 (((yM h) 86 a.toNat) + 1) := by rw [ev58, sv57]
    refine zwW_as Ih6 (a1 := 86) (a2 := 86) (n := 20) (lo := -2147483648) (hi := 2147483647) (nx := 28) (by decide +kernel) (by first | decide | exact ⟨by decide, by decide⟩) ib1 (by first | omega | exact ⟨by omega, by omega⟩) ?_
    intro h59 eh59 Ih59
    have jbh59 : 0 ≤ a.toNat ∧ a.toNat < 20 := ⟨Nat.zero_le _, zit ib1⟩
    have th59_37_1 : fld h59 37 1 = fld h6 37 1 := by rw [eh59]; exact fld_wr (Or.inl (by decide))
    have th59_37_2 : fld h59 37 2 = fld h6 37 2 := by rw [eh59]; exact fld_wr (Or.inl (by decide))
    have Vh59 : mRq q h59 := Vh6.fr (zMR.one (a1 := 86) (a2 := 86) (j1 := 0) (j2 := 20) (by first | decide | exact ⟨by decide, by decide⟩) jbh59 eh59) (by decide +kernel)
    have Zh59 : yM h59 = (zs (yM h) 86 a.toNat (w32 (((yM h) 86 a.toNat) + 1))) := by rw [yM_w (a := 86) (n := 20) (i := a.toNat) (kd := 20) rfl (Ih6.s (a1 := 86) (a2 := 86) (by decide +kernel) (by decide) (by decide)) jbh59.2 eh59, Zh6, Ev58]
    have Rh59 : zMR ms195 h h59 := Rh6.w (a1 := 86) (a2 := 86) (j1 := 0) (j2 := 20) (by decide +kernel) (by first | decide | exact ⟨by decide, by decide⟩) jbh59 eh59
    refine zwW_p [(24, 201, 0)] (q := 201) (ls' := [(2, 37), (0, a), (0, v1), (0, v2), (9, 0)]) (st' := []) (by decide +kernel) rfl ?_
    refine zwW_retv (nx := 202) (a := 0) (b := 0) (by decide +kernel) ?_
    exact ⟨Ih59, Rh59, by refine Eq.trans Zh59 ?_; unfold yByh yByd yBya ySlH ySlM; (repeat' (first | rw [if_pos (by omega)] | rw [if_neg (by omega)])); all_goals (repeat' (first | rfl | apply zs_cg | omega))⟩
-- WheelLandModel.seasons()V
theorem m196_z {sc : List Int} (h : Hp) (I : zI h) (q : qT) (V : mRq q h) (ok : yOK (yM h)) : zwC sc 4 196 [(2, 37)] h (zwRv (fun g => zI g ∧ zMR ms196 h g ∧ (yM g = ySea q (yM h)))) := by
  refine zwC_of (D := 3) 2 (by decide +kernel) rfl (ls := [(2, 37), (9, 0)]) rfl ?_
  have R : zMR ms196 h h := zMR.rf _ _
  have u0 : yM h 37 0 = fld h 37 0 := rfl
  have u1 : yM h 37 1 = fld h 37 1 := rfl
  have u2 : yM h 37 2 = fld h 37 2 := rfl
  have N1 := I.b (a1 := 37) (a2 := 37) (j1 := 1) (j2 := 2) (lo := 0) (hi := 8) (by decide +kernel) (r := 37) (j := 1) (by decide) (by decide) (by decide) (by decide)
  have N2 := I.b (a1 := 37) (a2 := 37) (j1 := 2) (j2 := 3) (lo := 0) (hi := 20) (by decide +kernel) (r := 37) (j := 2) (by decide) (by decide) (by decide) (by decide)
  refine zwW_p [(0, 0, 0), (2, 1, 0)] (q := 2) (ls' := [(2, 37), (0, 0)]) (st' := []) (by decide +kernel) rfl ?_
  have L1 : ∀ (n0 : Nat) (kL1 : Int) (hL1 : Hp), n0 = ((100 - kL1)).toNat → (mRq q hL1) → ((0 ≤ kL1 ∧ kL1 ≤ fld h 37 2) ∧ fld hL1 37 0 = fld h 37 0 ∧ fld hL1 37 1 = fld h 37 1 ∧ fld hL1 37 2 = fld h 37 2) → (yM hL1 = (yDus q (yM h) (kL1).toNat)) → zI hL1 → zMR ms196 h hL1 → zwW sc (3) 196 2 [(2, 37), (0, kL1)] [] hL1 (zwRv (fun g => zI g ∧ zMR ms196 h g ∧ (yM g = ySea q (yM h)))) := by
    intro n0
    induction n0 using Nat.strongRecOn with
    | ind n0 IHL1 =>
      intro kL1 hL1 hnL1 iL1_0 iL1_1 iL1_2 IhL1 RhL1
      refine zwW_p [(1, 1, 0), (1, 0, 2)] (q := 4) (ls' := [(2, 37), (0, kL1)]) (st' := [(2, 37), (0, kL1)]) (by decide +kernel) rfl ?_
      refine zwW_gs IhL1 (kd := 13) (bn := 2) (n := 97) (t := 0) (lo := 0) (hi := 20) (nx := 7) (by decide +kernel) ?_
      intro v2 ev2 lv2 uv2
      have sv2 : v2 = (yDus q (yM h) (kL1).toNat) 37 2 := Eq.trans ev2 (Eq.trans (Eq.symm (yM_s (h := hL1) (i := 2) rfl)) (Eq.trans (congrFun (congrFun iL1_2 37) 2) rfl))
      refine zwic_ge (q := 51) (nx := 10) (by decide +kernel) (fun c3 => ?_) (fun c3 => ?_)
      · refine zwW_p [(0, 0, 0), (2, 1, 0)] (q := 53) (ls' := [(2, 37), (0, 0)]) (st' := []) (by decide +kernel) rfl ?_
        have L4 : ∀ (n0 : Nat) (vL4 : Int) (hL4 : Hp), n0 = ((100 - vL4)).toNat → (mRq q hL4) → ((0 ≤ vL4 ∧ vL4 ≤ fld h 37 1) ∧ fld hL4 37 0 = fld h 37 0 ∧ fld hL4 37 1 = fld h 37 1 ∧ fld hL4 37 2 = fld h 37 2) → (yM hL4 = (yMls (yDuA q (yM h)) (vL4).toNat)) → zI hL4 → zMR ms196 h hL4 → zwW sc (3) 196 53 [(2, 37), (0, vL4)] [] hL4 (zwRv (fun g => zI g ∧ zMR ms196 h g ∧ (yM g = ySea q (yM h)))) := by
          intro n0
          induction n0 using Nat.strongRecOn with
          | ind n0 IHL4 =>
            intro vL4 hL4 hnL4 iL4_0 iL4_1 iL4_2 IhL4 RhL4
            refine zwW_p [(1, 1, 0), (1, 0, 2)] (q := 55) (ls' := [(2, 37), (0, vL4)]) (st' := [(2, 37), (0, vL4)]) (by decide +kernel) rfl ?_
            refine zwW_gs IhL4 (kd := 13) (bn := 1) (n := 97) (t := 0) (lo := 0) (hi := 8) (nx := 58) (by decide +kernel) ?_
            intro v5 ev5 lv5 uv5
            have sv5 : v5 = (yMls (yDuA q (yM h)) (vL4).toNat) 37 1 := Eq.trans ev5 (Eq.trans (Eq.symm (yM_s (h := hL4) (i := 1) rfl)) (Eq.trans (congrFun (congrFun iL4_2 37) 1) rfl))
            refine zwic_ge (q := 162) (nx := 61) (by decide +kernel) (fun c6 => ?_) (fun c6 => ?_)
            · refine zwW_retv (nx := 163) (a := 0) (b := 0) (by decide +kernel) ?_
              exact ⟨IhL4, RhL4, by refine Eq.trans iL4_2 ?_; unfold ySea yMlA; rw [show yDuA q (yM h) 37 1 = fld h 37 1 from yDus_n (by decide) _, show (fld h 37 1).toNat = (vL4).toNat by omega]⟩
            · have M61 : (yMls (yDuA q (yM h)) (vL4).toNat) 37 1 = fld h 37 1 := (yMls_n (by decide) _).trans (yDus_n (by decide) _)
              have OKM : yOK (yMls (yDuA q (yM h)) (vL4).toNat) := (ok.dus _).mls _ (by rw [yDus_n (by decide)]; show _ ≤ fld h 37 1; omega)
              have B61 := (OKM.vi (v := (vL4).toNat) (by omega)).1
              refine zwW_p [(1, 0, 2)] (q := 62) (ls' := [(2, 37), (0, vL4)]) (st' := [(2, 37)]) (by decide +kernel) rfl ?_
              refine zwW_gc IhL4 (kd := 13) (bn := 18) (n := 97) (c := 77) (nx := 65) (by decide +kernel) ?_
              refine zwW_p [(1, 1, 0)] (q := 66) (ls' := [(2, 37), (0, vL4)]) (st' := [(0, vL4), (2, 77)]) (by decide +kernel) rfl ?_
              have ib1 : 0 ≤ vL4 ∧ vL4 < ((8 : Nat) : Int) := (by first | omega | exact ⟨by omega, by omega⟩)
              refine zwW_al IhL4 (a1 := 77) (a2 := 77) (kd := 20) (n := 8) (t := 0) (lo := -2147483648) (hi := 2147483647) (nx := 67) (by decide +kernel) (by first | decide | exact ⟨by decide, by decide⟩) ib1 ?_
              intro v7 ev7 lv7 uv7
              have sv7 : v7 = (yMls (yDuA q (yM h)) (vL4).toNat) 77 vL4.toNat := Eq.trans ev7 (Eq.trans (Eq.symm (yM_p (h := hL4) (a := 77) (n := 8) (i := vL4.toNat) rfl (zit ib1))) (Eq.trans (congrFun (congrFun iL4_2 77) vL4.toNat) rfl))
              refine zwW_p [(1, 0, 2)] (q := 68) (ls' := [(2, 37), (0, vL4)]) (st' := [(2, 37), (0, v7)]) (by decide +kernel) rfl ?_
              refine zwW_gc IhL4 (kd := 13) (bn := 19) (n := 97) (c := 78) (nx := 71) (by decide +kernel) ?_
              refine zwW_p [(1, 1, 0)] (q := 72) (ls' := [(2, 37), (0, vL4)]) (st' := [(0, vL4), (2, 78), (0, v7)]) (by decide +kernel) rfl ?_
              refine zwW_al IhL4 (a1 := 78) (a2 := 78) (kd := 20) (n := 8) (t := 0) (lo := -2147483648) (hi := 2147483647) (nx := 73) (by decide +kernel) (by first | decide | exact ⟨by decide, by decide⟩) ib1 ?_
              intro v8 ev8 lv8 uv8
              have sv8 : v8 = (yMls (yDuA q (yM h)) (vL4).toNat) 78 vL4.toNat := Eq.trans ev8 (Eq.trans (Eq.symm (yM_p (h := hL4) (a := 78) (n := 8) (i := vL4.toNat) rfl (zit ib1))) (Eq.trans (congrFun (congrFun iL4_2 78) vL4.toNat) rfl))
              refine zwic_ge (q := 107) (nx := 76) (by decide +kernel) (fun c9 => ?_) (fun c9 => ?_)
              · refine zwW_p [(1, 0, 2)] (q := 108) (ls' := [(2, 37), (0, vL4)]) (st' := [(2, 37)]) (by decide +kernel) rfl ?_
                refine zwW_gc IhL4 (kd := 13) (bn := 12) (n := 97) (c := 71) (nx := 111) (by decide +kernel) ?_
                refine zwW_p [(1, 1, 0), (1, 0, 2)] (q := 113) (ls' := [(2, 37), (0, vL4)]) (st' := [(2, 37), (0, vL4), (2, 71)]) (by decide +kernel) rfl ?_
                refine zwW_gc IhL4 (kd := 13) (bn := 12) (n := 97) (c := 71) (nx := 116) (by decide +kernel) ?_
                refine zwW_p [(1, 1, 0)] (q := 117) (ls' := [(2, 37), (0, vL4)]) (st' := [(0, vL4), (2, 71), (0, vL4), (2, 71)]) (by decide +kernel) rfl ?_
                refine zwW_al IhL4 (a1 := 71) (a2 := 71) (kd := 20) (n := 8) (t := 0) (lo := -2147483648) (hi := 2147483647) (nx := 118) (by decide +kernel) (by first | decide | exact ⟨by decide, by decide⟩) ib1 ?_
                intro v10 ev10 lv10 uv10
                have sv10 : v10 = (yMls (yDuA q (yM h)) (vL4).toNat) 71 vL4.toNat := Eq.trans ev10 (Eq.trans (Eq.symm (yM_p (h := hL4) (a := 71) (n := 8) (i := vL4.toNat) rfl (zit ib1))) (Eq.trans (congrFun (congrFun iL4_2 71) vL4.toNat) rfl))
                refine zwW_p [(0, 99, 0)] (q := 120) (ls' := [(2, 37), (0, vL4)]) (st' := [(0, 99), (0, v10), (0, vL4), (2, 71)]) (by decide +kernel) rfl ?_
                refine zwic_ge (q := 134) (nx := 123) (by decide +kernel) (fun c11 => ?_) (fun c11 => ?_)
                · refine zwW_p [(0, 99, 0)] (q := 136) (ls' := [(2, 37), (0, vL4)]) (st' := [(0, 99), (0, vL4), (2, 71)]) (by decide +kernel) rfl ?_
                  refine zwW_as IhL4 (a1 := 71) (a2 := 71) (n := 8) (lo := -2147483648) (hi := 2147483647) (nx := 137) (by decide +kernel) (by first | decide | exact ⟨by decide, by decide⟩) ib1 (by first | decide | exact ⟨by decide, by decide⟩) ?_
                  intro h12 eh12 Ih12
                  have jbh12 : 0 ≤ vL4.toNat ∧ vL4.toNat < 8 := ⟨Nat.zero_le _, zit ib1⟩
                  have th12_37_0 : fld h12 37 0 = fld hL4 37 0 := by rw [eh12]; exact fld_wr (Or.inl (by decide))
                  have th12_37_1 : fld h12 37 1 = fld hL4 37 1 := by rw [eh12]; exact fld_wr (Or.inl (by decide))
                  have th12_37_2 : fld h12 37 2 = fld hL4 37 2 := by rw [eh12]; exact fld_wr (Or.inl (by decide))
                  have Vh12 : mRq q h12 := iL4_0.fr (zMR.one (a1 := 71) (a2 := 71) (j1 := 0) (j2 := 8) (by first | decide | exact ⟨by decide, by decide⟩) jbh12 eh12) (by decide +kernel)
                  have Zh12 : yM h12 = (zs (yMls (yDuA q (yM h)) (vL4).toNat) 71 vL4.toNat 99) := by rw [yM_w (a := 71) (n := 8) (i := vL4.toNat) (kd := 20) rfl (IhL4.s (a1 := 71) (a2 := 71) (by decide +kernel) (by decide) (by decide)) jbh12.2 eh12, iL4_2]
                  have Rh12 : zMR ms196 h h12 := RhL4.w (a1 := 71) (a2 := 71) (j1 := 0) (j2 := 8) (by decide +kernel) (by first | decide | exact ⟨by decide, by decide⟩) jbh12 eh12
                  refine zwW_p [(1, 0, 2)] (q := 138) (ls' := [(2, 37), (0, vL4)]) (st' := [(2, 37)]) (by decide +kernel) rfl ?_
                  refine zwW_gc Ih12 (kd := 13) (bn := 19) (n := 97) (c := 78) (nx := 141) (by decide +kernel) ?_
                  refine zwW_p [(1, 1, 0), (1, 0, 2)] (q := 143) (ls' := [(2, 37), (0, vL4)]) (st' := [(2, 37), (0, vL4), (2, 78)]) (by decide +kernel) rfl ?_
                  refine zwW_gc Ih12 (kd := 13) (bn := 18) (n := 97) (c := 77) (nx := 146) (by decide +kernel) ?_
                  refine zwW_p [(1, 1, 0)] (q := 147) (ls' := [(2, 37), (0, vL4)]) (st' := [(0, vL4), (2, 77), (0, vL4), (2, 78)]) (by decide +kernel) rfl ?_
                  refine zwW_al Ih12 (a1 := 77) (a2 := 77) (kd := 20) (n := 8) (t := 0) (lo := -2147483648) (hi := 2147483647) (nx := 148) (by decide +kernel) (by first | decide | exact ⟨by decide, by decide⟩) ib1 ?_
                  intro v13 ev13 lv13 uv13
                  have sv13 : v13 = (yMls (yDuA q (yM h)) (vL4).toNat) 77 vL4.toNat := Eq.trans ev13 (Eq.trans (Eq.symm (yM_p (h := h12) (a := 77) (n := 8) (i := vL4.toNat) rfl (zit ib1))) (Eq.trans (congrFun (congrFun Zh12 77) vL4.toNat) (Eq.trans (zs_na (by decide) : (zs (yMls (yDuA q (yM h)) (vL4).toNat) 71 vL4.toNat 99) 77 vL4.toNat = (yMls (yDuA q (yM h)) (vL4).toNat) 77 vL4.toNat) rfl)))
                  refine zwW_as Ih12 (a1 := 78) (a2 := 78) (n := 8) (lo := -2147483648) (hi := 2147483647) (nx := 149) (by decide +kernel) (by first | decide | exact ⟨by decide, by decide⟩) ib1 (by first | omega | exact ⟨by omega, by omega⟩) ?_
                  intro h14 eh14 Ih14
                  have jbh14 : 0 ≤ vL4.toNat ∧ vL4.toNat < 8 := ⟨Nat.zero_le _, zit ib1⟩
                  have th14_37_0 : fld h14 37 0 = fld h12 37 0 := by rw [eh14]; exact fld_wr (Or.inl (by decide))
                  have th14_37_1 : fld h14 37 1 = fld h12 37 1 := by rw [eh14]; exact fld_wr (Or.inl (by decide))
                  have th14_37_2 : fld h14 37 2 = fld h12 37 2 := by rw [eh14]; exact fld_wr (Or.inl (by decide))
                  have Vh14 : mRq q h14 := Vh12.fr (zMR.one (a1 := 78) (a2 := 78) (j1 := 0) (j2 := 8) (by first | decide | exact ⟨by decide, by decide⟩) jbh14 eh14) (by decide +kernel)
                  have Zh14 : yM h14 = (zs (zs (yMls (yDuA q (yM h)) (vL4).toNat) 71 vL4.toNat 99) 78 vL4.toNat ((yMls (yDuA q (yM h)) (vL4).toNat) 77 vL4.toNat)) := by rw [yM_w (a := 78) (n := 8) (i := vL4.toNat) (kd := 20) rfl (Ih12.s (a1 := 78) (a2 := 78) (by decide +kernel) (by decide) (by decide)) jbh14.2 eh14, Zh12, sv13]
                  have Rh14 : zMR ms196 h h14 := Rh12.w (a1 := 78) (a2 := 78) (j1 := 0) (j2 := 8) (by decide +kernel) (by first | decide | exact ⟨by decide, by decide⟩) jbh14 eh14
                  refine zwW_p [(1, 0, 2)] (q := 150) (ls' := [(2, 37), (0, vL4)]) (st' := [(2, 37)]) (by decide +kernel) rfl ?_
                  refine zwW_gc Ih14 (kd := 13) (bn := 18) (n := 97) (c := 77) (nx := 153) (by decide +kernel) ?_
                  refine zwW_p [(1, 1, 0), (0, 0, 0)] (q := 155) (ls' := [(2, 37), (0, vL4)]) (st' := [(0, 0), (0, vL4), (2, 77)]) (by decide +kernel) rfl ?_
                  refine zwW_as Ih14 (a1 := 77) (a2 := 77) (n := 8) (lo := -2147483648) (hi := 2147483647) (nx := 156) (by decide +kernel) (by first | decide | exact ⟨by decide, by decide⟩) ib1 (by first | decide | exact ⟨by decide, by decide⟩) ?_
                  intro h15 eh15 Ih15
                  have jbh15 : 0 ≤ vL4.toNat ∧ vL4.toNat < 8 := ⟨Nat.zero_le _, zit ib1⟩
                  have th15_37_0 : fld h15 37 0 = fld h14 37 0 := by rw [eh15]; exact fld_wr (Or.inl (by decide))
                  have th15_37_1 : fld h15 37 1 = fld h14 37 1 := by rw [eh15]; exact fld_wr (Or.inl (by decide))
                  have th15_37_2 : fld h15 37 2 = fld h14 37 2 := by rw [eh15]; exact fld_wr (Or.inl (by decide))
                  have Vh15 : mRq q h15 := Vh14.fr (zMR.one (a1 := 77) (a2 := 77) (j1 := 0) (j2 := 8) (by first | decide | exact ⟨by decide, by decide⟩) jbh15 eh15) (by decide +kernel)
                  have Uh15 : yM h15 = (zs (zs (zs (yMls (yDuA q (yM h)) (vL4).toNat) 71 vL4.toNat 99) 78 vL4.toNat ((yMls (yDuA q (yM h)) (vL4).toNat) 77 vL4.toNat)) 77 vL4.toNat 0) := by rw [yM_w (a := 77) (n := 8) (i := vL4.toNat) (kd := 20) rfl (Ih14.s (a1 := 77) (a2 := 77) (by decide +kernel) (by decide) (by decide)) jbh15.2 eh15, Zh14]
                  have Zh15 : yM h15 = (zs (zs (zs (yMls (yDuA q (yM h)) (vL4).toNat) 71 vL4.toNat 99) 77 vL4.toNat 0) 78 vL4.toNat ((yMls (yDuA q (yM h)) (vL4).toNat) 77 vL4.toNat)) := by rw [Uh15, zs_sw (a := 78) (b := 77) (by decide)]
                  have Rh15 : zMR ms196 h h15 := Rh14.w (a1 := 77) (a2 := 77) (j1 := 0) (j2 := 8) (by decide +kernel) (by first | decide | exact ⟨by decide, by decide⟩) jbh15 eh15
                  refine zwW_inc (i := 1) (c := 1) (x := vL4) (nx := 159) (by decide +kernel) rfl (by first | omega | exact ⟨by omega, by omega⟩) (ls' := [(2, 37), (0, (vL4 + 1))]) rfl ?_
                  refine zwW_p [(24, 53, 0)] (q := 53) (ls' := [(2, 37), (0, (vL4 + 1))]) (st' := []) (by decide +kernel) rfl ?_
                  exact IHL4 ((100 - (vL4 + 1))).toNat (by omega) (vL4 + 1) h15 rfl (Vh15) (by omega) (by rw [show (vL4 + 1).toNat = (vL4).toNat + 1 by omega]; show _ = yMl1 _ _; unfold yMl1; refine Zh15.trans ?_; (repeat' (first | rw [if_pos (by omega)] | rw [if_neg (by omega)])); all_goals (repeat' (first | rfl | apply zs_cg | omega | (unfold w32; omega)))) Ih15 Rh15
                · refine zwW_p [(1, 0, 2)] (q := 124) (ls' := [(2, 37), (0, vL4)]) (st' := [(2, 37), (0, vL4), (2, 71)]) (by decide +kernel) rfl ?_
                  refine zwW_gc IhL4 (kd := 13) (bn := 12) (n := 97) (c := 71) (nx := 127) (by decide +kernel) ?_
                  refine zwW_p [(1, 1, 0)] (q := 128) (ls' := [(2, 37), (0, vL4)]) (st' := [(0, vL4), (2, 71), (0, vL4), (2, 71)]) (by decide +kernel) rfl ?_
                  refine zwW_al IhL4 (a1 := 71) (a2 := 71) (kd := 20) (n := 8) (t := 0) (lo := -2147483648) (hi := 2147483647) (nx := 129) (by decide +kernel) (by first | decide | exact ⟨by decide, by decide⟩) ib1 ?_
                  intro v16 ev16 lv16 uv16
                  have sv16 : v16 = (yMls (yDuA q (yM h)) (vL4).toNat) 71 vL4.toNat := Eq.trans ev16 (Eq.trans (Eq.symm (yM_p (h := hL4) (a := 71) (n := 8) (i := vL4.toNat) rfl (zit ib1))) (Eq.trans (congrFun (congrFun iL4_2 71) vL4.toNat) rfl))
                  refine zwW_p [(0, 1, 0)] (q := 130) (ls' := [(2, 37), (0, vL4)]) (st' := [(0, 1), (0, v16), (0, vL4), (2, 71)]) (by decide +kernel) rfl ?_
                  refine zwW_adw (nx := 131) (by decide +kernel) ?_
                  intro v17 ev17 lv17 uv17
                  have Ev17 : v17 = w32 (((yMls (yDuA q (yM h)) (vL4).toNat) 71 vL4.toNat) + 1) := by rw [ev17, sv16]
                  refine zwW_p [(24, 136, 0)] (q := 136) (ls' := [(2, 37), (0, vL4)]) (st' := [(0, v17), (0, vL4), (2, 71)]) (by decide +kernel) rfl ?_
                  refine zwW_as IhL4 (a1 := 71) (a2 := 71) (n := 8) (lo := -2147483648) (hi := 2147483647) (nx := 137) (by decide +kernel) (by first | decide | exact ⟨by decide, by decide⟩) ib1 (by first | omega | exact ⟨by omega, by omega⟩) ?_
                  intro h18 eh18 Ih18
                  have jbh18 : 0 ≤ vL4.toNat ∧ vL4.toNat < 8 := ⟨Nat.zero_le _, zit ib1⟩
                  have th18_37_0 : fld h18 37 0 = fld hL4 37 0 := by rw [eh18]; exact fld_wr (Or.inl (by decide))
                  have th18_37_1 : fld h18 37 1 = fld hL4 37 1 := by rw [eh18]; exact fld_wr (Or.inl (by decide))
                  have th18_37_2 : fld h18 37 2 = fld hL4 37 2 := by rw [eh18]; exact fld_wr (Or.inl (by decide))
                  have Vh18 : mRq q h18 := iL4_0.fr (zMR.one (a1 := 71) (a2 := 71) (j1 := 0) (j2 := 8) (by first | decide | exact ⟨by decide, by decide⟩) jbh18 eh18) (by decide +kernel)
                  have Zh18 : yM h18 = (zs (yMls (yDuA q (yM h)) (vL4).toNat) 71 vL4.toNat (w32 (((yMls (yDuA q (yM h)) (vL4).toNat) 71 vL4.toNat) + 1))) := by rw [yM_w (a := 71) (n := 8) (i := vL4.toNat) (kd := 20) rfl (IhL4.s (a1 := 71) (a2 := 71) (by decide +kernel) (by decide) (by decide)) jbh18.2 eh18, iL4_2, Ev17]
                  have Rh18 : zMR ms196 h h18 := RhL4.w (a1 := 71) (a2 := 71) (j1 := 0) (j2 := 8) (by decide +kernel) (by first | decide | exact ⟨by decide, by decide⟩) jbh18 eh18
                  refine zwW_p [(1, 0, 2)] (q := 138) (ls' := [(2, 37), (0, vL4)]) (st' := [(2, 37)]) (by decide +kernel) rfl ?_
                  refine zwW_gc Ih18 (kd := 13) (bn := 19) (n := 97) (c := 78) (nx := 141) (by decide +kernel) ?_
                  refine zwW_p [(1, 1, 0), (1, 0, 2)] (q := 143) (ls' := [(2, 37), (0, vL4)]) (st' := [(2, 37), (0, vL4), (2, 78)]) (by decide +kernel) rfl ?_
                  refine zwW_gc Ih18 (kd := 13) (bn := 18) (n := 97) (c := 77) (nx := 146) (by decide +kernel) ?_
                  refine zwW_p [(1, 1, 0)] (q := 147) (ls' := [(2, 37), (0, vL4)]) (st' := [(0, vL4), (2, 77), (0, vL4), (2, 78)]) (by decide +kernel) rfl ?_
                  refine zwW_al Ih18 (a1 := 77) (a2 := 77) (kd := 20) (n := 8) (t := 0) (lo := -2147483648) (hi := 2147483647) (nx := 148) (by decide +kernel) (by first | decide | exact ⟨by decide, by decide⟩) ib1 ?_
                  intro v19 ev19 lv19 uv19
                  have sv19 : v19 = (yMls (yDuA q (yM h)) (vL4).toNat) 77 vL4.toNat := Eq.trans ev19 (Eq.trans (Eq.symm (yM_p (h := h18) (a := 77) (n := 8) (i := vL4.toNat) rfl (zit ib1))) (Eq.trans (congrFun (congrFun Zh18 77) vL4.toNat) (Eq.trans (zs_na (by decide) : (zs (yMls (yDuA q (yM h)) (vL4).toNat) 71 vL4.toNat (w32 (((yMls (yDuA q (yM h)) (vL4).toNat) 71 vL4.toNat) + 1))) 77 vL4.toNat = (yMls (yDuA q (yM h)) (vL4).toNat) 77 vL4.toNat) rfl)))
                  refine zwW_as Ih18 (a1 := 78) (a2 := 78) (n := 8) (lo := -2147483648) (hi := 2147483647) (nx := 149) (by decide +kernel) (by first | decide | exact ⟨by decide, by decide⟩) ib1 (by first | omega | exact ⟨by omega, by omega⟩) ?_
                  intro h20 eh20 Ih20
                  have jbh20 : 0 ≤ vL4.toNat ∧ vL4.toNat < 8 := ⟨Nat.zero_le _, zit ib1⟩
                  have th20_37_0 : fld h20 37 0 = fld h18 37 0 := by rw [eh20]; exact fld_wr (Or.inl (by decide))
                  have th20_37_1 : fld h20 37 1 = fld h18 37 1 := by rw [eh20]; exact fld_wr (Or.inl (by decide))
                  have th20_37_2 : fld h20 37 2 = fld h18 37 2 := by rw [eh20]; exact fld_wr (Or.inl (by decide))
                  have Vh20 : mRq q h20 := Vh18.fr (zMR.one (a1 := 78) (a2 := 78) (j1 := 0) (j2 := 8) (by first | decide | exact ⟨by decide, by decide⟩) jbh20 eh20) (by decide +kernel)
                  have Zh20 : yM h20 = (zs (zs (yMls (yDuA q (yM h)) (vL4).toNat) 71 vL4.toNat (w32 (((yMls (yDuA q (yM h)) (vL4).toNat) 71 vL4.toNat) + 1))) 78 vL4.toNat ((yMls (yDuA q (yM h)) (vL4).toNat) 77 vL4.toNat)) := by rw [yM_w (a := 78) (n := 8) (i := vL4.toNat) (kd := 20) rfl (Ih18.s (a1 := 78) (a2 := 78) (by decide +kernel) (by decide) (by decide)) jbh20.2 eh20, Zh18, sv19]
                  have Rh20 : zMR ms196 h h20 := Rh18.w (a1 := 78) (a2 := 78) (j1 := 0) (j2 := 8) (by decide +kernel) (by first | decide | exact ⟨by decide, by decide⟩) jbh20 eh20
                  refine zwW_p [(1, 0, 2)] (q := 150) (ls' := [(2, 37), (0, vL4)]) (st' := [(2, 37)]) (by decide +kernel) rfl ?_
                  refine zwW_gc Ih20 (kd := 13) (bn := 18) (n := 97) (c := 77) (nx := 153) (by decide +kernel) ?_
                  refine zwW_p [(1, 1, 0), (0, 0, 0)] (q := 155) (ls' := [(2, 37), (0, vL4)]) (st' := [(0, 0), (0, vL4), (2, 77)]) (by decide +kernel) rfl ?_
                  refine zwW_as Ih20 (a1 := 77) (a2 := 77) (n := 8) (lo := -2147483648) (hi := 2147483647) (nx := 156) (by decide +kernel) (by first | decide | exact ⟨by decide, by decide⟩) ib1 (by first | decide | exact ⟨by decide, by decide⟩) ?_
                  intro h21 eh21 Ih21
                  have jbh21 : 0 ≤ vL4.toNat ∧ vL4.toNat < 8 := ⟨Nat.zero_le _, zit ib1⟩
                  have th21_37_0 : fld h21 37 0 = fld h20 37 0 := by rw [eh21]; exact fld_wr (Or.inl (by decide))
                  have th21_37_1 : fld h21 37 1 = fld h20 37 1 := by rw [eh21]; exact fld_wr (Or.inl (by decide))
                  have th21_37_2 : fld h21 37 2 = fld h20 37 2 := by rw [eh21]; exact fld_wr (Or.inl (by decide))
                  have Vh21 : mRq q h21 := Vh20.fr (zMR.one (a1 := 77) (a2 := 77) (j1 := 0) (j2 := 8) (by first | decide | exact ⟨by decide, by decide⟩) jbh21 eh21) (by decide +kernel)
                  have Uh21 : yM h21 = (zs (zs (zs (yMls (yDuA q (yM h)) (vL4).toNat) 71 vL4.toNat (w32 (((yMls (yDuA q (yM h)) (vL4).toNat) 71 vL4.toNat) + 1))) 78 vL4.toNat ((yMls (yDuA q (yM h)) (vL4).toNat) 77 vL4.toNat)) 77 vL4.toNat 0) := by rw [yM_w (a := 77) (n := 8) (i := vL4.toNat) (kd := 20) rfl (Ih20.s (a1 := 77) (a2 := 77) (by decide +kernel) (by decide) (by decide)) jbh21.2 eh21, Zh20]
                  have Zh21 : yM h21 = (zs (zs (zs (yMls (yDuA q (yM h)) (vL4).toNat) 71 vL4.toNat (w32 (((yMls (yDuA q (yM h)) (vL4).toNat) 71 vL4.toNat) + 1))) 77 vL4.toNat 0) 78 vL4.toNat ((yMls (yDuA q (yM h)) (vL4).toNat) 77 vL4.toNat)) := by rw [Uh21, zs_sw (a := 78) (b := 77) (by decide)]
                  have Rh21 : zMR ms196 h h21 := Rh20.w (a1 := 77) (a2 := 77) (j1 := 0) (j2 := 8) (by decide +kernel) (by first | decide | exact ⟨by decide, by decide⟩) jbh21 eh21
                  refine zwW_inc (i := 1) (c := 1) (x := vL4) (nx := 159) (by decide +kernel) rfl (by first | omega | exact ⟨by omega, by omega⟩) (ls' := [(2, 37), (0, (vL4 + 1))]) rfl ?_
                  refine zwW_p [(24, 53, 0)] (q := 53) (ls' := [(2, 37), (0, (vL4 + 1))]) (st' := []) (by decide +kernel) rfl ?_
                  exact IHL4 ((100 - (vL4 + 1))).toNat (by omega) (vL4 + 1) h21 rfl (Vh21) (by omega) (by rw [show (vL4 + 1).toNat = (vL4).toNat + 1 by omega]; show _ = yMl1 _ _; unfold yMl1; refine Zh21.trans ?_; (repeat' (first | rw [if_pos (by omega)] | rw [if_neg (by omega)])); all_goals (repeat' (first | rfl | apply zs_cg | omega | (unfold w32; omega)))) Ih21 Rh21
              · refine zwW_p [(1, 0, 2)] (q := 77) (ls' := [(2, 37), (0, vL4)]) (st' := [(2, 37)]) (by decide +kernel) rfl ?_
                refine zwW_gc IhL4 (kd := 13) (bn := 12) (n := 97) (c := 71) (nx := 80) (by decide +kernel) ?_
                refine zwW_p [(1, 1, 0), (1, 0, 2)] (q := 82) (ls' := [(2, 37), (0, vL4)]) (st' := [(2, 37), (0, vL4), (2, 71)]) (by decide +kernel) rfl ?_
                refine zwW_gc IhL4 (kd := 13) (bn := 12) (n := 97) (c := 71) (nx := 85) (by decide +kernel) ?_
                refine zwW_p [(1, 1, 0)] (q := 86) (ls' := [(2, 37), (0, vL4)]) (st' := [(0, vL4), (2, 71), (0, vL4), (2, 71)]) (by decide +kernel) rfl ?_
                refine zwW_al IhL4 (a1 := 71) (a2 := 71) (kd := 20) (n := 8) (t := 0) (lo := -2147483648) (hi := 2147483647) (nx := 87) (by decide +kernel) (by first | decide | exact ⟨by decide, by decide⟩) ib1 ?_
                intro v22 ev22 lv22 uv22
                have sv22 : v22 = (yMls (yDuA q (yM h)) (vL4).toNat) 71 vL4.toNat := Eq.trans ev22 (Eq.trans (Eq.symm (yM_p (h := hL4) (a := 71) (n := 8) (i := vL4.toNat) rfl (zit ib1))) (Eq.trans (congrFun (congrFun iL4_2 71) vL4.toNat) rfl))
                refine zwW_p [(0, 1, 0)] (q := 88) (ls' := [(2, 37), (0, vL4)]) (st' := [(0, 1), (0, v22), (0, vL4), (2, 71)]) (by decide +kernel) rfl ?_
                refine zwic_le (q := 102) (nx := 91) (by decide +kernel) (fun c23 => ?_) (fun c23 => ?_)
                · refine zwW_p [(0, 1, 0)] (q := 103) (ls' := [(2, 37), (0, vL4)]) (st' := [(0, 1), (0, vL4), (2, 71)]) (by decide +kernel) rfl ?_
                  refine zwW_as IhL4 (a1 := 71) (a2 := 71) (n := 8) (lo := -2147483648) (hi := 2147483647) (nx := 104) (by decide +kernel) (by first | decide | exact ⟨by decide, by decide⟩) ib1 (by first | decide | exact ⟨by decide, by decide⟩) ?_
                  intro h24 eh24 Ih24
                  have jbh24 : 0 ≤ vL4.toNat ∧ vL4.toNat < 8 := ⟨Nat.zero_le _, zit ib1⟩
                  have th24_37_0 : fld h24 37 0 = fld hL4 37 0 := by rw [eh24]; exact fld_wr (Or.inl (by decide))
                  have th24_37_1 : fld h24 37 1 = fld hL4 37 1 := by rw [eh24]; exact fld_wr (Or.inl (by decide))
                  have th24_37_2 : fld h24 37 2 = fld hL4 37 2 := by rw [eh24]; exact fld_wr (Or.inl (by decide))
                  have Vh24 : mRq q h24 := iL4_0.fr (zMR.one (a1 := 71) (a2 := 71) (j1 := 0) (j2 := 8) (by first | decide | exact ⟨by decide, by decide⟩) jbh24 eh24) (by decide +kernel)
                  have Zh24 : yM h24 = (zs (yMls (yDuA q (yM h)) (vL4).toNat) 71 vL4.toNat 1) := by rw [yM_w (a := 71) (n := 8) (i := vL4.toNat) (kd := 20) rfl (IhL4.s (a1 := 71) (a2 := 71) (by decide +kernel) (by decide) (by decide)) jbh24.2 eh24, iL4_2]
                  have Rh24 : zMR ms196 h h24 := RhL4.w (a1 := 71) (a2 := 71) (j1 := 0) (j2 := 8) (by decide +kernel) (by first | decide | exact ⟨by decide, by decide⟩) jbh24 eh24
                  refine zwW_p [(24, 137, 0), (1, 0, 2)] (q := 138) (ls' := [(2, 37), (0, vL4)]) (st' := [(2, 37)]) (by decide +kernel) rfl ?_
                  refine zwW_gc Ih24 (kd := 13) (bn := 19) (n := 97) (c := 78) (nx := 141) (by decide +kernel) ?_
                  refine zwW_p [(1, 1, 0), (1, 0, 2)] (q := 143) (ls' := [(2, 37), (0, vL4)]) (st' := [(2, 37), (0, vL4), (2, 78)]) (by decide +kernel) rfl ?_
                  refine zwW_gc Ih24 (kd := 13) (bn := 18) (n := 97) (c := 77) (nx := 146) (by decide +kernel) ?_
                  refine zwW_p [(1, 1, 0)] (q := 147) (ls' := [(2, 37), (0, vL4)]) (st' := [(0, vL4), (2, 77), (0, vL4), (2, 78)]) (by decide +kernel) rfl ?_
                  refine zwW_al Ih24 (a1 := 77) (a2 := 77) (kd := 20) (n := 8) (t := 0) (lo := -2147483648) (hi := 2147483647) (nx := 148) (by decide +kernel) (by first | decide | exact ⟨by decide, by decide⟩) ib1 ?_
                  intro v25 ev25 lv25 uv25
                  have sv25 : v25 = (yMls (yDuA q (yM h)) (vL4).toNat) 77 vL4.toNat := Eq.trans ev25 (Eq.trans (Eq.symm (yM_p (h := h24) (a := 77) (n := 8) (i := vL4.toNat) rfl (zit ib1))) (Eq.trans (congrFun (congrFun Zh24 77) vL4.toNat) (Eq.trans (zs_na (by decide) : (zs (yMls (yDuA q (yM h)) (vL4).toNat) 71 vL4.toNat 1) 77 vL4.toNat = (yMls (yDuA q (yM h)) (vL4).toNat) 77 vL4.toNat) rfl)))
                  refine zwW_as Ih24 (a1 := 78) (a2 := 78) (n := 8) (lo := -2147483648) (hi := 2147483647) (nx := 149) (by decide +kernel) (by first | decide | exact ⟨by decide, by decide⟩) ib1 (by first | omega | exact ⟨by omega, by omega⟩) ?_
                  intro h26 eh26 Ih26
                  have jbh26 : 0 ≤ vL4.toNat ∧ vL4.toNat < 8 := ⟨Nat.zero_le _, zit ib1⟩
                  have th26_37_0 : fld h26 37 0 = fld h24 37 0 := by rw [eh26]; exact fld_wr (Or.inl (by decide))
                  have th26_37_1 : fld h26 37 1 = fld h24 37 1 := by rw [eh26]; exact fld_wr (Or.inl (by decide))
                  have th26_37_2 : fld h26 37 2 = fld h24 37 2 := by rw [eh26]; exact fld_wr (Or.inl (by decide))
                  have Vh26 : mRq q h26 := Vh24.fr (zMR.one (a1 := 78) (a2 := 78) (j1 := 0) (j2 := 8) (by first | decide | exact ⟨by decide, by decide⟩) jbh26 eh26) (by decide +kernel)
                  have Zh26 : yM h26 = (zs (zs (yMls (yDuA q (yM h)) (vL4).toNat) 71 vL4.toNat 1) 78 vL4.toNat ((yMls (yDuA q (yM h)) (vL4).toNat) 77 vL4.toNat)) := by rw [yM_w (a := 78) (n := 8) (i := vL4.toNat) (kd := 20) rfl (Ih24.s (a1 := 78) (a2 := 78) (by decide +kernel) (by decide) (by decide)) jbh26.2 eh26, Zh24, sv25]
                  have Rh26 : zMR ms196 h h26 := Rh24.w (a1 := 78) (a2 := 78) (j1 := 0) (j2 := 8) (by decide +kernel) (by first | decide | exact ⟨by decide, by decide⟩) jbh26 eh26
                  refine zwW_p [(1, 0, 2)] (q := 150) (ls' := [(2, 37), (0, vL4)]) (st' := [(2, 37)]) (by decide +kernel) rfl ?_
                  refine zwW_gc Ih26 (kd := 13) (bn := 18) (n := 97) (c := 77) (nx := 153) (by decide +kernel) ?_
                  refine zwW_p [(1, 1, 0), (0, 0, 0)] (q := 155) (ls' := [(2, 37), (0, vL4)]) (st' := [(0, 0), (0, vL4), (2, 77)]) (by decide +kernel) rfl ?_
                  refine zwW_as Ih26 (a1 := 77) (a2 := 77) (n := 8) (lo := -2147483648) (hi := 2147483647) (nx := 156) (by decide +kernel) (by first | decide | exact ⟨by decide, by decide⟩) ib1 (by first | decide | exact ⟨by decide, by decide⟩) ?_
                  intro h27 eh27 Ih27
                  have jbh27 : 0 ≤ vL4.toNat ∧ vL4.toNat < 8 := ⟨Nat.zero_le _, zit ib1⟩
                  have th27_37_0 : fld h27 37 0 = fld h26 37 0 := by rw [eh27]; exact fld_wr (Or.inl (by decide))
                  have th27_37_1 : fld h27 37 1 = fld h26 37 1 := by rw [eh27]; exact fld_wr (Or.inl (by decide))
                  have th27_37_2 : fld h27 37 2 = fld h26 37 2 := by rw [eh27]; exact fld_wr (Or.inl (by decide))
                  have Vh27 : mRq q h27 := Vh26.fr (zMR.one (a1 := 77) (a2 := 77) (j1 := 0) (j2 := 8) (by first | decide | exact ⟨by decide, by decide⟩) jbh27 eh27) (by decide +kernel)
                  have Uh27 : yM h27 = (zs (zs (zs (yMls (yDuA q (yM h)) (vL4).toNat) 71 vL4.toNat 1) 78 vL4.toNat ((yMls (yDuA q (yM h)) (vL4).toNat) 77 vL4.toNat)) 77 vL4.toNat 0) := by rw [yM_w (a := 77) (n := 8) (i := vL4.toNat) (kd := 20) rfl (Ih26.s (a1 := 77) (a2 := 77) (by decide +kernel) (by decide) (by decide)) jbh27.2 eh27, Zh26]
                  have Zh27 : yM h27 = (zs (zs (zs (yMls (yDuA q (yM h)) (vL4).toNat) 71 vL4.toNat 1) 77 vL4.toNat 0) 78 vL4.toNat ((yMls (yDuA q (yM h)) (vL4).toNat) 77 vL4.toNat)) := by rw [Uh27, zs_sw (a := 78) (b := 77) (by decide)]
                  have Rh27 : zMR ms196 h h27 := Rh26.w (a1 := 77) (a2 := 77) (j1 := 0) (j2 := 8) (by decide +kernel) (by first | decide | exact ⟨by decide, by decide⟩) jbh27 eh27
                  refine zwW_inc (i := 1) (c := 1) (x := vL4) (nx := 159) (by decide +kernel) rfl (by first | omega | exact ⟨by omega, by omega⟩) (ls' := [(2, 37), (0, (vL4 + 1))]) rfl ?_
                  refine zwW_p [(24, 53, 0)] (q := 53) (ls' := [(2, 37), (0, (vL4 + 1))]) (st' := []) (by decide +kernel) rfl ?_
                  exact IHL4 ((100 - (vL4 + 1))).toNat (by omega) (vL4 + 1) h27 rfl (Vh27) (by omega) (by rw [show (vL4 + 1).toNat = (vL4).toNat + 1 by omega]; show _ = yMl1 _ _; unfold yMl1; refine Zh27.trans ?_; (repeat' (first | rw [if_pos (by omega)] | rw [if_neg (by omega)])); all_goals (repeat' (first | rfl | apply zs_cg | omega | (unfold w32; omega)))) Ih27 Rh27
                · refine zwW_p [(1, 0, 2)] (q := 92) (ls' := [(2, 37), (0, vL4)]) (st' := [(2, 37), (0, vL4), (2, 71)]) (by decide +kernel) rfl ?_
                  refine zwW_gc IhL4 (kd := 13) (bn := 12) (n := 97) (c := 71) (nx := 95) (by decide +kernel) ?_
                  refine zwW_p [(1, 1, 0)] (q := 96) (ls' := [(2, 37), (0, vL4)]) (st' := [(0, vL4), (2, 71), (0, vL4), (2, 71)]) (by decide +kernel) rfl ?_
                  refine zwW_al IhL4 (a1 := 71) (a2 := 71) (kd := 20) (n := 8) (t := 0) (lo := -2147483648) (hi := 2147483647) (nx := 97) (by decide +kernel) (by first | decide | exact ⟨by decide, by decide⟩) ib1 ?_
                  intro v28 ev28 lv28 uv28
                  have sv28 : v28 = (yMls (yDuA q (yM h)) (vL4).toNat) 71 vL4.toNat := Eq.trans ev28 (Eq.trans (Eq.symm (yM_p (h := hL4) (a := 71) (n := 8) (i := vL4.toNat) rfl (zit ib1))) (Eq.trans (congrFun (congrFun iL4_2 71) vL4.toNat) rfl))
                  refine zwW_p [(0, 1, 0)] (q := 98) (ls' := [(2, 37), (0, vL4)]) (st' := [(0, 1), (0, v28), (0, vL4), (2, 71)]) (by decide +kernel) rfl ?_
                  refine zwW_sbw (nx := 99) (by decide +kernel) ?_
                  intro v29 ev29 lv29 uv29
                  have Ev29 : v29 = w32 (((yMls (yDuA q (yM h)) (vL4).toNat) 71 vL4.toNat) - 1) := by rw [ev29, sv28]
                  refine zwW_p [(24, 103, 0)] (q := 103) (ls' := [(2, 37), (0, vL4)]) (st' := [(0, v29), (0, vL4), (2, 71)]) (by decide +kernel) rfl ?_
                  refine zwW_as IhL4 (a1 := 71) (a2 := 71) (n := 8) (lo := -2147483648) (hi := 2147483647) (nx := 104) (by decide +kernel) (by first | decide | exact ⟨by decide, by decide⟩) ib1 (by first | omega | exact ⟨by omega, by omega⟩) ?_
                  intro h30 eh30 Ih30
                  have jbh30 : 0 ≤ vL4.toNat ∧ vL4.toNat < 8 := ⟨Nat.zero_le _, zit ib1⟩
                  have th30_37_0 : fld h30 37 0 = fld hL4 37 0 := by rw [eh30]; exact fld_wr (Or.inl (by decide))
                  have th30_37_1 : fld h30 37 1 = fld hL4 37 1 := by rw [eh30]; exact fld_wr (Or.inl (by decide))
                  have th30_37_2 : fld h30 37 2 = fld hL4 37 2 := by rw [eh30]; exact fld_wr (Or.inl (by decide))
                  have Vh30 : mRq q h30 := iL4_0.fr (zMR.one (a1 := 71) (a2 := 71) (j1 := 0) (j2 := 8) (by first | decide | exact ⟨by decide, by decide⟩) jbh30 eh30) (by decide +kernel)
                  have Zh30 : yM h30 = (zs (yMls (yDuA q (yM h)) (vL4).toNat) 71 vL4.toNat (w32 (((yMls (yDuA q (yM h)) (vL4).toNat) 71 vL4.toNat) - 1))) := by rw [yM_w (a := 71) (n := 8) (i := vL4.toNat) (kd := 20) rfl (IhL4.s (a1 := 71) (a2 := 71) (by decide +kernel) (by decide) (by decide)) jbh30.2 eh30, iL4_2, Ev29]
                  have Rh30 : zMR ms196 h h30 := RhL4.w (a1 := 71) (a2 := 71) (j1 := 0) (j2 := 8) (by decide +kernel) (by first | decide | exact ⟨by decide, by decide⟩) jbh30 eh30
                  refine zwW_p [(24, 137, 0), (1, 0, 2)] (q := 138) (ls' := [(2, 37), (0, vL4)]) (st' := [(2, 37)]) (by decide +kernel) rfl ?_
                  refine zwW_gc Ih30 (kd := 13) (bn := 19) (n := 97) (c := 78) (nx := 141) (by decide +kernel) ?_
                  refine zwW_p [(1, 1, 0), (1, 0, 2)] (q := 143) (ls' := [(2, 37), (0, vL4)]) (st' := [(2, 37), (0, vL4), (2, 78)]) (by decide +kernel) rfl ?_
                  refine zwW_gc Ih30 (kd := 13) (bn := 18) (n := 97) (c := 77) (nx := 146) (by decide +kernel) ?_
                  refine zwW_p [(1, 1, 0)] (q := 147) (ls' := [(2, 37), (0, vL4)]) (st' := [(0, vL4), (2, 77), (0, vL4), (2, 78)]) (by decide +kernel) rfl ?_
                  refine zwW_al Ih30 (a1 := 77) (a2 := 77) (kd := 20) (n := 8) (t := 0) (lo := -2147483648) (hi := 2147483647) (nx := 148) (by decide +kernel) (by first | decide | exact ⟨by decide, by decide⟩) ib1 ?_
                  intro v31 ev31 lv31 uv31
                  have sv31 : v31 = (yMls (yDuA q (yM h)) (vL4).toNat) 77 vL4.toNat := Eq.trans ev31 (Eq.trans (Eq.symm (yM_p (h := h30) (a := 77) (n := 8) (i := vL4.toNat) rfl (zit ib1))) (Eq.trans (congrFun (congrFun Zh30 77) vL4.toNat) (Eq.trans (zs_na (by decide) : (zs (yMls (yDuA q (yM h)) (vL4).toNat) 71 vL4.toNat (w32 (((yMls (yDuA q (yM h)) (vL4).toNat) 71 vL4.toNat) - 1))) 77 vL4.toNat = (yMls (yDuA q (yM h)) (vL4).toNat) 77 vL4.toNat) rfl)))
                  refine zwW_as Ih30 (a1 := 78) (a2 := 78) (n := 8) (lo := -2147483648) (hi := 2147483647) (nx := 149) (by decide +kernel) (by first | decide | exact ⟨by decide, by decide⟩) ib1 (by first | omega | exact ⟨by omega, by omega⟩) ?_
                  intro h32 eh32 Ih32
                  have jbh32 : 0 ≤ vL4.toNat ∧ vL4.toNat < 8 := ⟨Nat.zero_le _, zit ib1⟩
                  have th32_37_0 : fld h32 37 0 = fld h30 37 0 := by rw [eh32]; exact fld_wr (Or.inl (by decide))
                  have th32_37_1 : fld h32 37 1 = fld h30 37 1 := by rw [eh32]; exact fld_wr (Or.inl (by decide))
                  have th32_37_2 : fld h32 37 2 = fld h30 37 2 := by rw [eh32]; exact fld_wr (Or.inl (by decide))
                  have Vh32 : mRq q h32 := Vh30.fr (zMR.one (a1 := 78) (a2 := 78) (j1 := 0) (j2 := 8) (by first | decide | exact ⟨by decide, by decide⟩) jbh32 eh32) (by decide +kernel)
                  have Zh32 : yM h32 = (zs (zs (yMls (yDuA q (yM h)) (vL4).toNat) 71 vL4.toNat (w32 (((yMls (yDuA q (yM h)) (vL4).toNat) 71 vL4.toNat) - 1))) 78 vL4.toNat ((yMls (yDuA q (yM h)) (vL4).toNat) 77 vL4.toNat)) := by rw [yM_w (a := 78) (n := 8) (i := vL4.toNat) (kd := 20) rfl (Ih30.s (a1 := 78) (a2 := 78) (by decide +kernel) (by decide) (by decide)) jbh32.2 eh32, Zh30, sv31]
                  have Rh32 : zMR ms196 h h32 := Rh30.w (a1 := 78) (a2 := 78) (j1 := 0) (j2 := 8) (by decide +kernel) (by first | decide | exact ⟨by decide, by decide⟩) jbh32 eh32
                  refine zwW_p [(1, 0, 2)] (q := 150) (ls' := [(2, 37), (0, vL4)]) (st' := [(2, 37)]) (by decide +kernel) rfl ?_
                  refine zwW_gc Ih32 (kd := 13) (bn := 18) (n := 97) (c := 77) (nx := 153) (by decide +kernel) ?_
                  refine zwW_p [(1, 1, 0), (0, 0, 0)] (q := 155) (ls' := [(2, 37), (0, vL4)]) (st' := [(0, 0), (0, vL4), (2, 77)]) (by decide +kernel) rfl ?_
                  refine zwW_as Ih32 (a1 := 77) (a2 := 77) (n := 8) (lo := -2147483648) (hi := 2147483647) (nx := 156) (by decide +kernel) (by first | decide | exact ⟨by decide, by decide⟩) ib1 (by first | decide | exact ⟨by decide, by decide⟩) ?_
                  intro h33 eh33 Ih33
                  have jbh33 : 0 ≤ vL4.toNat ∧ vL4.toNat < 8 := ⟨Nat.zero_le _, zit ib1⟩
                  have th33_37_0 : fld h33 37 0 = fld h32 37 0 := by rw [eh33]; exact fld_wr (Or.inl (by decide))
                  have th33_37_1 : fld h33 37 1 = fld h32 37 1 := by rw [eh33]; exact fld_wr (Or.inl (by decide))
                  have th33_37_2 : fld h33 37 2 = fld h32 37 2 := by rw [eh33]; exact fld_wr (Or.inl (by decide))
                  have Vh33 : mRq q h33 := Vh32.fr (zMR.one (a1 := 77) (a2 := 77) (j1 := 0) (j2 := 8) (by first | decide | exact ⟨by decide, by decide⟩) jbh33 eh33) (by decide +kernel)
                  have Uh33 : yM h33 = (zs (zs (zs (yMls (yDuA q (yM h)) (vL4).toNat) 71 vL4.toNat (w32 (((yMls (yDuA q (yM h)) (vL4).toNat) 71 vL4.toNat) - 1))) 78 vL4.toNat ((yMls (yDuA q (yM h)) (vL4).toNat) 77 vL4.toNat)) 77 vL4.toNat 0) := by rw [yM_w (a := 77) (n := 8) (i := vL4.toNat) (kd := 20) rfl (Ih32.s (a1 := 77) (a2 := 77) (by decide +kernel) (by decide) (by decide)) jbh33.2 eh33, Zh32]
                  have Zh33 : yM h33 = (zs (zs (zs (yMls (yDuA q (yM h)) (vL4).toNat) 71 vL4.toNat (w32 (((yMls (yDuA q (yM h)) (vL4).toNat) 71 vL4.toNat) - 1))) 77 vL4.toNat 0) 78 vL4.toNat ((yMls (yDuA q (yM h)) (vL4).toNat) 77 vL4.toNat)) := by rw [Uh33, zs_sw (a := 78) (b := 77) (by decide)]
                  have Rh33 : zMR ms196 h h33 := Rh32.w (a1 := 77) (a2 := 77) (j1 := 0) (j2 := 8) (by decide +kernel) (by first | decide | exact ⟨by decide, by decide⟩) jbh33 eh33
                  refine zwW_inc (i := 1) (c := 1) (x := vL4) (nx := 159) (by decide +kernel) rfl (by first | omega | exact ⟨by omega, by omega⟩) (ls' := [(2, 37), (0, (vL4 + 1))]) rfl ?_
                  refine zwW_p [(24, 53, 0)] (q := 53) (ls' := [(2, 37), (0, (vL4 + 1))]) (st' := []) (by decide +kernel) rfl ?_
                  exact IHL4 ((100 - (vL4 + 1))).toNat (by omega) (vL4 + 1) h33 rfl (Vh33) (by omega) (by rw [show (vL4 + 1).toNat = (vL4).toNat + 1 by omega]; show _ = yMl1 _ _; unfold yMl1; refine Zh33.trans ?_; (repeat' (first | rw [if_pos (by omega)] | rw [if_neg (by omega)])); all_goals (repeat' (first | rfl | apply zs_cg | omega | (unfold w32; omega)))) Ih33 Rh33
        exact L4 _ 0 hL1 rfl (iL1_0) (by omega) (iL1_2.trans (by unfold yDuA; rw [show (yM h 37 2).toNat = (kL1).toNat by show (fld h 37 2).toNat = _; omega]; rfl)) IhL1 RhL1
      · refine zwW_p [(1, 0, 2)] (q := 11) (ls' := [(2, 37), (0, kL1)]) (st' := [(2, 37)]) (by decide +kernel) rfl ?_
        refine zwW_gc IhL1 (kd := 13) (bn := 21) (n := 97) (c := 80) (nx := 14) (by decide +kernel) ?_
        refine zwW_p [(1, 1, 0)] (q := 15) (ls' := [(2, 37), (0, kL1)]) (st' := [(0, kL1), (2, 80)]) (by decide +kernel) rfl ?_
        have ib2 : 0 ≤ kL1 ∧ kL1 < ((20 : Nat) : Int) := (by first | omega | exact ⟨by omega, by omega⟩)
        refine zwW_al IhL1 (a1 := 80) (a2 := 80) (kd := 20) (n := 20) (t := 0) (lo := 0) (hi := 5) (nx := 16) (by decide +kernel) (by first | decide | exact ⟨by decide, by decide⟩) ib2 ?_
        intro v34 ev34 lv34 uv34
        have sv34 : v34 = (yDus q (yM h) (kL1).toNat) 80 kL1.toNat := Eq.trans ev34 (Eq.trans (Eq.symm (yM_p (h := hL1) (a := 80) (n := 20) (i := kL1.toNat) rfl (zit ib2))) (Eq.trans (congrFun (congrFun iL1_2 80) kL1.toNat) rfl))
        refine zwif_ne (q := 22) (nx := 19) (by decide +kernel) (fun c35 => ?_) (fun c35 => ?_)
        · have OKT : yOK (yDus q (yM h) (kL1).toNat) := ok.dus _
          have Z22 := iL1_2
          have N22 : (yDus q (yM h) (kL1).toNat) 37 0 = fld h 37 0 := yDus_n (by decide) _
          have M22 : (yDus q (yM h) (kL1).toNat) 37 2 = fld h 37 2 := yDus_n (by decide) _
          refine zwW_p [(1, 0, 2), (1, 1, 0)] (q := 24) (ls' := [(2, 37), (0, kL1)]) (st' := [(0, kL1), (2, 37)]) (by decide +kernel) rfl ?_
          refine zwW_cmv IhL1 (op := 60) (k' := 225) (n := 1) (kd := 13) (m := 97) (nx := 27) (r := 37) (tl := [(0, kL1)]) (st' := []) (by decide +kernel) rfl (by decide +kernel) rfl (m225_z hL1 IhL1 kL1 (by omega) (by omega)) ?_
          rintro h37 ⟨Ih37, Qh37, f36⟩
          have Rh37 : zMR ms196 h h37 := RhL1.tr Qh37 (by decide +kernel)
          have Vh37 : mRq q h37 := iL1_0.fr Qh37 (by decide +kernel)
          have th37_37_0 : fld h37 37 0 = fld hL1 37 0 := Qh37.f (a1 := 37) (a2 := 37) (j1 := 0) (j2 := 1) (by decide +kernel) (by first | decide | exact ⟨by decide, by decide⟩) (by first | decide | exact ⟨by decide, by decide⟩)
          have th37_37_1 : fld h37 37 1 = fld hL1 37 1 := Qh37.f (a1 := 37) (a2 := 37) (j1 := 1) (j2 := 2) (by decide +kernel) (by first | decide | exact ⟨by decide, by decide⟩) (by first | decide | exact ⟨by decide, by decide⟩)
          have th37_37_2 : fld h37 37 2 = fld hL1 37 2 := Qh37.f (a1 := 37) (a2 := 37) (j1 := 2) (j2 := 3) (by decide +kernel) (by first | decide | exact ⟨by decide, by decide⟩) (by first | decide | exact ⟨by decide, by decide⟩)
          have Zh37 : yM h37 = (yDus q (yM h) (kL1).toNat) := (yM_fr Qh37 (by decide +kernel) (IhL1.b (a1 := 37) (a2 := 37) (j1 := 86) (j2 := 87) (lo := 0) (hi := 6) (by decide +kernel) (r := 37) (j := 86) (by decide) (by decide) (by decide) (by decide)).2).trans iL1_2
          have G24 : n13 168 h37 (yNmH (yDus q (yM h) (kL1).toNat) (kL1).toNat (yNm0 ((yDus q (yM h) (kL1).toNat) 37 0))) := by
            have z := f36
            rw [Z22] at z
            exact z
          refine zwW_p [(1, 0, 2)] (q := 28) (ls' := [(2, 37), (0, kL1)]) (st' := [(2, 37)]) (by decide +kernel) rfl ?_
          refine zwW_gc Ih37 (kd := 13) (bn := 34) (n := 97) (c := 93) (nx := 31) (by decide +kernel) ?_
          refine zwW_p [(1, 1, 0), (14, 0, 0)] (q := 33) (ls' := [(2, 37), (0, kL1)]) (st' := [(0, kL1), (2, 93), (0, kL1), (2, 93)]) (by decide +kernel) rfl ?_
          refine zwW_al Ih37 (a1 := 93) (a2 := 93) (kd := 23) (n := 20) (t := 1) (lo := -9223372036854775808) (hi := 9223372036854775807) (nx := 34) (by decide +kernel) (by first | decide | exact ⟨by decide, by decide⟩) ib2 ?_
          intro v38 ev38 lv38 uv38
          have S34 : (yDus q (yM h) (kL1).toNat) 93 (kL1).toNat = w32 v38 := by rw [← Zh37, yM_93 (by omega), ev38]
          refine zwW_p [(1, 0, 2), (0, 0, 0)] (q := 36) (ls' := [(2, 37), (0, kL1)]) (st' := [(0, 0), (2, 37), (1, v38), (0, kL1), (2, 93)]) (by decide +kernel) rfl ?_
          refine zwW_cm Ih37 (op := 60) (k' := 137) (n := 1) (kd := 13) (m := 97) (nx := 39) (r := 37) (tl := [(0, 0)]) (st' := [(1, v38), (0, kL1), (2, 93)]) (by decide +kernel) rfl (by decide +kernel) rfl (m137_e h37 Ih37 0 (by decide) (by decide) Vh37.2.1 Vh37.1 (G24.ns (eNs_nmh OKT (eNs_nm0 OKT) (by omega)))) ?_
          rintro v39 h42 ⟨Ih42, Qh42, f40, f41⟩
          have Rh42 : zMR ms196 h h42 := Rh37.tr Qh42 (by decide +kernel)
          have Vh42 : mRq q h42 := Vh37.fr Qh42 (by decide +kernel)
          have th42_37_0 : fld h42 37 0 = fld h37 37 0 := Qh42.f (a1 := 37) (a2 := 37) (j1 := 0) (j2 := 1) (by decide +kernel) (by first | decide | exact ⟨by decide, by decide⟩) (by first | decide | exact ⟨by decide, by decide⟩)
          have th42_37_1 : fld h42 37 1 = fld h37 37 1 := Qh42.f (a1 := 37) (a2 := 37) (j1 := 1) (j2 := 2) (by decide +kernel) (by first | decide | exact ⟨by decide, by decide⟩) (by first | decide | exact ⟨by decide, by decide⟩)
          have th42_37_2 : fld h42 37 2 = fld h37 37 2 := Qh42.f (a1 := 37) (a2 := 37) (j1 := 2) (j2 := 3) (by decide +kernel) (by first | decide | exact ⟨by decide, by decide⟩) (by first | decide | exact ⟨by decide, by decide⟩)
          have Zh42 : yM h42 = (yDus q (yM h) (kL1).toNat) := (yM_fr Qh42 (by decide +kernel) (Ih37.b (a1 := 37) (a2 := 37) (j1 := 86) (j2 := 87) (lo := 0) (hi := 6) (by decide +kernel) (r := 37) (j := 86) (by decide) (by decide) (by decide) (by decide)).2).trans Zh37
          have A36 : v39 = q 0 ((yDus q (yM h) (kL1).toNat) 37 0) (yNmH (yDus q (yM h) (kL1).toNat) (kL1).toNat (yNm0 ((yDus q (yM h) (kL1).toNat) 37 0))) := by
            have z := f41
            rw [z, G24.tl, Vh37.2.2.2 _ _ _ (by decide) (by decide), show fld h37 37 0 = (yDus q (yM h) (kL1).toNat) 37 0 by omega]
          refine zwW_cs (k' := 129) (n := 1) (nx := 42) (as := [(0, v39)]) (st' := [(1, v38), (0, kL1), (2, 93)]) (by decide +kernel) rfl (m129 h42 v39 (by omega)) rfl ?_
          rintro v43 _ ⟨rfl, f44, f45, f46⟩
          refine zwW_p [(7, 0, 0)] (q := 43) (ls' := [(2, 37), (0, kL1)]) (st' := [(1, v43), (1, v38), (0, kL1), (2, 93)]) (by decide +kernel) rfl ?_
          refine zwW_law (nx := 44) (by decide +kernel) ?_
          intro v47 ev47 lv47 uv47
          have X44 : w32 v47 = w32 ((yDus q (yM h) (kL1).toNat) 93 (kL1).toNat + max v39 0) := by
            rw [S34, ev47]
            unfold w32 w64
            omega
          refine zwW_asl Ih42 (a1 := 93) (a2 := 93) (n := 20) (lo := -9223372036854775808) (hi := 9223372036854775807) (nx := 45) (by decide +kernel) (by first | decide | exact ⟨by decide, by decide⟩) ib2 (by first | omega | exact ⟨by omega, by omega⟩) ?_
          intro h48 eh48 Ih48
          have jbh48 : 0 ≤ kL1.toNat ∧ kL1.toNat < 20 := ⟨Nat.zero_le _, zit ib2⟩
          have th48_37_0 : fld h48 37 0 = fld h42 37 0 := by rw [eh48]; exact fld_wr (Or.inl (by decide))
          have th48_37_1 : fld h48 37 1 = fld h42 37 1 := by rw [eh48]; exact fld_wr (Or.inl (by decide))
          have th48_37_2 : fld h48 37 2 = fld h42 37 2 := by rw [eh48]; exact fld_wr (Or.inl (by decide))
          have Vh48 : mRq q h48 := Vh42.fr (zMR.one (a1 := 93) (a2 := 93) (j1 := 0) (j2 := 20) (by first | decide | exact ⟨by decide, by decide⟩) jbh48 eh48) (by decide +kernel)
          have Zh48 : yM h48 = (zs (yDus q (yM h) (kL1).toNat) 93 kL1.toNat (w32 v47)) := by rw [yM_w93 (i := kL1.toNat) (kd := 23) (Ih42.s (a1 := 93) (a2 := 93) (by decide +kernel) (by decide) (by decide)) (by omega) eh48, Zh42]
          have Rh48 : zMR ms196 h h48 := Rh42.w (a1 := 93) (a2 := 93) (j1 := 0) (j2 := 20) (by decide +kernel) (by first | decide | exact ⟨by decide, by decide⟩) jbh48 eh48
          refine zwW_inc (i := 1) (c := 1) (x := kL1) (nx := 48) (by decide +kernel) rfl (by first | omega | exact ⟨by omega, by omega⟩) (ls' := [(2, 37), (0, (kL1 + 1))]) rfl ?_
          refine zwW_p [(24, 2, 0)] (q := 2) (ls' := [(2, 37), (0, (kL1 + 1))]) (st' := []) (by decide +kernel) rfl ?_
          exact IHL1 ((100 - (kL1 + 1))).toNat (by omega) (kL1 + 1) h48 rfl (Vh48) (by omega) (by rw [show (kL1 + 1).toNat = (kL1).toNat + 1 by omega]; show _ = yDu1 q _ _; unfold yDu1; first | (rw [if_neg (by omega)]; exact Zh48) | (rw [if_pos (by omega)]; unfold yOwe; rw [← A36]; exact Zh48.trans (zs_cg rfl rfl X44))) Ih48 Rh48
        · refine zwW_p [(24, 45, 0)] (q := 45) (ls' := [(2, 37), (0, kL1)]) (st' := []) (by decide +kernel) rfl ?_
          refine zwW_inc (i := 1) (c := 1) (x := kL1) (nx := 48) (by decide +kernel) rfl (by first | omega | exact ⟨by omega, by omega⟩) (ls' := [(2, 37), (0, (kL1 + 1))]) rfl ?_
          refine zwW_p [(24, 2, 0)] (q := 2) (ls' := [(2, 37), (0, (kL1 + 1))]) (st' := []) (by decide +kernel) rfl ?_
          exact IHL1 ((100 - (kL1 + 1))).toNat (by omega) (kL1 + 1) hL1 rfl (iL1_0) (by omega) (by rw [show (kL1 + 1).toNat = (kL1).toNat + 1 by omega]; show _ = yDu1 q _ _; unfold yDu1; first | (rw [if_neg (by omega)]; exact iL1_2) | (rw [if_pos (by omega)]; unfold yOwe; rw [← A36]; exact iL1_2.trans (zs_cg rfl rfl X44))) IhL1 RhL1
  exact L1 _ 0 h rfl (V) (by omega) (rfl) I R
-- WheelLandModel.goRound()V
theorem m197_z {sc : List Int} (h : Hp) (I : zI h) : zwC sc 2 197 [(2, 37)] h (zwRv (fun g => zI g ∧ zMR ms197 h g ∧ (yM g = yWrA (yM h)))) := by
  refine zwC_of (D := 1) 3 (by decide +kernel) rfl (ls := [(2, 37), (9, 0), (9, 0)]) rfl ?_
  have R : zMR ms197 h h := zMR.rf _ _
  have u1 : yM h 37 1 = fld h 37 1 := rfl
  have N1 := I.b (a1 := 37) (a2 := 37) (j1 := 1) (j2 := 2) (lo := 0) (hi := 8) (by decide +kernel) (r := 37) (j := 1) (by decide) (by decide) (by decide) (by decide)
  refine zwW_p [(0, 0, 0), (2, 1, 0)] (q := 2) (ls' := [(2, 37), (0, 0), (9, 0)]) (st' := []) (by decide +kernel) rfl ?_
  have L1 : ∀ (n0 : Nat) (vL1 : Int) (w2L1 : Vl) (hL1 : Hp), n0 = ((100 - vL1)).toNat → ((0 ≤ vL1 ∧ vL1 ≤ fld h 37 1) ∧ fld hL1 37 1 = fld h 37 1) → (∀ j : Nat, (j : Int) < vL1 → fld hL1 362 j = yWm (yM h) j (fld h 37 1).toNat) → (yM hL1 = (yM h)) → zI hL1 → zMR ms197 h hL1 → zwW sc (1) 197 2 [(2, 37), (0, vL1), w2L1] [] hL1 (zwRv (fun g => zI g ∧ zMR ms197 h g ∧ (yM g = yWrA (yM h)))) := by
    intro n0
    induction n0 using Nat.strongRecOn with
    | ind n0 IHL1 =>
      intro vL1 w2L1 hL1 hnL1 iL1_0 iL1_1 iL1_2 IhL1 RhL1
      refine zwW_p [(1, 1, 0), (1, 0, 2)] (q := 4) (ls' := [(2, 37), (0, vL1), w2L1]) (st' := [(2, 37), (0, vL1)]) (by decide +kernel) rfl ?_
      refine zwW_gs IhL1 (kd := 13) (bn := 1) (n := 97) (t := 0) (lo := 0) (hi := 8) (nx := 7) (by decide +kernel) ?_
      intro v2 ev2 lv2 uv2
      have sv2 : v2 = (yM h) 37 1 := Eq.trans ev2 (Eq.trans (Eq.symm (yM_s (h := hL1) (i := 1) rfl)) (Eq.trans (congrFun (congrFun iL1_2 37) 1) rfl))
      refine zwic_ge (q := 91) (nx := 10) (by decide +kernel) (fun c3 => ?_) (fun c3 => ?_)
      · refine zwW_p [(0, 0, 0), (2, 1, 0)] (q := 93) (ls' := [(2, 37), (0, 0), w2L1]) (st' := []) (by decide +kernel) rfl ?_
        have L4 : ∀ (n0 : Nat) (vL4 : Int) (hL4 : Hp), n0 = ((100 - vL4)).toNat → ((0 ≤ vL4 ∧ vL4 ≤ fld h 37 1) ∧ fld hL4 37 1 = fld h 37 1) → (∀ j : Nat, (j : Int) < fld h 37 1 → fld hL4 362 j = yWm (yM h) j (fld h 37 1).toNat) → (yM hL4 = (yWds (yM h) (fld h 37 1).toNat (vL4).toNat)) → zI hL4 → zMR ms197 h hL4 → zwW sc (1) 197 93 [(2, 37), (0, vL4), w2L1] [] hL4 (zwRv (fun g => zI g ∧ zMR ms197 h g ∧ (yM g = yWrA (yM h)))) := by
          intro n0
          induction n0 using Nat.strongRecOn with
          | ind n0 IHL4 =>
            intro vL4 hL4 hnL4 iL4_0 iL4_1 iL4_2 IhL4 RhL4
            refine zwW_p [(1, 1, 0), (1, 0, 2)] (q := 95) (ls' := [(2, 37), (0, vL4), w2L1]) (st' := [(2, 37), (0, vL4)]) (by decide +kernel) rfl ?_
            refine zwW_gs IhL4 (kd := 13) (bn := 1) (n := 97) (t := 0) (lo := 0) (hi := 8) (nx := 98) (by decide +kernel) ?_
            intro v5 ev5 lv5 uv5
            have sv5 : v5 = (yWds (yM h) (fld h 37 1).toNat (vL4).toNat) 37 1 := Eq.trans ev5 (Eq.trans (Eq.symm (yM_s (h := hL4) (i := 1) rfl)) (Eq.trans (congrFun (congrFun iL4_2 37) 1) rfl))
            refine zwic_ge (q := 119) (nx := 101) (by decide +kernel) (fun c6 => ?_) (fun c6 => ?_)
            · refine zwW_retv (nx := 120) (a := 0) (b := 0) (by decide +kernel) ?_
              exact ⟨IhL4, RhL4, by refine Eq.trans iL4_2 ?_; unfold yWrA; rw [show (yM h 37 1).toNat = (fld h 37 1).toNat from rfl, show (vL4).toNat = (fld h 37 1).toNat by omega]⟩
            · refine zwW_p [(1, 0, 2)] (q := 102) (ls' := [(2, 37), (0, vL4), w2L1]) (st' := [(2, 37)]) (by decide +kernel) rfl ?_
              refine zwW_gc IhL4 (kd := 13) (bn := 13) (n := 97) (c := 72) (nx := 105) (by decide +kernel) ?_
              refine zwW_p [(1, 1, 0), (1, 0, 2)] (q := 107) (ls' := [(2, 37), (0, vL4), w2L1]) (st' := [(2, 37), (0, vL4), (2, 72)]) (by decide +kernel) rfl ?_
              refine zwW_gc IhL4 (kd := 13) (bn := 92) (n := 97) (c := 362) (nx := 110) (by decide +kernel) ?_
              refine zwW_p [(1, 1, 0)] (q := 111) (ls' := [(2, 37), (0, vL4), w2L1]) (st' := [(0, vL4), (2, 362), (0, vL4), (2, 72)]) (by decide +kernel) rfl ?_
              have ib1 : 0 ≤ vL4 ∧ vL4 < ((8 : Nat) : Int) := (by first | omega | exact ⟨by omega, by omega⟩)
              refine zwW_al IhL4 (a1 := 362) (a2 := 362) (kd := 20) (n := 8) (t := 0) (lo := -2147483648) (hi := 2147483647) (nx := 112) (by decide +kernel) (by first | decide | exact ⟨by decide, by decide⟩) ib1 ?_
              intro v7 ev7 lv7 uv7
              have V112 : v7 = yWm (yM h) (vL4).toNat (fld h 37 1).toNat := ev7.trans (iL4_1 _ (by omega))
              refine zwW_as IhL4 (a1 := 72) (a2 := 72) (n := 8) (lo := -2147483648) (hi := 2147483647) (nx := 113) (by decide +kernel) (by first | decide | exact ⟨by decide, by decide⟩) ib1 (by first | omega | exact ⟨by omega, by omega⟩) ?_
              intro h8 eh8 Ih8
              have jbh8 : 0 ≤ vL4.toNat ∧ vL4.toNat < 8 := ⟨Nat.zero_le _, zit ib1⟩
              have th8_37_1 : fld h8 37 1 = fld hL4 37 1 := by rw [eh8]; exact fld_wr (Or.inl (by decide))
              have W112 : fld h8 362 = fld hL4 362 := fld_o eh8 (by decide)
              have Zh8 : yM h8 = (zs (yWds (yM h) (fld h 37 1).toNat (vL4).toNat) 72 vL4.toNat v7) := by rw [yM_w (a := 72) (n := 8) (i := vL4.toNat) (kd := 20) rfl (IhL4.s (a1 := 72) (a2 := 72) (by decide +kernel) (by decide) (by decide)) jbh8.2 eh8, iL4_2]
              have Rh8 : zMR ms197 h h8 := RhL4.w (a1 := 72) (a2 := 72) (j1 := 0) (j2 := 8) (by decide +kernel) (by first | decide | exact ⟨by decide, by decide⟩) jbh8 eh8
              refine zwW_inc (i := 1) (c := 1) (x := vL4) (nx := 116) (by decide +kernel) rfl (by first | omega | exact ⟨by omega, by omega⟩) (ls' := [(2, 37), (0, (vL4 + 1)), w2L1]) rfl ?_
              refine zwW_p [(24, 93, 0)] (q := 93) (ls' := [(2, 37), (0, (vL4 + 1)), w2L1]) (st' := []) (by decide +kernel) rfl ?_
              exact IHL4 ((100 - (vL4 + 1))).toNat (by omega) (vL4 + 1) h8 rfl (by omega) (fun j hj => by rw [congrFun W112 j]; exact iL4_1 j hj) (by rw [show (vL4 + 1).toNat = (vL4).toNat + 1 by omega, yWds_s]; exact Zh8.trans (zs_cg rfl rfl V112)) Ih8 Rh8
        exact L4 _ 0 hL1 rfl (by omega) (fun j hj => iL1_1 j (by omega)) (iL1_2) IhL1 RhL1
      · refine zwW_p [(1, 0, 2)] (q := 11) (ls' := [(2, 37), (0, vL1), w2L1]) (st' := [(2, 37)]) (by decide +kernel) rfl ?_
        refine zwW_gc IhL1 (kd := 13) (bn := 92) (n := 97) (c := 362) (nx := 14) (by decide +kernel) ?_
        refine zwW_p [(1, 1, 0), (1, 0, 2)] (q := 16) (ls' := [(2, 37), (0, vL1), w2L1]) (st' := [(2, 37), (0, vL1), (2, 362)]) (by decide +kernel) rfl ?_
        refine zwW_gc IhL1 (kd := 13) (bn := 13) (n := 97) (c := 72) (nx := 19) (by decide +kernel) ?_
        refine zwW_p [(1, 1, 0)] (q := 20) (ls' := [(2, 37), (0, vL1), w2L1]) (st' := [(0, vL1), (2, 72), (0, vL1), (2, 362)]) (by decide +kernel) rfl ?_
        have ib2 : 0 ≤ vL1 ∧ vL1 < ((8 : Nat) : Int) := (by first | omega | exact ⟨by omega, by omega⟩)
        refine zwW_al IhL1 (a1 := 72) (a2 := 72) (kd := 20) (n := 8) (t := 0) (lo := -2147483648) (hi := 2147483647) (nx := 21) (by decide +kernel) (by first | decide | exact ⟨by decide, by decide⟩) ib2 ?_
        intro v9 ev9 lv9 uv9
        have sv9 : v9 = (yM h) 72 vL1.toNat := Eq.trans ev9 (Eq.trans (Eq.symm (yM_p (h := hL1) (a := 72) (n := 8) (i := vL1.toNat) rfl (zit ib2))) (Eq.trans (congrFun (congrFun iL1_2 72) vL1.toNat) rfl))
        refine zwW_p [(0, 1, 0)] (q := 22) (ls' := [(2, 37), (0, vL1), w2L1]) (st' := [(0, 1), (0, v9), (0, vL1), (2, 362)]) (by decide +kernel) rfl ?_
        refine zwW_sbw (nx := 23) (by decide +kernel) ?_
        intro v10 ev10 lv10 uv10
        have Ev10 : v10 = w32 (((yM h) 72 vL1.toNat) - 1) := by rw [ev10, sv9]
        have I23 : v10 = w32 ((yM h) 72 (vL1).toNat - 1) := by first | rw [ev10, sv9] | (rw [← sv9]; unfold w32; omega)
        refine zwW_cs (k' := 129) (n := 1) (nx := 26) (as := [(0, v10)]) (st' := [(0, vL1), (2, 362)]) (by decide +kernel) rfl (m129 hL1 v10 (by omega)) rfl ?_
        rintro v11 _ ⟨rfl, f12, f13, f14⟩
        refine zwW_as IhL1 (a1 := 362) (a2 := 362) (n := 8) (lo := -2147483648) (hi := 2147483647) (nx := 27) (by decide +kernel) (by first | decide | exact ⟨by decide, by decide⟩) ib2 (by first | omega | exact ⟨by omega, by omega⟩) ?_
        intro h15 eh15 Ih15
        have jbh15 : 0 ≤ vL1.toNat ∧ vL1.toNat < 8 := ⟨Nat.zero_le _, zit ib2⟩
        have th15_37_1 : fld h15 37 1 = fld hL1 37 1 := by rw [eh15]; exact fld_wr (Or.inl (by decide))
        have A26 : fld h15 362 (vL1).toNat = yWm (yM h) (vL1).toNat 0 := by
          rw [eh15, fld_wr_eq (IhL1.s (a1 := 362) (a2 := 362) (k := 20) (n := 8) (by decide +kernel) (by decide) (by decide)) (by omega), yWm_0, ← I23]
          omega
        have B26 : ∀ j : Nat, (j : Int) < vL1 → fld h15 362 j = yWm (yM h) j (fld h 37 1).toNat := fun j hj => by rw [eh15, fld_wr (Or.inr (by omega))]; exact iL1_1 j hj
        have Zh15 : yM h15 = (yM h) := (yM_fr (ms := [(362, 362, 0, 8)]) (zMR.one (a1 := 362) (a2 := 362) (j1 := 0) (j2 := 8) (by first | decide | exact ⟨by decide, by decide⟩) jbh15 eh15) (by decide +kernel) (IhL1.b (a1 := 37) (a2 := 37) (j1 := 86) (j2 := 87) (lo := 0) (hi := 6) (by decide +kernel) (r := 37) (j := 86) (by decide) (by decide) (by decide) (by decide)).2).trans iL1_2
        have Rh15 : zMR ms197 h h15 := RhL1.w (a1 := 362) (a2 := 362) (j1 := 0) (j2 := 8) (by decide +kernel) (by first | decide | exact ⟨by decide, by decide⟩) jbh15 eh15
        refine zwW_p [(0, 0, 0), (2, 2, 0)] (q := 29) (ls' := [(2, 37), (0, vL1), (0, 0)]) (st' := []) (by decide +kernel) rfl ?_
        have L16 : ∀ (n0 : Nat) (uL16 : Int) (hL16 : Hp), n0 = ((100 - uL16)).toNat → ((0 ≤ uL16 ∧ uL16 ≤ fld h 37 1) ∧ fld hL16 37 1 = fld h 37 1) → (∀ j : Nat, (j : Int) < vL1 → fld hL16 362 j = yWm (yM h) j (fld h 37 1).toNat) → (fld hL16 362 (vL1).toNat = yWm (yM h) (vL1).toNat (uL16).toNat) → (yM hL16 = (yM h)) → zI hL16 → zMR ms197 h hL16 → zwW sc (1) 197 29 [(2, 37), (0, vL1), (0, uL16)] [] hL16 (zwRv (fun g => zI g ∧ zMR ms197 h g ∧ (yM g = yWrA (yM h)))) := by
          intro n0
          induction n0 using Nat.strongRecOn with
          | ind n0 IHL16 =>
            intro uL16 hL16 hnL16 iL16_0 iL16_1 iL16_2 iL16_3 IhL16 RhL16
            refine zwW_p [(1, 2, 0), (1, 0, 2)] (q := 31) (ls' := [(2, 37), (0, vL1), (0, uL16)]) (st' := [(2, 37), (0, uL16)]) (by decide +kernel) rfl ?_
            refine zwW_gs IhL16 (kd := 13) (bn := 1) (n := 97) (t := 0) (lo := 0) (hi := 8) (nx := 34) (by decide +kernel) ?_
            intro v17 ev17 lv17 uv17
            have sv17 : v17 = (yM h) 37 1 := Eq.trans ev17 (Eq.trans (Eq.symm (yM_s (h := hL16) (i := 1) rfl)) (Eq.trans (congrFun (congrFun iL16_3 37) 1) rfl))
            refine zwic_ge (q := 85) (nx := 37) (by decide +kernel) (fun c18 => ?_) (fun c18 => ?_)
            · refine zwW_inc (i := 1) (c := 1) (x := vL1) (nx := 88) (by decide +kernel) rfl (by first | omega | exact ⟨by omega, by omega⟩) (ls' := [(2, 37), (0, (vL1 + 1)), (0, uL16)]) rfl ?_
              refine zwW_p [(24, 2, 0)] (q := 2) (ls' := [(2, 37), (0, (vL1 + 1)), (0, uL16)]) (st' := []) (by decide +kernel) rfl ?_
              exact IHL1 ((100 - (vL1 + 1))).toNat (by omega) (vL1 + 1) (0, uL16) hL16 rfl (by omega) (fun j hj => by by_cases z : (j : Int) < vL1; exact iL16_1 j z; (have e : j = (vL1).toNat := by omega); rw [e, iL16_2, show (uL16).toNat = (fld h 37 1).toNat by omega]) (iL16_3) IhL16 RhL16
            · refine zwW_p [(1, 0, 2)] (q := 38) (ls' := [(2, 37), (0, vL1), (0, uL16)]) (st' := [(2, 37)]) (by decide +kernel) rfl ?_
              refine zwW_gc IhL16 (kd := 13) (bn := 4) (n := 97) (c := 47) (nx := 41) (by decide +kernel) ?_
              refine zwW_p [(1, 1, 0)] (q := 42) (ls' := [(2, 37), (0, vL1), (0, uL16)]) (st' := [(0, vL1), (2, 47)]) (by decide +kernel) rfl ?_
              refine zwW_ro IhL16 (a := 47) (n := 8) (kd := 26) (base := 48) (step := 1) (nx := 43) (by decide +kernel) rfl (by first | omega | exact ⟨by omega, by omega⟩) ?_
              rw [show ((48 : Nat) : Int) + ((1 : Nat) : Int) * vL1 = (48 + vL1) by omega]
              refine zwW_p [(1, 2, 0)] (q := 44) (ls' := [(2, 37), (0, vL1), (0, uL16)]) (st' := [(0, uL16), (2, (48 + vL1))]) (by decide +kernel) rfl ?_
              have ib3 : 0 ≤ uL16 ∧ uL16 < ((8 : Nat) : Int) := (by first | omega | exact ⟨by omega, by omega⟩)
              refine zwW_al IhL16 (a1 := 48) (a2 := 55) (kd := 20) (n := 8) (t := 0) (lo := 0) (hi := 9) (nx := 45) (by decide +kernel) (by first | omega | exact ⟨by omega, by omega⟩) ib3 ?_
              intro v19 ev19 lv19 uv19
              have sv19 : v19 = (yM h) 48 (8 * vL1.toNat + uL16.toNat) := Eq.trans (show v19 = yM hL16 48 (8 * vL1.toNat + uL16.toNat) by rw [yM_2 (a := 48) (w := 8) (v := vL1.toNat) (j := uL16.toNat) rfl (by omega) (by show _ < 64; omega), ev19]; congr 1; omega) (Eq.trans (congrFun (congrFun iL16_3 48) (8 * vL1.toNat + uL16.toNat)) rfl)
              refine zwif_le (q := 79) (nx := 48) (by decide +kernel) (fun c20 => ?_) (fun c20 => ?_)
              · refine zwW_inc (i := 2) (c := 1) (x := uL16) (nx := 82) (by decide +kernel) rfl (by first | omega | exact ⟨by omega, by omega⟩) (ls' := [(2, 37), (0, vL1), (0, (uL16 + 1))]) rfl ?_
                refine zwW_p [(24, 29, 0)] (q := 29) (ls' := [(2, 37), (0, vL1), (0, (uL16 + 1))]) (st' := []) (by decide +kernel) rfl ?_
                exact IHL16 ((100 - (uL16 + 1))).toNat (by omega) (uL16 + 1) hL16 rfl (by omega) (by first | exact B78 | exact iL16_1) (by rw [show (uL16 + 1).toNat = (uL16).toNat + 1 by omega, yWm_s]; first | (rw [if_neg (by omega)]; exact iL16_2) | (rw [if_pos (by omega), ← iL16_2, ← I78, A78]; omega) | (rw [if_pos (by omega), ← iL16_2, ← I56]; omega)) (iL16_3) IhL16 RhL16
              · refine zwW_p [(1, 0, 2)] (q := 49) (ls' := [(2, 37), (0, vL1), (0, uL16)]) (st' := [(2, 37)]) (by decide +kernel) rfl ?_
                refine zwW_gc IhL16 (kd := 13) (bn := 13) (n := 97) (c := 72) (nx := 52) (by decide +kernel) ?_
                refine zwW_p [(1, 2, 0)] (q := 53) (ls' := [(2, 37), (0, vL1), (0, uL16)]) (st' := [(0, uL16), (2, 72)]) (by decide +kernel) rfl ?_
                refine zwW_al IhL16 (a1 := 72) (a2 := 72) (kd := 20) (n := 8) (t := 0) (lo := -2147483648) (hi := 2147483647) (nx := 54) (by decide +kernel) (by first | decide | exact ⟨by decide, by decide⟩) ib3 ?_
                intro v21 ev21 lv21 uv21
                have sv21 : v21 = (yM h) 72 uL16.toNat := Eq.trans ev21 (Eq.trans (Eq.symm (yM_p (h := hL16) (a := 72) (n := 8) (i := uL16.toNat) rfl (zit ib3))) (Eq.trans (congrFun (congrFun iL16_3 72) uL16.toNat) rfl))
                refine zwW_p [(0, 2, 0)] (q := 55) (ls' := [(2, 37), (0, vL1), (0, uL16)]) (st' := [(0, 2), (0, v21)]) (by decide +kernel) rfl ?_
                refine zwW_sbw (nx := 56) (by decide +kernel) ?_
                intro v22 ev22 lv22 uv22
                have Ev22 : v22 = w32 (((yM h) 72 uL16.toNat) - 2) := by rw [ev22, sv21]
                have I56 : v22 = w32 ((yM h) 72 (uL16).toNat - 2) := by first | rw [ev22, sv21] | (rw [← sv21]; unfold w32; omega)
                refine zwW_p [(1, 0, 2)] (q := 57) (ls' := [(2, 37), (0, vL1), (0, uL16)]) (st' := [(2, 37), (0, v22)]) (by decide +kernel) rfl ?_
                refine zwW_gc IhL16 (kd := 13) (bn := 92) (n := 97) (c := 362) (nx := 60) (by decide +kernel) ?_
                refine zwW_p [(1, 1, 0)] (q := 61) (ls' := [(2, 37), (0, vL1), (0, uL16)]) (st' := [(0, vL1), (2, 362), (0, v22)]) (by decide +kernel) rfl ?_
                refine zwW_al IhL16 (a1 := 362) (a2 := 362) (kd := 20) (n := 8) (t := 0) (lo := -2147483648) (hi := 2147483647) (nx := 62) (by decide +kernel) (by first | decide | exact ⟨by decide, by decide⟩) ib2 ?_
                intro v23 ev23 lv23 uv23
                refine zwic_le (q := 79) (nx := 65) (by decide +kernel) (fun c24 => ?_) (fun c24 => ?_)
                · refine zwW_inc (i := 2) (c := 1) (x := uL16) (nx := 82) (by decide +kernel) rfl (by first | omega | exact ⟨by omega, by omega⟩) (ls' := [(2, 37), (0, vL1), (0, (uL16 + 1))]) rfl ?_
                  refine zwW_p [(24, 29, 0)] (q := 29) (ls' := [(2, 37), (0, vL1), (0, (uL16 + 1))]) (st' := []) (by decide +kernel) rfl ?_
                  exact IHL16 ((100 - (uL16 + 1))).toNat (by omega) (uL16 + 1) hL16 rfl (by omega) (by first | exact B78 | exact iL16_1) (by rw [show (uL16 + 1).toNat = (uL16).toNat + 1 by omega, yWm_s]; first | (rw [if_neg (by omega)]; exact iL16_2) | (rw [if_pos (by omega), ← iL16_2, ← I78, A78]; omega) | (rw [if_pos (by omega), ← iL16_2, ← I56]; omega)) (iL16_3) IhL16 RhL16
                · refine zwW_p [(1, 0, 2)] (q := 66) (ls' := [(2, 37), (0, vL1), (0, uL16)]) (st' := [(2, 37)]) (by decide +kernel) rfl ?_
                  refine zwW_gc IhL16 (kd := 13) (bn := 92) (n := 97) (c := 362) (nx := 69) (by decide +kernel) ?_
                  refine zwW_p [(1, 1, 0), (1, 0, 2)] (q := 71) (ls' := [(2, 37), (0, vL1), (0, uL16)]) (st' := [(2, 37), (0, vL1), (2, 362)]) (by decide +kernel) rfl ?_
                  refine zwW_gc IhL16 (kd := 13) (bn := 13) (n := 97) (c := 72) (nx := 74) (by decide +kernel) ?_
                  refine zwW_p [(1, 2, 0)] (q := 75) (ls' := [(2, 37), (0, vL1), (0, uL16)]) (st' := [(0, uL16), (2, 72), (0, vL1), (2, 362)]) (by decide +kernel) rfl ?_
                  refine zwW_al IhL16 (a1 := 72) (a2 := 72) (kd := 20) (n := 8) (t := 0) (lo := -2147483648) (hi := 2147483647) (nx := 76) (by decide +kernel) (by first | decide | exact ⟨by decide, by decide⟩) ib3 ?_
                  intro v25 ev25 lv25 uv25
                  have sv25 : v25 = (yM h) 72 uL16.toNat := Eq.trans ev25 (Eq.trans (Eq.symm (yM_p (h := hL16) (a := 72) (n := 8) (i := uL16.toNat) rfl (zit ib3))) (Eq.trans (congrFun (congrFun iL16_3 72) uL16.toNat) rfl))
                  refine zwW_p [(0, 2, 0)] (q := 77) (ls' := [(2, 37), (0, vL1), (0, uL16)]) (st' := [(0, 2), (0, v25), (0, vL1), (2, 362)]) (by decide +kernel) rfl ?_
                  refine zwW_sbw (nx := 78) (by decide +kernel) ?_
                  intro v26 ev26 lv26 uv26
                  have Ev26 : v26 = w32 (((yM h) 72 uL16.toNat) - 2) := by rw [ev26, sv25]
                  have I78 : v26 = w32 ((yM h) 72 (uL16).toNat - 2) := by first | rw [ev26, sv25] | (rw [← sv25]; unfold w32; omega)
                  refine zwW_as IhL16 (a1 := 362) (a2 := 362) (n := 8) (lo := -2147483648) (hi := 2147483647) (nx := 79) (by decide +kernel) (by first | decide | exact ⟨by decide, by decide⟩) ib2 (by first | omega | exact ⟨by omega, by omega⟩) ?_
                  intro h27 eh27 Ih27
                  have jbh27 : 0 ≤ vL1.toNat ∧ vL1.toNat < 8 := ⟨Nat.zero_le _, zit ib2⟩
                  have th27_37_1 : fld h27 37 1 = fld hL16 37 1 := by rw [eh27]; exact fld_wr (Or.inl (by decide))
                  have A78 : fld h27 362 (vL1).toNat = v26 := by rw [eh27]; exact fld_wr_eq (IhL16.s (a1 := 362) (a2 := 362) (k := 20) (n := 8) (by decide +kernel) (by decide) (by decide)) (by omega)
                  have B78 : ∀ j : Nat, (j : Int) < vL1 → fld h27 362 j = yWm (yM h) j (fld h 37 1).toNat := fun j hj => by rw [eh27, fld_wr (Or.inr (by omega))]; exact iL16_1 j hj
                  have Zh27 : yM h27 = (yM h) := (yM_fr (ms := [(362, 362, 0, 8)]) (zMR.one (a1 := 362) (a2 := 362) (j1 := 0) (j2 := 8) (by first | decide | exact ⟨by decide, by decide⟩) jbh27 eh27) (by decide +kernel) (IhL16.b (a1 := 37) (a2 := 37) (j1 := 86) (j2 := 87) (lo := 0) (hi := 6) (by decide +kernel) (r := 37) (j := 86) (by decide) (by decide) (by decide) (by decide)).2).trans iL16_3
                  have Rh27 : zMR ms197 h h27 := RhL16.w (a1 := 362) (a2 := 362) (j1 := 0) (j2 := 8) (by decide +kernel) (by first | decide | exact ⟨by decide, by decide⟩) jbh27 eh27
                  refine zwW_inc (i := 2) (c := 1) (x := uL16) (nx := 82) (by decide +kernel) rfl (by first | omega | exact ⟨by omega, by omega⟩) (ls' := [(2, 37), (0, vL1), (0, (uL16 + 1))]) rfl ?_
                  refine zwW_p [(24, 29, 0)] (q := 29) (ls' := [(2, 37), (0, vL1), (0, (uL16 + 1))]) (st' := []) (by decide +kernel) rfl ?_
                  exact IHL16 ((100 - (uL16 + 1))).toNat (by omega) (uL16 + 1) h27 rfl (by omega) (by first | exact B78 | exact iL16_1) (by rw [show (uL16 + 1).toNat = (uL16).toNat + 1 by omega, yWm_s]; first | (rw [if_neg (by omega)]; exact iL16_2) | (rw [if_pos (by omega), ← iL16_2, ← I78, A78]; omega) | (rw [if_pos (by omega), ← iL16_2, ← I56]; omega)) (Zh27) Ih27 Rh27
        exact L16 _ 0 h15 rfl (by omega) (B26) (A26) (Zh15) Ih15 Rh15
  exact L1 _ 0 (9, 0) h rfl (by omega) (fun j hj => by omega) ((rfl : yM h = yM h)) I R
end
section
/-! one price of a village is told -/
section YC
variable {h h' h1 g : Hp} {a i k n : Nat} {x : Int} {ms : Zms} {c s : Int}
theorem yC_pd {R0 : Int} {n0 : Nat} (s0 : sh h R0 = some (20, n0)) (ha : a ≠ 57) (hS : a = 37 → ySc i = true → fld g ((ySr i).1 : Nat) (ySr i).2 = fld h ((ySr i).1 : Nat) (ySr i).2) (hL : ∀ A : Nat, (A = 2 ∨ A = 3 ∨ A = 4 ∨ A = 5 ∨ A = 20) → fld g A 2 = fld h A 2 ∧ ∀ m : Nat, (m : Int) < fld h A 2 → zv g A m = zv h A m) (h7 : a = 48 → fld g 7 i = fld h 7 i) (h10 : a = 98 → fld g 10 i = fld h 10 i) (h13 : a = 164 → fld g 13 1 = fld h 13 1 ∧ (i < 12 → fld g 15 i = fld h 15 i)) (hX : yK a = 9 → fld g ((yFx a : Nat) : Int) i = fld h ((yFx a : Nat) : Int) i) (C : CI h) (hO : ∀ (r : Int) (j : Nat), 365 < r → r ≠ R0 → fld g r j = fld h r j) (hM : yM g = yM h) : yC g a i = yC h a i := by
  have hk : ∀ (r : Int) (k n : Nat), sh h r = some (k, n) → k ≠ 20 → r ≠ R0 := fun r k n s e z => by
    rw [z, s0] at s
    exact e (congrArg Prod.fst (Option.some.inj s)).symm
  have hz : ∀ (r : Int) (A : Nat), (365 < r ∧ ∃ n, sh h r = some (zkd A, n)) → r ≠ R0 := fun r A w => by
    obtain ⟨-, n, w⟩ := w
    exact hk r _ n w (by unfold zkd; split <;> (try split) <;> (try split) <;> (try split) <;> decide)
  have m2 : (2 : Nat) ∈ zLis := by decide
  have m20 : (20 : Nat) ∈ zLis := by decide
  have e37 : yK a = 1 → a = 37 := fun e => yK_1 e
  have eK : ∀ n : Nat, yK a = n → (n = 3 → a = 48) ∧ (n = 4 → a = 57) ∧ (n = 5 → a = 98) ∧ (n = 6 → a = 164) := fun n e => ⟨fun z => yK_3 (e.trans z), fun z => yK_4 (e.trans z), fun z => yK_5 (e.trans z), fun z => yK_6 (e.trans z)⟩
  obtain ⟨l2, v2⟩ := hL 2 (by omega)
  have l2 : fld g 2 2 = fld h 2 2 := l2
  unfold yC
  split
  · rename_i hK
    cases c2 : ySc i with
    | false => rfl
    | true => exact hS (e37 hK) c2
  · rw [l2]
    by_cases q : i < 32 ∧ ((i / 4 : Nat) : Int) < fld h 2 2
    · rw [if_pos q, if_pos q, v2 _ q.2, hO _ 1 (zv_s C m2 q.2).1 (hz _ 2 (zv_s C m2 q.2))]
    · rw [if_neg q, if_neg q]
  · rename_i hK
    rw [h7 ((eK _ hK).1 rfl)]
  · rename_i hK
    exact absurd ((eK _ hK).2.1 rfl) ha
  · rename_i hK
    rw [h10 ((eK _ hK).2.2.1 rfl)]
  · rename_i hK
    obtain ⟨f13, f15⟩ := h13 ((eK _ hK).2.2.2 rfl)
    rw [f13]
    by_cases q : (i : Int) < fld h 13 1
    · have hb := C.1.b (a1 := 13) (a2 := 13) (j1 := 1) (j2 := 2) (lo := 0) (hi := 12) (by decide +kernel) (r := 13) (j := 1) (by decide) (by decide) (by decide) (by decide)
      rw [if_pos q, if_pos q, f15 (by omega)]
      rcases C.2.2.2.2 i (by omega) with z | z
      · rw [z]
        unfold fld
        rw [cel_0, cel_0]
      · exact hO _ _ z.1 (hk _ _ _ z.2.1 (by decide))
    · rw [if_neg q, if_neg q]
  · obtain ⟨l20, v20⟩ := hL 20 (by omega)
    have l20 : fld g 20 2 = fld h 20 2 := l20
    rw [l20]
    by_cases q : (i : Int) < fld h 20 2
    · rw [if_pos q, if_pos q, v20 i q, hO _ 0 (zv_s C m20 q).1 (hz _ 20 (zv_s C m20 q))]
    · rw [if_neg q, if_neg q]
  · rw [hM]
  · rename_i hK
    rw [hX hK]
  · rename_i hK
    have w := yK_10 hK
    obtain ⟨zA, vA⟩ := hL (yRA a).1 (by omega)
    have lA : (yRA a).1 ∈ zLis := by
      unfold zLis
      rcases w with ⟨z, -⟩ | ⟨z, -⟩ | ⟨z, -⟩ | ⟨z, -⟩ <;> rw [z] <;> decide
    rw [zA]
    by_cases q : (i : Int) < fld h ((yRA a).1 : Nat) 2
    · rw [if_pos q, if_pos q, vA i q, hO _ _ (zv_s C lA q).1 (hz _ _ (zv_s C lA q))]
      have G := (zv_g C lA q).2
      unfold zG at G
      rcases w with ⟨z1, z2⟩ | ⟨z1, z2⟩ | ⟨z1, z2⟩ | ⟨z1, z2⟩
      · rw [z1] at G ⊢; rw [z2]; exact hO _ _ G.2.2.1 (hk _ _ _ G.2.2.2.1 (by decide))
      · rw [z1] at G ⊢; rw [z2]; exact hO _ _ G.2.2.1 (hk _ _ _ G.2.2.2.1 (by decide))
      · rw [z1] at G ⊢; rw [z2]; exact hO _ _ G.2.2.1.1 (hk _ _ _ G.2.2.1.2.1 (by decide))
      · rw [z1] at G ⊢; rw [z2]; exact hO _ _ G.2.2.2.1 (hk _ _ _ G.2.2.2.2.1 (by decide))
    · rw [if_neg q, if_neg q]
  · rename_i hK
    obtain ⟨u1, u2, u3⟩ := yF_of hK
    obtain ⟨zA, vA⟩ := hL (yFA a) (by omega)
    have lA : yFA a ∈ zLis := by
      unfold zLis
      rcases u3 with z | z | z | z <;> rw [z] <;> decide
    rw [zA]
    by_cases q : (i : Int) < fld h ((yFA a : Nat) : Int) 2
    · rw [if_pos q, if_pos q, vA i q, hO _ _ (zv_s C lA q).1 (hz _ _ (zv_s C lA q))]
    · rw [if_neg q, if_neg q]
  · rfl
theorem cond_le {b : Bool} {u v : Nat × Nat} (hu : u.1 ≤ 365) (hv : v.1 ≤ 365) : (cond b u v).1 ≤ 365 := by
  cases b
  · exact hv
  · exact hu
theorem ySr_le (i : Nat) : (ySr i).1 ≤ 365 := by
  unfold ySr
  repeat' (first | apply cond_le | decide)
/-- the villages' price rows are each another -/
def zPd (h : Hp) : Prop := ∀ v k : Nat, (v : Int) < fld h 2 2 → (k : Int) < fld h 2 2 → v ≠ k → fld h (zv h 2 v) 16 ≠ fld h (zv h 2 k) 16
theorem zPd.fr {ms : Zms} {c s : Int} (P : zPd h) (C : CI h) (R : zXR ms c s h g) (e : zun ms 2 = true) : zPd g := fun v k hv hk ne => by
  obtain ⟨v1, v2⟩ := zV_16 C R e hv
  obtain ⟨k1, k2⟩ := zV_16 C R e hk
  rw [v2, k2]
  exact P v k v1 k1 ne
/-- a price row is written -/
theorem yC_w57 {w : Nat} {r : Int} (C : CI h) (P : zPd h) (hk : (k : Int) < fld h 2 2) (hw : w < 157 ∧ (w : Int) ≤ fld h 1 0) (er : r = fld h (zv h 2 k) 16) (e : g = wr h r w x) : yC g = zs (yC h) 57 (157 * k + w) x := by
  have b2 := zLb_2 C
  have G := zV_g C hk
  obtain ⟨g1, g2, g3, g4⟩ := G
  rw [← er] at g3 g4
  have hO : ∀ (q : Int) (j : Nat), q ≠ r → fld g q j = fld h q j := fun q j hq => by rw [e]; exact fld_wr (Or.inl hq)
  have z25 : ∀ A ∈ zLis, 365 < fld h A 1 → fld h A 1 ≠ r := C.ne25 g4 (by decide)
  have hzv : ∀ A ∈ zLis, ∀ m : Nat, zv g A m = zv h A m := fun A hA m => zv_wr C hA g3 z25 e m
  have h36 : ∀ A : Nat, A ≤ 365 → ∀ j, fld g (A : Int) j = fld h (A : Int) j := fun A hA j => hO _ j (by omega)
  have hM : yM g = yM h := yM_fx (fun p q hp => hO p q (by omega))
  funext a i
  by_cases ha : a = 57
  · subst ha
    show (if i < 1256 ∧ ((i / 157 : Nat) : Int) < fld g 2 2 ∧ ((i % 157 : Nat) : Int) ≤ fld g 1 0 then fld g (fld g (zv g 2 (i / 157)) 16) (i % 157) else 0) = _
    rw [show fld g 2 2 = fld h 2 2 from h36 2 (by decide) 2, show fld g 1 0 = fld h 1 0 from h36 1 (by decide) 0, hzv 2 (by decide)]
    by_cases q : i < 1256 ∧ ((i / 157 : Nat) : Int) < fld h 2 2 ∧ ((i % 157 : Nat) : Int) ≤ fld h 1 0
    · have gv := zV_g C q.2.1
      have n16 : zv h 2 (i / 157) ≠ r := fun z => by
        have w2 := gv.2.1
        rw [z, g4] at w2
        cases w2
      rw [if_pos q, hO _ 16 n16]
      by_cases z : i = 157 * k + w
      · rw [z, zs_eq, show (157 * k + w) / 157 = k by omega, show (157 * k + w) % 157 = w by omega, ← er, e]
        exact fld_wr_eq g4 hw.1
      · rw [zs_ni z]
        show _ = (if i < 1256 ∧ ((i / 157 : Nat) : Int) < fld h 2 2 ∧ ((i % 157 : Nat) : Int) ≤ fld h 1 0 then fld h (fld h (zv h 2 (i / 157)) 16) (i % 157) else 0)
        rw [if_pos q]
        by_cases y : i / 157 = k
        · rw [y, ← er, e]
          exact fld_wr (Or.inr (by omega))
        · exact hO _ _ (by rw [er]; exact P _ _ q.2.1 hk y)
    · rw [if_neg q, zs_ni (fun z => q (by rw [z]; exact ⟨by omega, by rw [show (157 * k + w) / 157 = k by omega]; exact hk, by rw [show (157 * k + w) % 157 = w by omega]; exact hw.2⟩))]
      exact (if_neg q).symm
  · rw [zs_na ha]
    exact yC_pd g4 ha (fun _ _ => h36 _ (ySr_le i) _) (fun A hA => ⟨h36 A (by omega) 2, fun m _ => hzv A (by unfold zLis; rcases hA with z | z | z | z | z <;> rw [z] <;> decide) m⟩) (fun _ => h36 7 (by decide) i) (fun _ => h36 10 (by decide) i) (fun _ => ⟨h36 13 (by decide) 1, fun _ => h36 15 (by decide) i⟩) (fun q => h36 _ (by rcases yK_9 q with z | z | z | z | z <;> rw [z] <;> decide) i) C (fun q j _ hq => hO q j hq) hM
/-- weeks leave what is asked as it was -/
theorem zRq.go {q : qT} {ms : Zms} {c s : Int} (P : zRq q h) (C : CI h) (R : zXR ms c s h g) (K : zKw h g) (e : ((zun ms 14 && (zun ms 2 && (zuw ms 101 148 && zuw ms 155 162))) && (zkFo ms && (zqN ms 37 37 52 54 && (zun ms 164 && zun ms 165)))) = true) : zRq q g := by
  obtain ⟨⟨p1, p2, p3⟩, ⟨p4, p5⟩, p6⟩ := P
  simp only [Bool.and_eq_true] at e
  obtain ⟨⟨k1, k3, k4, k5⟩, e2, e3, e4, e5⟩ := e
  have e1 : (zun ms 14 && (zun ms 2 && (zuw ms 101 148 && zuw ms 155 162))) = true := by rw [k1, k3, k4, k5]; rfl
  have k6 := e2
  unfold zkFo at k6
  simp only [Bool.and_eq_true] at k6
  obtain ⟨-, -, -, -, -, k7⟩ := k6
  have f1 : fld g 37 52 = fld h 37 52 := R.f e3 (by first | decide | exact ⟨by decide, by decide⟩) (by first | decide | exact ⟨by decide, by decide⟩) (by first | decide | exact ⟨by decide, by decide⟩)
  have f2 : fld g 37 53 = fld h 37 53 := R.f e3 (by first | decide | exact ⟨by decide, by decide⟩) (by first | decide | exact ⟨by decide, by decide⟩) (by first | decide | exact ⟨by decide, by decide⟩)
  have f3 : fld g 13 1 = fld h 13 1 := R.f k7 (by first | decide | exact ⟨by decide, by decide⟩) (by first | decide | exact ⟨by decide, by decide⟩) (by first | decide | exact ⟨by decide, by decide⟩)
  have f4 : fld g 14 2 = fld h 14 2 := R.vz (A := 14) (by decide) k1
  have b := zLb_14 C
  have r1 : ∀ r : Int, 101 ≤ r → r ≤ 148 → fld g r = fld h r := fun r u v => R.rw k4 (by decide) (by decide) u v
  have r2 : ∀ r : Int, 155 ≤ r → r ≤ 162 → fld g r = fld h r := fun r u v => R.rw k5 (by decide) (by decide) u v
  refine ⟨⟨p1.go C R K e1, p2.kp C R e2, p3.of r1 r2 f1 (by omega)⟩, (by first | omega | exact ⟨by omega, by omega⟩), fun c w N c0 c1 => ?_⟩
  rw [← p6 c w N c0 c1]
  exact zTl_of r1 r2 (R.fa (a := 164) e4 (by decide)) (R.fa (a := 165) e5 (by decide)) f2 (p2.bd C p4) ⟨c0, c1⟩
end YC
end
section
/-! contracts of the class -/
def msx235_z : Zms := [(1020, 1020, 0, 100000)]
-- WheelLand$Village.noteMillPrice(I)V
theorem x235_z {sc : List Int} (h : Hp) (C : CI h) (r a : Int) (G_r : gV h r) (q_a : -2147483648 ≤ a ∧ a ≤ 2147483647) (J : yR h) (k : Nat) (P_r : r = zv h 2 k ∧ (k : Int) < fld h 2 2) (PD : zPd h) (pa : 0 ≤ a ∧ a < 157 ∧ a ≤ fld h 1 0) : zwC sc 1 235 [(2, r), (0, a)] h (zwRv (fun g => CI g ∧ zXR msx235_z (0) (0) h g ∧ (∀ q : Int, q ≠ fld h r 16 → fld g q = fld h q) ∧ (yC g = yNt (yC h) k a) ∧ (yR g))) := by
  refine zwC_of (D := 0) 2 (by decide +kernel) rfl (ls := [(2, r), (0, a)]) rfl ?_
  have lw_r := G_r.1
  have X : zXR msx235_z 0 0 h h := zXR.rf _ _
  have u0 : yC h 37 0 = fld h 1 0 := rfl
  have u1 : yC h 37 1 = fld h 2 2 := rfl
  have u2 : yC h 37 2 = fld h 3 2 := rfl
  have u64 : yC h 37 64 = fld h 4 2 := rfl
  have u78 : yC h 37 78 = fld h 5 2 := rfl
  refine zwW_p [(1, 1, 0)] (q := 1) (ls' := [(2, r), (0, a)]) (st' := [(0, a)]) (by decide +kernel) rfl ?_
  refine zwif_lt (q := 23) (nx := 4) (by decide +kernel) (fun c1 => ?_) (fun c1 => ?_)
  · exfalso; omega
  · refine zwW_p [(1, 1, 0), (1, 0, 2)] (q := 6) (ls' := [(2, r), (0, a)]) (st' := [(2, r), (0, a)]) (by decide +kernel) rfl ?_
    refine zwW_get (kd := 11) (bn := 16) (t := 2) (n := 17) (nx := 9) (by decide +kernel) G_r.2.1 rfl ?_
    obtain ⟨v2, ev2⟩ : ∃ z, z = fld h r 16 := ⟨_, rfl⟩
    rw [← ev2]
    have Gv2 : gA 157 h v2 := by rw [ev2]; exact G_r.2.2
    have lv2 := Gv2.1
    refine zwW_len (n := 157) (nx := 10) (by decide +kernel) Gv2.2 rfl ?_
    refine zwic_ge (q := 23) (nx := 13) (by decide +kernel) (fun c3 => ?_) (fun c3 => ?_)
    · exfalso; omega
    · refine zwW_p [(1, 0, 2)] (q := 14) (ls' := [(2, r), (0, a)]) (st' := [(2, r)]) (by decide +kernel) rfl ?_
      refine zwW_get (kd := 11) (bn := 16) (t := 2) (n := 17) (nx := 17) (by decide +kernel) G_r.2.1 rfl ?_
      rw [← ev2]
      refine zwW_p [(1, 1, 0), (1, 0, 2)] (q := 19) (ls' := [(2, r), (0, a)]) (st' := [(2, r), (0, a), (2, v2)]) (by decide +kernel) rfl ?_
      refine zwX_gi C (kd := 11) (bn := 9) (n := 17) (nx := 22) (by decide +kernel) G_r.2.1 G_r.1 rfl ?_
      intro v5 ev5 lv5 uv5
      have sv5 : v5 = (yC h) 71 k := Eq.trans ev5 (Eq.trans (congrArg (fun q => fld h q 9) P_r.1) (Eq.trans (Eq.symm (yC_f (h := h) (a := 71) (A := 2) (j := 9) (i := k) rfl P_r.2)) (Eq.trans (congrFun (congrFun (rfl : yC h = yC h) 71) k) rfl)))
      refine zwX_si C (n := 157) (nx := 23) (by decide +kernel) Gv2.2 Gv2.1 (by first | omega | exact ⟨by omega, by omega⟩) (by first | omega | exact ⟨by omega, by omega⟩) (by omega) ?_
      rintro h6 eh6 Ch6 Qh6
      have Y22 : yC h6 = zs (yC h) 57 (157 * k + a.toNat) ((yC h) 71 k) := by
        rw [← sv5]
        exact yC_w57 C PD P_r.2 (by first | omega | exact ⟨by omega, by omega⟩) (by rw [ev2, P_r.1]) eh6
      have W22 : ∀ q : Int, q ≠ fld h r 16 → fld h6 q = fld h q := fun q hq => fld_o eh6 (fun z => hq (z.trans ev2))
      have Xh6 : zXR msx235_z (0) (0) h h6 := X.tr (c2 := 0) (s2 := 0) Qh6 (by decide +kernel) (by decide) (by decide)
      have Gh6_0 : gV h6 r := G_r.x Qh6
      have Jh6 : yR h6 := J.fr C Qh6 (by decide +kernel)
      have pr_h6 : r = zv h6 2 k ∧ ((k : Nat) : Int) < fld h6 2 2 := zpv C Qh6 (A := 2) (by decide) (by decide +kernel) P_r
      refine zwW_retv (nx := 24) (a := 0) (b := 0) (by decide +kernel) ?_
      exact ⟨Ch6, Xh6.le (by decide) (by decide), by first | exact W22 | exact fun q hq => W22 q (fun z => hq (z.trans ev2.symm)) | (exfalso; omega), by first | exact Y22 | (exfalso; omega), by exact Jh6⟩
def msx193_z : Zms := [(1004, 1004, 14, 15), (1020, 1020, 0, 100000)]
-- WheelLand.beginWeek()V
theorem x193_z {sc : List Int} (h : Hp) (C : CI h) (J : yR h) (PD : zPd h) : zwC sc 5 193 [(2, 1)] h (zwRv (fun g => CI g ∧ zXR msx193_z (0) (0) h g ∧ (zKw h g) ∧ (yC g = yBgA (yC h)) ∧ (yR g))) := by
  refine zwC_of (D := 4) 2 (by decide +kernel) rfl (ls := [(2, 1), (9, 0)]) rfl ?_
  have X : zXR msx193_z 0 0 h h := zXR.rf _ _
  have u0 : yC h 37 0 = fld h 1 0 := rfl
  have u1 : yC h 37 1 = fld h 2 2 := rfl
  have u2 : yC h 37 2 = fld h 3 2 := rfl
  have u64 : yC h 37 64 = fld h 4 2 := rfl
  have u78 : yC h 37 78 = fld h 5 2 := rfl
  have K : zKw h h := zKw.rf
  have b22 := zLb_2 C
  have b33 := zLb_3 C
  refine zwW_p [(0, 0, 0), (2, 1, 0)] (q := 2) (ls' := [(2, 1), (0, 0)]) (st' := []) (by decide +kernel) rfl ?_
  have L1 : ∀ (n0 : Nat) (vL1 : Int) (hL1 : Hp), n0 = ((1000 - vL1)).toNat → (zKw h hL1) → (zPd hL1) → (vL1 ≤ fld h 2 2 ∧ fld hL1 2 2 = fld h 2 2 ∧ fld hL1 3 2 = fld h 3 2 ∧ fld hL1 1 0 = fld h 1 0) → (0 ≤ vL1 ∧ vL1 ≤ 8) → (yC hL1 = (yBg1 (yC h) (yC h 37 0).toNat (vL1).toNat)) → (yR hL1) → CI hL1 → zXR msx193_z (0) (0) h hL1 → zwW sc (4) 193 2 [(2, 1), (0, vL1)] [] hL1 (zwRv (fun g => CI g ∧ zXR msx193_z (0) (0) h g ∧ (zKw h g) ∧ (yC g = yBgA (yC h)) ∧ (yR g))) := by
    intro n0
    induction n0 using Nat.strongRecOn with
    | ind n0 IHL1 =>
      intro vL1 hL1 hnL1 iL1_0 iL1_1 iL1_2 iL1_3 iL1_4 iL1_5 ChL1 XhL1
      refine zwW_p [(1, 1, 0), (1, 0, 2)] (q := 4) (ls' := [(2, 1), (0, vL1)]) (st' := [(2, 1), (0, vL1)]) (by decide +kernel) rfl ?_
      refine zwW_gc ChL1.1 (kd := 12) (bn := 2) (n := 13) (c := 2) (nx := 7) (by decide +kernel) ?_
      refine zwW_cm ChL1.1 (op := 60) (k' := 96) (n := 0) (kd := 0) (m := 3) (nx := 10) (r := 2) (tl := []) (st' := [(0, vL1)]) (by decide +kernel) rfl (by decide +kernel) rfl (x96_2 ChL1) ?_
      rintro v2 _ ⟨rfl, ev2⟩
      have bv2 := zLb_2 ChL1
      have sv2 : v2 = (yBg1 (yC h) (yC h 37 0).toNat (vL1).toNat) 37 1 := Eq.trans ev2 (Eq.trans (Eq.symm (yC_s (h := hL1) (i := 1) rfl)) (Eq.trans (congrFun (congrFun iL1_4 37) 1) rfl))
      refine zwic_ge (q := 37) (nx := 13) (by decide +kernel) (fun c3 => ?_) (fun c3 => ?_)
      · refine zwW_p [(0, 0, 0), (2, 1, 0)] (q := 39) (ls' := [(2, 1), (0, 0)]) (st' := []) (by decide +kernel) rfl ?_
        have L4 : ∀ (n0 : Nat) (kL4 : Int) (hL4 : Hp), n0 = ((1000 - kL4)).toNat → (zKw h hL4) → (kL4 ≤ fld h 3 2 ∧ fld hL4 3 2 = fld h 3 2 ∧ fld hL4 1 0 = fld h 1 0) → (0 ≤ kL4 ∧ kL4 ≤ 20) → (yC hL4 = (yBg2 (yBg1 (yC h) (yC h 37 0).toNat (yC h 37 1).toNat) (kL4).toNat)) → (yR hL4) → CI hL4 → zXR msx193_z (0) (0) h hL4 → zwW sc (4) 193 39 [(2, 1), (0, kL4)] [] hL4 (zwRv (fun g => CI g ∧ zXR msx193_z (0) (0) h g ∧ (zKw h g) ∧ (yC g = yBgA (yC h)) ∧ (yR g))) := by
          intro n0
          induction n0 using Nat.strongRecOn with
          | ind n0 IHL4 =>
            intro kL4 hL4 hnL4 iL4_0 iL4_1 iL4_2 iL4_3 iL4_4 ChL4 XhL4
            refine zwW_p [(1, 1, 0), (1, 0, 2)] (q := 41) (ls' := [(2, 1), (0, kL4)]) (st' := [(2, 1), (0, kL4)]) (by decide +kernel) rfl ?_
            refine zwW_gc ChL4.1 (kd := 12) (bn := 3) (n := 13) (c := 3) (nx := 44) (by decide +kernel) ?_
            refine zwW_cm ChL4.1 (op := 60) (k' := 96) (n := 0) (kd := 0) (m := 3) (nx := 47) (r := 3) (tl := []) (st' := [(0, kL4)]) (by decide +kernel) rfl (by decide +kernel) rfl (x96_3 ChL4) ?_
            rintro v5 _ ⟨rfl, ev5⟩
            have bv5 := zLb_3 ChL4
            have sv5 : v5 = (yBg2 (yBg1 (yC h) (yC h 37 0).toNat (yC h 37 1).toNat) (kL4).toNat) 37 2 := Eq.trans ev5 (Eq.trans (Eq.symm (yC_s (h := hL4) (i := 2) rfl)) (Eq.trans (congrFun (congrFun iL4_3 37) 2) rfl))
            refine zwic_ge (q := 71) (nx := 50) (by decide +kernel) (fun c6 => ?_) (fun c6 => ?_)
            · refine zwW_retv (nx := 72) (a := 0) (b := 0) (by decide +kernel) ?_
              exact ⟨ChL4, XhL4.le (by decide) (by decide), by exact iL4_0, by refine Eq.trans iL4_3 ?_; unfold yBgA; rw [show (yC h 37 2).toNat = (kL4).toNat by omega], by exact iL4_4⟩
            · refine zwW_p [(1, 0, 2)] (q := 51) (ls' := [(2, 1), (0, kL4)]) (st' := [(2, 1)]) (by decide +kernel) rfl ?_
              refine zwW_gc ChL4.1 (kd := 12) (bn := 3) (n := 13) (c := 3) (nx := 54) (by decide +kernel) ?_
              refine zwW_p [(1, 1, 0)] (q := 55) (ls' := [(2, 1), (0, kL4)]) (st' := [(0, kL4), (2, 3)]) (by decide +kernel) rfl ?_
              refine zwW_cm ChL4.1 (op := 60) (k' := 123) (n := 1) (kd := 0) (m := 3) (nx := 58) (r := 3) (tl := [(0, kL4)]) (st' := []) (by decide +kernel) rfl (by decide +kernel) rfl (x123_3 ChL4 (i := kL4) (by first | omega | exact ⟨by omega, by omega⟩)) ?_
              rintro v7 _ ⟨rfl, Gv7, ev7⟩
              have lv7 := Gv7.1
              have pv7 : v7 = zv hL4 3 kL4.toNat ∧ ((kL4.toNat : Nat) : Int) < fld hL4 3 2 := ⟨ev7, by omega⟩
              refine zwW_cast (a := 4) (kd := 4) (n := 19) (nx := 61) (by decide +kernel) rfl (Or.inr Gv7.2.1) ?_
              refine zwW_p [(0, 0, 0)] (q := 62) (ls' := [(2, 1), (0, kL4)]) (st' := [(0, 0), (2, v7)]) (by decide +kernel) rfl ?_
              refine zwX_pi ChL4 (kd := 4) (bn := 14) (n := 19) (nx := 65) (by decide +kernel) Gv7.2.1 Gv7.1 (by first | decide | exact ⟨by decide, by decide⟩) ?_
              rintro h8 eh8 Ch8 Qh8
              have Zh8 : yC h8 = (zs (yBg2 (yBg1 (yC h) (yC h 37 0).toNat (yC h 37 1).toNat) (kL4).toNat) 92 kL4.toNat 0) := by rw [yC_w (a := 92) (A := 3) (j := 14) (k := kL4.toNat) ChL4 iL4_4 rfl pv7 eh8, iL4_3]
              have Xh8 : zXR msx193_z (0) (0) h h8 := XhL4.tr (c2 := 0) (s2 := 0) Qh8 (by decide +kernel) (by decide) (by decide)
              have Jh8 : yR h8 := iL4_4.fr ChL4 Qh8 (by decide +kernel)
              have th8_1_0 : fld h8 1 0 = fld hL4 1 0 := Qh8.f (a1 := 1) (a2 := 1) (j1 := 0) (j2 := 1) (by decide +kernel) (by first | decide | exact ⟨by decide, by decide⟩) (by first | decide | exact ⟨by decide, by decide⟩) (by first | decide | exact ⟨by decide, by decide⟩)
              have th8_2_2 : fld h8 2 2 = fld hL4 2 2 := Qh8.f (a1 := 2) (a2 := 2) (j1 := 2) (j2 := 3) (by decide +kernel) (by first | decide | exact ⟨by decide, by decide⟩) (by first | decide | exact ⟨by decide, by decide⟩) (by first | decide | exact ⟨by decide, by decide⟩)
              have th8_3_2 : fld h8 3 2 = fld hL4 3 2 := Qh8.f (a1 := 3) (a2 := 3) (j1 := 2) (j2 := 3) (by decide +kernel) (by first | decide | exact ⟨by decide, by decide⟩) (by first | decide | exact ⟨by decide, by decide⟩) (by first | decide | exact ⟨by decide, by decide⟩)
              have Kh8 : zKw h h8 := iL4_0.fr Qh8 (by decide +kernel)
              refine zwW_inc (i := 1) (c := 1) (x := kL4) (nx := 68) (by decide +kernel) rfl (by first | omega | exact ⟨by omega, by omega⟩) (ls' := [(2, 1), (0, (kL4 + 1))]) rfl ?_
              refine zwW_p [(24, 39, 0)] (q := 39) (ls' := [(2, 1), (0, (kL4 + 1))]) (st' := []) (by decide +kernel) rfl ?_
              exact IHL4 ((1000 - (kL4 + 1))).toNat (by omega) (kL4 + 1) h8 rfl (Kh8) (by omega) (by omega) (by rw [show (kL4 + 1).toNat = (kL4).toNat + 1 by omega, yBg2_s]; exact Zh8) (Jh8) Ch8 (Xh8.le (by decide) (by decide))
        exact L4 _ 0 hL1 rfl (iL1_0) (by omega) (by omega) (iL1_4.trans (by rw [show (vL1).toNat = (yC h 37 1).toNat by omega]; rfl)) (iL1_5) ChL1 (XhL1.le (by decide) (by decide))
      · refine zwW_p [(1, 0, 2)] (q := 14) (ls' := [(2, 1), (0, vL1)]) (st' := [(2, 1)]) (by decide +kernel) rfl ?_
        refine zwW_gc ChL1.1 (kd := 12) (bn := 2) (n := 13) (c := 2) (nx := 17) (by decide +kernel) ?_
        refine zwW_p [(1, 1, 0)] (q := 18) (ls' := [(2, 1), (0, vL1)]) (st' := [(0, vL1), (2, 2)]) (by decide +kernel) rfl ?_
        refine zwW_cm ChL1.1 (op := 60) (k' := 123) (n := 1) (kd := 0) (m := 3) (nx := 21) (r := 2) (tl := [(0, vL1)]) (st' := []) (by decide +kernel) rfl (by decide +kernel) rfl (x123_2 ChL1 (i := vL1) (by first | omega | exact ⟨by omega, by omega⟩)) ?_
        rintro v9 _ ⟨rfl, Gv9, ev9⟩
        have lv9 := Gv9.1
        have pv9 : v9 = zv hL1 2 vL1.toNat ∧ ((vL1.toNat : Nat) : Int) < fld hL1 2 2 := ⟨ev9, by omega⟩
        refine zwW_cast (a := 11) (kd := 11) (n := 17) (nx := 24) (by decide +kernel) rfl (Or.inr Gv9.2.1) ?_
        refine zwW_p [(1, 0, 2)] (q := 25) (ls' := [(2, 1), (0, vL1)]) (st' := [(2, 1), (2, v9)]) (by decide +kernel) rfl ?_
        refine zwW_gs ChL1.1 (kd := 12) (bn := 0) (n := 13) (t := 0) (lo := 0) (hi := 156) (nx := 28) (by decide +kernel) ?_
        intro v10 ev10 lv10 uv10
        have sv10 : v10 = (yBg1 (yC h) (yC h 37 0).toNat (vL1).toNat) 37 0 := Eq.trans ev10 (Eq.trans (Eq.symm (yC_s (h := hL1) (i := 0) rfl)) (Eq.trans (congrFun (congrFun iL1_4 37) 0) rfl))
        have R28 := XhL1
        have K28 := iL1_0
        refine zwW_cvv (op := 60) (k' := 235) (n := 1) (kd := 11) (m := 17) (nx := 31) (r := v9) (tl := [(0, v10)]) (st' := []) (by decide +kernel) rfl (by decide +kernel) Gv9.2.1 (x235_z hL1 ChL1 v9 v10 Gv9 (by omega) iL1_5 vL1.toNat pv9 iL1_1 ⟨by omega, by omega, by omega⟩) rfl ?_
        rintro h14 ⟨Ch14, Qh14, f11, f12, f13⟩
        have Zh14 : yC h14 = (yNt (yBg1 (yC h) (yC h 37 0).toNat (vL1).toNat) vL1.toNat ((yBg1 (yC h) (yC h 37 0).toNat (vL1).toNat) 37 0)) := by rw [f12, iL1_4, sv10]
        have Xh14 : zXR msx193_z (0) (0) h h14 := XhL1.tr (c2 := 0) (s2 := 0) Qh14 (by decide +kernel) (by decide) (by decide)
        have th14_1_0 : fld h14 1 0 = fld hL1 1 0 := Qh14.f (a1 := 1) (a2 := 1) (j1 := 0) (j2 := 1) (by decide +kernel) (by first | decide | exact ⟨by decide, by decide⟩) (by first | decide | exact ⟨by decide, by decide⟩) (by first | decide | exact ⟨by decide, by decide⟩)
        have th14_2_2 : fld h14 2 2 = fld hL1 2 2 := Qh14.f (a1 := 2) (a2 := 2) (j1 := 2) (j2 := 3) (by decide +kernel) (by first | decide | exact ⟨by decide, by decide⟩) (by first | decide | exact ⟨by decide, by decide⟩) (by first | decide | exact ⟨by decide, by decide⟩)
        have th14_3_2 : fld h14 3 2 = fld hL1 3 2 := Qh14.f (a1 := 3) (a2 := 3) (j1 := 2) (j2 := 3) (by decide +kernel) (by first | decide | exact ⟨by decide, by decide⟩) (by first | decide | exact ⟨by decide, by decide⟩) (by first | decide | exact ⟨by decide, by decide⟩)
        have PDh14 : zPd h14 := iL1_1.fr ChL1 Qh14 (by decide +kernel)
        have KN := K28.st C R28 (by decide +kernel) f11 (pv9).1 (pv9).2 Qh14.1
        refine zwW_inc (i := 1) (c := 1) (x := vL1) (nx := 34) (by decide +kernel) rfl (by first | omega | exact ⟨by omega, by omega⟩) (ls' := [(2, 1), (0, (vL1 + 1))]) rfl ?_
        refine zwW_p [(24, 2, 0)] (q := 2) (ls' := [(2, 1), (0, (vL1 + 1))]) (st' := []) (by decide +kernel) rfl ?_
        exact IHL1 ((1000 - (vL1 + 1))).toNat (by omega) (vL1 + 1) h14 rfl (KN) (PDh14) (by omega) (by omega) (by rw [show (vL1 + 1).toNat = (vL1).toNat + 1 by omega, yBg1_s]; refine Zh14.trans ?_; unfold yNt; rw [show yBg1 (yC h) (yC h 37 0).toNat (vL1).toNat 37 0 = yC h 37 0 from yBg1_n (by decide) _]) (f13) Ch14 (Xh14.le (by decide) (by decide))
  exact L1 _ 0 h rfl (K) (PD) (by omega) (by omega) (rfl) (J) C (X.le (by decide) (by decide))
end
section
/-! a list gets an entry more: the tables -/
section YA
variable {h h1 g : Hp} {A B a i k n m : Nat} {x r : Int} {l : List Int} {S : zT}
theorem yFA_c : (yFA a = 2 ∧ 65 ≤ a ∧ a ≤ 78) ∨ (yFA a = 3 ∧ 80 ≤ a ∧ a ≤ 96) ∨ (yFA a = 4 ∧ 171 ≤ a ∧ a ≤ 175) ∨ (yFA a = 5 ∧ 182 ≤ a ∧ a ≤ 185) ∨ yFA a = 0 := by
  unfold yFA
  cases c1 : (Nat.ble 65 a && Nat.ble a 78) with
  | true => rw [Bool.and_eq_true] at c1; exact Or.inl ⟨rfl, Nat.le_of_ble_eq_true c1.1, Nat.le_of_ble_eq_true c1.2⟩
  | false =>
  cases c2 : (Nat.ble 80 a && Nat.ble a 96) with
  | true => rw [Bool.and_eq_true] at c2; exact Or.inr (Or.inl ⟨rfl, Nat.le_of_ble_eq_true c2.1, Nat.le_of_ble_eq_true c2.2⟩)
  | false =>
  cases c3 : (Nat.ble 171 a && Nat.ble a 175) with
  | true => rw [Bool.and_eq_true] at c3; exact Or.inr (Or.inr (Or.inl ⟨rfl, Nat.le_of_ble_eq_true c3.1, Nat.le_of_ble_eq_true c3.2⟩))
  | false =>
  cases c4 : (Nat.ble 182 a && Nat.ble a 185) with
  | true => rw [Bool.and_eq_true] at c4; exact Or.inr (Or.inr (Or.inr (Or.inl ⟨rfl, Nat.le_of_ble_eq_true c4.1, Nat.le_of_ble_eq_true c4.2⟩)))
  | false => exact Or.inr (Or.inr (Or.inr (Or.inr rfl)))
theorem yRA_c : (yRA a = (3, 1, 2) ∧ a = 79) ∨ (yRA a = (4, 1, 3) ∧ a = 170) ∨ (yRA a = (5, 0, 4) ∧ a = 180) ∨ (yRA a = (5, 1, 3) ∧ a = 181) ∨ yRA a = (0, 0, 0) := by
  cases c1 : Nat.beq a 79 with
  | true => obtain rfl := Nat.eq_of_beq_eq_true c1; exact Or.inl ⟨rfl, rfl⟩
  | false =>
  cases c2 : Nat.beq a 170 with
  | true => obtain rfl := Nat.eq_of_beq_eq_true c2; exact Or.inr (Or.inl ⟨rfl, rfl⟩)
  | false =>
  cases c3 : Nat.beq a 180 with
  | true => obtain rfl := Nat.eq_of_beq_eq_true c3; exact Or.inr (Or.inr (Or.inl ⟨rfl, rfl⟩))
  | false =>
  cases c4 : Nat.beq a 181 with
  | true => obtain rfl := Nat.eq_of_beq_eq_true c4; exact Or.inr (Or.inr (Or.inr (Or.inl ⟨rfl, rfl⟩)))
  | false =>
    refine Or.inr (Or.inr (Or.inr (Or.inr ?_)))
    unfold yRA
    rw [c1, c2, c3, c4]
    rfl
theorem ySr_c : (ySr i = (2, 2) ∧ i = 1) ∨ (ySr i = (3, 2) ∧ i = 2) ∨ (ySr i = (4, 2) ∧ i = 64) ∨ (ySr i = (5, 2) ∧ i = 78) ∨ (0 < (ySr i).1 ∧ (ySr i).1 ≤ 365 ∧ (ySr i).1 ≠ 2 ∧ (ySr i).1 ≠ 3 ∧ (ySr i).1 ≠ 4 ∧ (ySr i).1 ≠ 5) := by
  cases c1 : Nat.beq i 1 with
  | true => obtain rfl := Nat.eq_of_beq_eq_true c1; exact Or.inl ⟨rfl, rfl⟩
  | false =>
  cases c2 : Nat.beq i 2 with
  | true => obtain rfl := Nat.eq_of_beq_eq_true c2; exact Or.inr (Or.inl ⟨rfl, rfl⟩)
  | false =>
  cases c3 : Nat.beq i 64 with
  | true => obtain rfl := Nat.eq_of_beq_eq_true c3; exact Or.inr (Or.inr (Or.inl ⟨rfl, rfl⟩))
  | false =>
  cases c4 : Nat.beq i 78 with
  | true => obtain rfl := Nat.eq_of_beq_eq_true c4; exact Or.inr (Or.inr (Or.inr (Or.inl ⟨rfl, rfl⟩)))
  | false =>
    refine Or.inr (Or.inr (Or.inr (Or.inr ?_)))
    have w : ∀ (b : Bool) (u v : Nat × Nat), (0 < u.1 ∧ u.1 ≤ 365 ∧ u.1 ≠ 2 ∧ u.1 ≠ 3 ∧ u.1 ≠ 4 ∧ u.1 ≠ 5) → (0 < v.1 ∧ v.1 ≤ 365 ∧ v.1 ≠ 2 ∧ v.1 ≠ 3 ∧ v.1 ≠ 4 ∧ v.1 ≠ 5) → (0 < (cond b u v).1 ∧ (cond b u v).1 ≤ 365 ∧ (cond b u v).1 ≠ 2 ∧ (cond b u v).1 ≠ 3 ∧ (cond b u v).1 ≠ 4 ∧ (cond b u v).1 ≠ 5) := fun b u v p q => by
      cases b
      · exact q
      · exact p
    unfold ySr
    rw [c1, c2, c3, c4]
    simp only [cond_false]
    exact w _ _ _ (by decide) (w _ _ _ (by decide) (w _ _ _ (by decide) (w _ _ _ (by decide) (w _ _ _ (by decide) (w _ _ _ (by decide) (w _ _ _ (by decide) (w _ _ _ (by decide) (w _ _ _ (by decide) (by decide)))))))))
/-- what an entry more in list A touches -/
def yTch (A a i n : Nat) : Prop := (yK a = 1 ∧ (ySr i).1 = A) ∨ (yK a = 11 ∧ yFA a = A ∧ i = n) ∨ (yK a = 10 ∧ (yRA a).1 = A ∧ i = n) ∨ (A = 2 ∧ ((yK a = 2 ∧ i / 4 = n) ∨ (yK a = 4 ∧ i / 157 = n)))
/-- what stands in the lists, behind an entry more -/
theorem zAdded.fp (C : CI h) (hA : A = 2 ∨ A = 3 ∨ A = 4 ∨ A = 5) (D : zAdded h A r g) {q : Nat} (q1 : 0 < q ∧ q ≤ 365) (q2 : q ≠ A) : fld g (q : Int) = fld h (q : Int) := by
  have mA : A ∈ zLis := by unfold zLis; rcases hA with rfl | rfl | rfl | rfl <;> decide
  have l := C.len
  refine D.2.2.2.2.2 q (by omega) (by omega) (fun z => ?_)
  rcases C.2.2.1 A mA with ⟨-, w⟩ | ⟨w, -⟩ <;> omega
theorem zAdded.lc (C : CI h) (hA : A = 2 ∨ A = 3 ∨ A = 4 ∨ A = 5) (D : zAdded h A r g) (hn : (n : Int) = fld h A 2) (hB : B ∈ zLis) (hm : ¬ (B = A ∧ m = n)) : ((m : Int) < fld g B 2 ↔ (m : Int) < fld h B 2) ∧ ((m : Int) < fld h B 2 → zv g B m = zv h B m) := by
  by_cases z : B = A
  · subst z
    have l := D.2.2.1
    exact ⟨⟨fun w => by omega, fun w => by omega⟩, fun w => D.v w⟩
  · have e0 : ∀ B : Nat, B ∈ zLis → B ≠ A → zun [(A, A, 0, 3)] B = true := by
      unfold zLis
      rcases hA with rfl | rfl | rfl | rfl <;> decide
    have e := e0 B hB z
    have w := D.2.1.vz hB e
    exact ⟨by rw [w], fun u => D.2.1.v C hB e u⟩
theorem zAdded.ov (C : CI h) (hA : A = 2 ∨ A = 3 ∨ A = 4 ∨ A = 5) (D : zAdded h A r g) (hB : B ∈ zLis) (hm : (m : Int) < fld h B 2) : fld g (zv h B m) = fld h (zv h B m) := by
  have mA : A ∈ zLis := by unfold zLis; rcases hA with rfl | rfl | rfl | rfl <;> decide
  obtain ⟨u, n', w⟩ := zv_s C hB hm
  exact zAdded.o C mA D w (zkd25 B) u
theorem yC_adn (C : CI h) (hA : A = 2 ∨ A = 3 ∨ A = 4 ∨ A = 5) (D : zAdded h A r g) (hn : (n : Int) = fld h A 2) (ht : ¬ yTch A a i n) : yC g a i = yC h a i := by
  have mA : A ∈ zLis := by unfold zLis; rcases hA with rfl | rfl | rfl | rfl <;> decide
  have ob : ∀ (q : Int) (k m : Nat), 365 < q → sh h q = some (k, m) → k ≠ 25 → fld g q = fld h q := fun q k m u w e => zAdded.o C mA D w e u
  have m2 : (2 : Nat) ∈ zLis := by decide
  have m20 : (20 : Nat) ∈ zLis := by decide
  have f1 : fld g 1 = fld h 1 := D.fp C hA (q := 1) (by decide) (by omega)
  have f7 : fld g 7 = fld h 7 := D.fp C hA (q := 7) (by decide) (by omega)
  have f10 : fld g 10 = fld h 10 := D.fp C hA (q := 10) (by decide) (by omega)
  have f13 : fld g 13 = fld h 13 := D.fp C hA (q := 13) (by decide) (by omega)
  have f15 : fld g 15 = fld h 15 := D.fp C hA (q := 15) (by decide) (by omega)
  have hM : yM g = yM h := yM_xr D.2.1 (by rcases hA with rfl | rfl | rfl | rfl <;> decide) (C.1.b (a1 := 37) (a2 := 37) (j1 := 86) (j2 := 87) (lo := 0) (hi := 6) (by decide +kernel) (r := 37) (j := 86) (by decide) (by decide) (by decide) (by decide)).2
  unfold yC
  split
  · rename_i hK
    cases c2 : ySc i with
    | false => rfl
    | true =>
      have q : fld g ((ySr i).1 : Nat) = fld h ((ySr i).1 : Nat) := by
        have ne : (ySr i).1 ≠ A := fun z => ht (Or.inl ⟨hK, z⟩)
        refine D.fp C hA ?_ ne
        rcases ySr_c (i := i) with ⟨w, -⟩ | ⟨w, -⟩ | ⟨w, -⟩ | ⟨w, -⟩ | ⟨w1, w2, -⟩
        · rw [w]; decide
        · rw [w]; decide
        · rw [w]; decide
        · rw [w]; decide
        · exact ⟨w1, w2⟩
      exact congrFun q _
  · rename_i hK
    obtain ⟨p1, p2⟩ := D.lc C hA hn m2 (m := i / 4) (fun z => ht (Or.inr (Or.inr (Or.inr ⟨z.1.symm, Or.inl ⟨hK, z.2⟩⟩))))
    by_cases q : i < 32 ∧ ((i / 4 : Nat) : Int) < fld h 2 2
    · rw [if_pos q, if_pos ⟨q.1, p1.mpr q.2⟩, p2 q.2, D.ov C hA m2 q.2]
    · rw [if_neg q, if_neg (fun z => q ⟨z.1, p1.mp z.2⟩)]
  · rw [f7]
  · rename_i hK
    obtain ⟨p1, p2⟩ := D.lc C hA hn m2 (m := i / 157) (fun z => ht (Or.inr (Or.inr (Or.inr ⟨z.1.symm, Or.inr ⟨hK, z.2⟩⟩))))
    rw [f1]
    by_cases q : i < 1256 ∧ ((i / 157 : Nat) : Int) < fld h 2 2 ∧ ((i % 157 : Nat) : Int) ≤ fld h 1 0
    · have gv : gV h (zv h 2 (i / 157)) := (zv_g C (A := 2) m2 q.2.1).2
      rw [if_pos q, if_pos ⟨q.1, p1.mpr q.2.1, q.2.2⟩, p2 q.2.1, D.ov C hA m2 q.2.1, ob _ _ _ gv.2.2.1 gv.2.2.2 (by decide)]
    · rw [if_neg q, if_neg (fun z => q ⟨z.1, p1.mp z.2.1, z.2.2⟩)]
  · rw [f10]
  · rw [f13, f15]
    by_cases q : (i : Int) < fld h 13 1
    · have hb := C.1.b (a1 := 13) (a2 := 13) (j1 := 1) (j2 := 2) (lo := 0) (hi := 12) (by decide +kernel) (r := 13) (j := 1) (by decide) (by decide) (by decide) (by decide)
      rw [if_pos q, if_pos q]
      rcases C.2.2.2.2 i (by omega) with z | z
      · rw [z]
        unfold fld
        rw [cel_0, cel_0]
      · rw [ob _ _ _ z.1 z.2.1 (by decide)]
    · rw [if_neg q, if_neg q]
  · obtain ⟨p1, p2⟩ := D.lc C hA hn m20 (m := i) (fun z => by omega)
    by_cases q : (i : Int) < fld h 20 2
    · have q' : (i : Int) < fld g 20 2 := p1.mpr q
      rw [if_pos q, if_pos q', p2 q, D.ov C hA m20 q]
    · have q' : ¬ (i : Int) < fld g 20 2 := fun z => q (p1.mp z)
      rw [if_neg q, if_neg q']
  · rw [hM]
  · rename_i hK
    have w : fld g ((yFx a : Nat) : Int) = fld h ((yFx a : Nat) : Int) := D.fp C hA (by rcases yK_9 hK with z | z | z | z | z <;> rw [z] <;> decide) (by rcases yK_9 hK with z | z | z | z | z <;> rw [z] <;> rcases hA with rfl | rfl | rfl | rfl <;> decide)
    rw [w]
  · rename_i hK
    have w := yK_10 hK
    have lA : (yRA a).1 ∈ zLis := by
      unfold zLis
      rcases w with ⟨z, -⟩ | ⟨z, -⟩ | ⟨z, -⟩ | ⟨z, -⟩ <;> rw [z] <;> decide
    obtain ⟨p1, p2⟩ := D.lc C hA hn lA (m := i) (fun z => ht (Or.inr (Or.inr (Or.inl ⟨hK, z.1, z.2⟩))))
    by_cases q : (i : Int) < fld h ((yRA a).1 : Nat) 2
    · rw [if_pos q, if_pos (p1.mpr q), p2 q, D.ov C hA lA q]
      have G := (zv_g C lA q).2
      unfold zG at G
      rcases w with ⟨z1, z2⟩ | ⟨z1, z2⟩ | ⟨z1, z2⟩ | ⟨z1, z2⟩
      · rw [z1] at G ⊢; rw [z2]; rw [ob _ _ _ G.2.2.1 G.2.2.2.1 (by decide)]
      · rw [z1] at G ⊢; rw [z2]; rw [ob _ _ _ G.2.2.1 G.2.2.2.1 (by decide)]
      · rw [z1] at G ⊢; rw [z2]; rw [ob _ _ _ G.2.2.1.1 G.2.2.1.2.1 (by decide)]
      · rw [z1] at G ⊢; rw [z2]; rw [ob _ _ _ G.2.2.2.1 G.2.2.2.2.1 (by decide)]
    · rw [if_neg q, if_neg (fun z => q (p1.mp z))]
  · rename_i hK
    obtain ⟨u1, u2, u3⟩ := yF_of hK
    have lA : yFA a ∈ zLis := by
      unfold zLis
      rcases u3 with z | z | z | z <;> rw [z] <;> decide
    obtain ⟨p1, p2⟩ := D.lc C hA hn lA (m := i) (fun z => ht (Or.inr (Or.inl ⟨hK, z.1, z.2⟩)))
    by_cases q : (i : Int) < fld h ((yFA a : Nat) : Int) 2
    · rw [if_pos q, if_pos (p1.mpr q), p2 q, D.ov C hA lA q]
    · rw [if_neg q, if_neg (fun z => q (p1.mp z))]
  · rfl
/-- numbers and references behind an entry more -/
theorem yR_add (C : CI h) (J : yR h) (hA : A = 2 ∨ A = 3 ∨ A = 4 ∨ A = 5) (D : zAdded h A r g) (G : zG A h r) (hn : (n : Int) = fld h A 2) (w0 : A ≠ 5 → fld h r 0 = n) (w1 : ∀ j B : Nat, (A = 3 ∧ j = 1 ∧ B = 2) ∨ (A = 4 ∧ j = 1 ∧ B = 3) ∨ (A = 5 ∧ j = 0 ∧ B = 4) ∨ (A = 5 ∧ j = 1 ∧ B = 3) → ∃ v : Nat, (v : Int) < fld h B 2 ∧ fld h r j = zv h B v) (w2 : A = 2 → 0 ≤ fld h r 1) (w3 : A = 5 → ∀ i : Nat, (i : Int) < fld h 5 2 → zv h 5 i ≠ r) : yR g := by
  have mA : A ∈ zLis := by unfold zLis; rcases hA with rfl | rfl | rfl | rfl <;> decide
  have kr := zG_k mA G
  have fr : fld g r = fld h r := by
    obtain ⟨u, n', w⟩ := kr
    exact zAdded.o C mA D w (zkd25 A) u
  have en : (fld h A 2).toNat = n := by omega
  have zn : zv g A n = r := by rw [← en]; exact D.2.2.2.2.1
  have lA := D.2.2.1
  have mem : ∀ B : Nat, B = 2 ∨ B = 3 ∨ B = 4 ∨ B = 5 ∨ B = 14 ∨ B = 20 → B ∈ zLis := by
    intro B hB
    unfold zLis
    rcases hB with rfl | rfl | rfl | rfl | rfl | rfl <;> decide
  -- an entry of a list behind
  have cs : ∀ B : Nat, B ∈ zLis → ∀ m : Nat, (m : Int) < fld g B 2 → (B = A ∧ m = n ∧ zv g B m = r) ∨ ((m : Int) < fld h B 2 ∧ zv g B m = zv h B m) := by
    intro B hB m hm
    by_cases z : B = A ∧ m = n
    · obtain ⟨z1, z2⟩ := z
      subst z1 z2
      exact Or.inl ⟨rfl, rfl, zn⟩
    · obtain ⟨p1, p2⟩ := D.lc C hA hn hB z
      exact Or.inr ⟨p1.mp hm, p2 (p1.mp hm)⟩
  have up : ∀ B : Nat, B ∈ zLis → ∀ v : Nat, (v : Int) < fld h B 2 → (v : Int) < fld g B 2 ∧ zv g B v = zv h B v := by
    intro B hB v hv
    obtain ⟨p1, p2⟩ := D.lc C hA hn hB (m := v) (fun z => by obtain ⟨z1, z2⟩ := z; subst z1 z2; omega)
    exact ⟨p1.mpr hv, p2 hv⟩
  obtain ⟨j1, j2, j3, j4, j5, j6⟩ := J
  refine ⟨fun B hB i hi => ?_, fun B j E hB i hi => ?_, fun i hi => ?_, fun i hi => ?_, fun i hi => ?_, fun i k hi hk e => ?_⟩
  · rcases cs B (mem B (by omega)) i hi with ⟨z1, z2, z3⟩ | ⟨z1, z2⟩
    · rw [z3, fr, w0 (by omega), z2]
    · rw [z2, D.ov C hA (mem B (by omega)) z1]
      exact j1 B hB i z1
  · have fE : E ∈ zLis := mem E (by omega)
    rcases cs B (mem B (by omega)) i hi with ⟨z1, z2, z3⟩ | ⟨z1, z2⟩
    · obtain ⟨v, v1, v2⟩ := w1 j E (by rw [← z1]; exact hB)
      obtain ⟨u1, u2⟩ := up E fE v v1
      exact ⟨v, u1, by rw [z3, fr, u2]; exact v2⟩
    · obtain ⟨v, v1, v2⟩ := j2 B j E hB i z1
      obtain ⟨u1, u2⟩ := up E fE v v1
      exact ⟨v, u1, by rw [z2, D.ov C hA (mem B (by omega)) z1, u2]; exact v2⟩
  · rcases cs 20 (by decide) i hi with ⟨z1, -, -⟩ | ⟨z1, z2⟩
    · omega
    · obtain ⟨v, v1, v2⟩ := j3 i z1
      obtain ⟨u1, u2⟩ := up 4 (by decide) v v1
      exact ⟨v, u1, by rw [z2, u2]; exact v2⟩
  · have f13 : fld g 13 = fld h 13 := D.fp C hA (q := 13) (by decide) (by omega)
    have f15 : fld g 15 = fld h 15 := D.fp C hA (q := 15) (by decide) (by omega)
    rw [f13] at hi
    obtain ⟨v, v1, v2⟩ := j4 i hi
    obtain ⟨u1, u2⟩ := up 14 (by decide) v v1
    exact ⟨v, u1, by rw [f15, u2]; exact v2⟩
  · rcases cs 2 (by decide) i hi with ⟨z1, z2, z3⟩ | ⟨z1, z2⟩
    · rw [z3, fr]
      exact w2 z1.symm
    · rw [z2, D.ov C hA (by decide) z1]
      exact j5 i z1
  · rcases cs 5 (by decide) i hi with ⟨z1, z2, z3⟩ | ⟨z1, z2⟩
    · rcases cs 5 (by decide) k hk with ⟨y1, y2, y3⟩ | ⟨y1, y2⟩
      · omega
      · rw [z3, y2] at e
        exact absurd e.symm (w3 z1.symm k y1)
    · rcases cs 5 (by decide) k hk with ⟨y1, y2, y3⟩ | ⟨y1, y2⟩
      · rw [z2, y3] at e
        exact absurd e (w3 y1.symm i z1)
      · rw [z2, y2] at e
        exact j6 i k z1 y1 e
/-- a lot more -/
theorem yC_lot (C : CI h) (J : yR h) (D : zAdded h 4 r g) (G : gL h r) (F : cel h r = some (6, l)) (hn : (n : Int) = fld h 4 2) (h0 : l.getD 0 0 = n) (h1 : l.getD 1 0 = zv h 3 k) (hk : (k : Int) < fld h 3 2) : yC g = zs (zs (zs (zs (zs (zs (zs (yC h) 170 n k) 171 n (l.getD 2 0)) 172 n (l.getD 3 0)) 173 n (l.getD 4 0)) 174 n (l.getD 5 0)) 175 n (l.getD 6 0)) 37 64 (n + 1) := by
  have hA : (4 : Nat) = 2 ∨ (4 : Nat) = 3 ∨ (4 : Nat) = 4 ∨ (4 : Nat) = 5 := by decide
  have en : (fld h ((4 : Nat) : Int) 2).toNat = n := by show (fld h 4 2).toNat = n; omega
  have zn : zv g 4 n = r := by rw [← en]; exact D.2.2.2.2.1
  have ln : fld g 4 2 = fld h 4 2 + 1 := D.2.2.1
  have hi : (n : Int) < fld g 4 2 := by omega
  have fr : ∀ j, fld g (zv g 4 n) j = l.getD j 0 := fun j => by rw [zn, zAdded.o C (by decide) D (sh_of F) (by decide) G.1, fld_of F]
  funext a i
  rw [zs_if]
  by_cases e1 : a = 37 ∧ i = 64
  · rw [if_pos e1, e1.1, e1.2]
    show fld g 4 2 = _
    omega
  rw [if_neg e1, zs_if]
  by_cases e2 : a = 175 ∧ i = n
  · rw [if_pos e2, e2.1, e2.2, yC_f (A := 4) (j := 6) rfl hi, fr]
  rw [if_neg e2, zs_if]
  by_cases e3 : a = 174 ∧ i = n
  · rw [if_pos e3, e3.1, e3.2, yC_f (A := 4) (j := 5) rfl hi, fr]
  rw [if_neg e3, zs_if]
  by_cases e4 : a = 173 ∧ i = n
  · rw [if_pos e4, e4.1, e4.2, yC_f (A := 4) (j := 4) rfl hi, fr]
  rw [if_neg e4, zs_if]
  by_cases e5 : a = 172 ∧ i = n
  · rw [if_pos e5, e5.1, e5.2, yC_f (A := 4) (j := 3) rfl hi, fr]
  rw [if_neg e5, zs_if]
  by_cases e6 : a = 171 ∧ i = n
  · rw [if_pos e6, e6.1, e6.2, yC_f (A := 4) (j := 2) rfl hi, fr]
  rw [if_neg e6, zs_if]
  by_cases e7 : a = 170 ∧ i = n
  · rw [if_pos e7, e7.1, e7.2, yC_r (A := 4) (j := 1) (B := 3) rfl hi, fr, h1, D.ov C hA (by decide) hk]
    exact J.1 3 (by decide) k hk
  rw [if_neg e7]
  refine yC_adn C hA D (show (n : Int) = fld h ((4 : Nat) : Int) 2 from hn) ?_
  rintro (⟨t1, t2⟩ | ⟨t1, t2, t3⟩ | ⟨t1, t2, t3⟩ | ⟨t1, -⟩)
  · have q := yK_1 t1
    rcases ySr_c (i := i) with ⟨w, -⟩ | ⟨w, -⟩ | ⟨w, y⟩ | ⟨w, -⟩ | ⟨-, -, -, -, w, -⟩
    · rw [w] at t2; revert t2; decide
    · rw [w] at t2; revert t2; decide
    · exact e1 ⟨q, y⟩
    · rw [w] at t2; revert t2; decide
    · exact w t2
  · rcases yFA_c (a := a) with ⟨w, -⟩ | ⟨w, -⟩ | ⟨-, w1, w2⟩ | ⟨w, -⟩ | w <;> omega
  · rcases yRA_c (a := a) with ⟨w, -⟩ | ⟨-, w⟩ | ⟨w, -⟩ | ⟨w, -⟩ | w
    · rw [w] at t2; revert t2; decide
    · exact e7 ⟨w, t3⟩
    · rw [w] at t2; revert t2; decide
    · rw [w] at t2; revert t2; decide
    · rw [w] at t2; revert t2; decide
  · omega
/-- the class tells the numbers that spinning needs -/
theorem zX_yC (C : CI h) (J : yR h) : zX h (yC h) := by
  have b2 := zLb_2 C
  refine ⟨⟨rfl, rfl, rfl, rfl⟩, fun v hv => ?_, fun k hk => ?_, fun i hi => ?_⟩
  · have hv : (v : Int) < fld h 2 2 := hv
    exact ⟨J.1 2 (by decide) v hv, (yC_f (a := 66) (A := 2) (j := 3) rfl hv).symm, J.2.2.2.2.1 v hv, fun s hs => (yC_39 hv hs b2.2).symm⟩
  · have hk : (k : Int) < fld h 3 2 := hk
    exact ⟨(yC_f (a := 80) (A := 3) (j := 2) rfl hk).symm, (yC_f (a := 81) (A := 3) (j := 3) rfl hk).symm, (yC_f (a := 85) (A := 3) (j := 7) rfl hk).symm, (J.r (a := 79) (A := 3) (j := 1) (B := 2) rfl hk).2.2⟩
  · exact J.1 4 (by decide) i hi
end YA
end
section
/-! the laying of plots: pure -/
section YP
variable {S T : zT} {k n i : Nat} {x : Int}
def yCan (S : zT) (k : Nat) : Int := S 80 k * yIdl S (S 79 k).toNat (S 37 0 / 13 % 4) * (10 + S 81 k) / 24
def yStr (S : zT) (k : Nat) : Int := max (w32 (w32 (w32 (20 * S 65 (S 79 k).toNat) + w32 (3 * S 81 k)) - w32 (2 * S 85 k))) 0
/-- a house spins -/
def yLy1 (S : zT) (k : Nat) : zT := if 0 < yX S (yEp S) k then zs (zs (zs (zs (zs (zs (zs (zs (zs S 66 (S 79 k).toNat (S 66 (S 79 k).toNat - (yX S (yEp S) k + S 85 k - 1) / S 85 k)) 95 k (w32 (S 95 k + yCan S k))) 170 (S 37 64).toNat k) 171 (S 37 64).toNat (S 37 0)) 172 (S 37 64).toNat (S 85 k)) 173 (S 37 64).toNat (yStr S k)) 174 (S 37 64).toNat (yX S (yEp S) k)) 175 (S 37 64).toNat (yX S (yEp S) k)) 37 64 (S 37 64 + 1) else zs S 95 k (w32 (S 95 k + yCan S k))
def yLyN (S : zT) : Nat → zT
  | 0 => S
  | k + 1 => yLy1 (yLyN S k) k
theorem yLyN_s : yLyN S (k + 1) = yLy1 (yLyN S k) k := rfl
def yLyA (S : zT) : zT := yLyN S (S 37 2).toNat
def yToA (S : zT) : Int := yTo S (yEp S) (S 37 2).toNat
theorem zAg_zs {a : Nat} (e : (a ≠ 37 ∧ a ≠ 79 ∧ a ≠ 80) ∧ (a ≠ 81 ∧ a ≠ 85) ∧ a ≠ 66 ∧ a ≠ 39) : zAg (zs S a i x) S := by
  obtain ⟨⟨e1, e2, e3⟩, ⟨e4, e5⟩, e6, e7⟩ := e
  exact ⟨⟨zs_na e1.symm, zs_na e1.symm, zs_na e1.symm, zs_na e1.symm⟩, fun k _ => ⟨zs_na e2.symm, zs_na e3.symm, zs_na e4.symm, zs_na e5.symm⟩, fun v _ => ⟨zs_na e6.symm, fun s _ => zs_na e7.symm⟩⟩
theorem yLy1_ag (B : zBs S) : zAg (yLy1 S k) (yS1 S (yEp S) k) := by
  unfold yLy1 yS1
  by_cases c : 0 < yX S (yEp S) k
  · rw [if_pos c, if_pos c]
    refine ⟨⟨?_, ?_, ?_, ?_⟩, fun m _ => ⟨?_, ?_, ?_, ?_⟩, fun v _ => ⟨?_, fun s _ => ?_⟩⟩ <;> simp [zs_if]
  · rw [if_neg c, if_neg c]
    exact zAg_zs (by decide)
theorem yLyN_ag (B : zBs S) : ∀ k : Nat, (k : Int) ≤ S 37 2 → zAg (yLyN S k) (ySN S (yEp S) k)
  | 0, _ => zAg.rf
  | k + 1, h => by
    have q := yLyN_ag B k (by omega)
    have b := B.sn (yEp_4 (S := S)) k (by omega)
    have b2 := zBs.cg q.sy b
    have e : yEp (yLyN S k) = yEp S := by
      have w := q.1.1
      have u : ySN S (yEp S) k 37 0 = S 37 0 := ySN_ne (by decide) (Or.inr (by decide)) k
      unfold yEp
      rw [w, u]
    have k2 : (k : Int) < yLyN S k 37 2 := by
      have w := q.1.2.2.1
      have u : ySN S (yEp S) k 37 2 = S 37 2 := ySN_ne (by decide) (Or.inr (by decide)) k
      omega
    have w := yLy1_ag b2 (k := k)
    rw [e] at w
    exact w.tr (q.s1 b2 (yEp_4 (S := S)) k2)
theorem zBs.lyn (B : zBs S) (h : (k : Int) ≤ S 37 2) : zBs (yLyN S k) := zBs.cg (yLyN_ag B k h).sy (B.sn (yEp_4 (S := S)) k h)
theorem yLyN_e (B : zBs S) (h : (k : Int) ≤ S 37 2) : yEp (yLyN S k) = yEp S ∧ yLyN S k 37 2 = S 37 2 ∧ yLyN S k 37 1 = S 37 1 ∧ yLyN S k 37 0 = S 37 0 := by
  have q := yLyN_ag B k h
  have u0 : ySN S (yEp S) k 37 0 = S 37 0 := ySN_ne (by decide) (Or.inr (by decide)) k
  have u1 : ySN S (yEp S) k 37 1 = S 37 1 := ySN_ne (by decide) (Or.inr (by decide)) k
  have u2 : ySN S (yEp S) k 37 2 = S 37 2 := ySN_ne (by decide) (Or.inr (by decide)) k
  refine ⟨?_, q.1.2.2.1.trans u2, q.1.2.1.trans u1, q.1.1.trans u0⟩
  unfold yEp
  rw [q.1.1, u0]
/-- what is spun in all, so far -/
theorem yTo_ly (B : zBs S) (h : (k : Int) < S 37 2) : yTo S (yEp S) (k + 1) = yTo S (yEp S) k + yX (yLyN S k) (yEp (yLyN S k)) k := by
  have q := yLyN_ag B k (by omega)
  have b := B.sn (yEp_4 (S := S)) k (by omega)
  have e := yLyN_e B (k := k) (by omega)
  show yTo S (yEp S) k + yX (ySN S (yEp S) k) (yEp S) k = _
  rw [e.1, q.xk (zBs.cg q.sy b) (yEp_4 (S := S)) (by omega)]
end YP
end
section
/-! what spinning needs: a lot made, the tables told -/
section YPX
variable {h g : Hp} {S : zT} {k n i : Nat} {x r : Int}
theorem zX_of {a : Nat} (C : CI h) (J : yR h) (Z : yC h = zs S a i x) (e : (a ≠ 37 ∧ a ≠ 79 ∧ a ≠ 80) ∧ (a ≠ 81 ∧ a ≠ 85) ∧ a ≠ 66 ∧ a ≠ 39) (B : zBs S) : zX h S := by
  have X := zX_yC C J
  rw [Z] at X
  have A : zAg (zs S a i x) S := zAg_zs e
  exact X.cg A (zBs.cg A.sy B)
theorem yC_lot2 {x0 x1 x2 x3 x4 x5 x6 : Int} (C : CI h) (J : yR h) (D : zAdded h 4 r g) (G : gL h r) (F : cel h r = some (6, [x0, x1, x2, x3, x4, x5, x6])) (hn : (n : Int) = fld h 4 2) (h0 : x0 = n) (h1 : x1 = zv h 3 k) (hk : (k : Int) < fld h 3 2) : yC g = zs (zs (zs (zs (zs (zs (zs (yC h) 170 n k) 171 n x2) 172 n x3) 173 n x4) 174 n x5) 175 n x6) 37 64 (n + 1) := yC_lot C J D G F hn h0 h1 hk
theorem yR_lot {x0 x1 x2 x3 x4 x5 x6 : Int} (C : CI h) (J : yR h) (D : zAdded h 4 r g) (G : gL h r) (F : cel h r = some (6, [x0, x1, x2, x3, x4, x5, x6])) (hn : (n : Int) = fld h 4 2) (h0 : x0 = n) (h1 : x1 = zv h 3 k) (hk : (k : Int) < fld h 3 2) : yR g := by
  refine yR_add C J (A := 4) (by decide) D G hn (fun _ => by rw [fld_of F]; exact h0) (fun j B hj => ?_) (fun z => by omega) (fun z => by omega)
  have e : j = 1 ∧ B = 3 := by omega
  obtain ⟨rfl, rfl⟩ := e
  exact ⟨k, hk, by rw [fld_of F]; exact h1⟩
theorem yStr_in : -2147483648 ≤ yStr S k ∧ yStr S k ≤ 2147483647 := by
  unfold yStr w32
  omega
theorem x231_z {sc : List Int} {st : Int} (h0 : Hp) (C : CI h0) (a v b d : Int) (q_a : -2147483648 ≤ a ∧ a ≤ 2147483647) (q_b : -2147483648 ≤ b ∧ b ≤ 2147483647) (q_d : -2147483648 ≤ d ∧ d ≤ 2147483647) (G : gH h0 v) (S : ∀ g, zOld h0 g → CI g → zwC sc 1 169 [(2, v)] g (zwRt 0 (fun x g' => g = g' ∧ x = st))) (q_st : -2147483648 ≤ st ∧ st ≤ 2147483647) : zwC sc 2 231 [(2, ((h0.length + 1 : Nat) : Int)), (0, a), (2, v), (0, b), (0, d)] (h0 ++ [(6, List.replicate 7 0)]) (zwRv (fun g => CI g ∧ zXR [] 1 7 h0 g ∧ gL g ((h0.length + 1 : Nat) : Int) ∧ cel g ((h0.length + 1 : Nat) : Int) = some (6, [a, v, b, fld h0 v 7, st, d, d]))) := by
  have F := zFr.start C (kd := 6) (n := 7)
  have hlen := C.len
  obtain ⟨r, er⟩ : ∃ r, r = ((h0.length + 1 : Nat) : Int) := ⟨_, rfl⟩
  rw [← er] at F ⊢
  have hr : (h0.length : Int) < r := by omega
  have hv := sh_pos G.2.1
  have hvr : v ≠ r := by omega
  have hb := C.2.1 v 4 19 7 G.1 G.2.1 rfl
  refine zwC_of (D := 1) 5 (by decide +kernel) rfl (ls := [(2, r), (0, a), (2, v), (0, b), (0, d)]) rfl ?_
  refine zwW_p [(1, 0, 2)] (q := 1) (ls' := [(2, r), (0, a), (2, v), (0, b), (0, d)]) (st' := [(2, r)]) (by decide +kernel) rfl ?_
  refine zwW_obj (nx := 4) (by decide +kernel) (by omega) rfl ?_
  refine zwW_p [(1, 0, 2), (1, 1, 0)] (q := 6) (ls' := [(2, r), (0, a), (2, v), (0, b), (0, d)]) (st' := [(0, a), (2, r)]) (by decide +kernel) rfl ?_
  refine zwX_fp (kd := 6) (bn := 0) (t := 0) (nx := 9) (by decide +kernel) F hr rfl rfl (Or.inr q_a) ?_
  intro g1 F o
  refine zwW_p [(1, 0, 2), (1, 2, 2)] (q := 11) (ls' := [(2, r), (0, a), (2, v), (0, b), (0, d)]) (st' := [(2, v), (2, r)]) (by decide +kernel) rfl ?_
  refine zwX_fp (kd := 6) (bn := 1) (t := 2) (nx := 14) (by decide +kernel) F hr rfl rfl (Or.inl (by decide)) ?_
  intro g2 F o
  refine zwW_p [(1, 0, 2), (1, 3, 0)] (q := 16) (ls' := [(2, r), (0, a), (2, v), (0, b), (0, d)]) (st' := [(0, b), (2, r)]) (by decide +kernel) rfl ?_
  refine zwX_fp (kd := 6) (bn := 2) (t := 0) (nx := 19) (by decide +kernel) F hr rfl rfl (Or.inr q_b) ?_
  intro g3 F o
  refine zwW_p [(1, 0, 2), (1, 4, 0)] (q := 22) (ls' := [(2, r), (0, a), (2, v), (0, b), (0, d)]) (st' := [(0, d), (2, r)]) (by decide +kernel) rfl ?_
  refine zwX_fp (kd := 6) (bn := 5) (t := 0) (nx := 25) (by decide +kernel) F hr rfl rfl (Or.inr q_d) ?_
  intro g4 F o
  refine zwW_p [(1, 0, 2), (1, 2, 2)] (q := 27) (ls' := [(2, r), (0, a), (2, v), (0, b), (0, d)]) (st' := [(2, v), (2, r)]) (by decide +kernel) rfl ?_
  refine zwW_get (kd := 4) (bn := 7) (t := 0) (n := 19) (nx := 30) (by decide +kernel) (F.1.sp G.2.1) rfl ?_
  rw [F.1.fl hv.2]
  refine zwX_fp (kd := 6) (bn := 3) (t := 0) (nx := 33) (by decide +kernel) F hr rfl rfl (Or.inr hb) ?_
  intro g5 F o
  refine zwW_p [(1, 0, 2), (1, 2, 2)] (q := 35) (ls' := [(2, r), (0, a), (2, v), (0, b), (0, d)]) (st' := [(2, v), (2, r)]) (by decide +kernel) rfl ?_
  refine zwW_cv (op := 60) (k' := 169) (n := 0) (kd := 4) (m := 19) (nx := 38) (r := v) (tl := []) (st' := [(2, r)]) (by decide +kernel) rfl (by decide +kernel) (F.1.sp G.2.1) (S g5 F.1 (C.old F.1 F.2.1)) rfl ?_
  rintro z _ ⟨rfl, hz⟩
  subst hz
  refine zwX_fp (kd := 6) (bn := 4) (t := 0) (nx := 41) (by decide +kernel) F hr rfl rfl (Or.inr q_st) ?_
  intro g6 F o
  refine zwW_p [(1, 0, 2), (1, 4, 0)] (q := 44) (ls' := [(2, r), (0, a), (2, v), (0, b), (0, d)]) (st' := [(0, d), (2, r)]) (by decide +kernel) rfl ?_
  refine zwX_fp (kd := 6) (bn := 6) (t := 0) (nx := 47) (by decide +kernel) F hr rfl rfl (Or.inr q_d) ?_
  intro g7 F o
  obtain ⟨Cg, R⟩ := F.fin C
  have hc : cel g7 r = some (6, [a, v, b, fld h0 v 7, _, d, d]) := F.2.2.1
  refine zwW_retv (nx := 48) (a := 0) (b := 0) (by decide +kernel) ⟨Cg, R, ⟨by omega, sh_of hc, ?_⟩, hc⟩
  rw [fld_of hc]
  exact G.x R
end YPX
end
section
/-! contracts of the class -/
-- WheelLand$House.couldSpin(I)I
theorem x230_z {sc : List Int} (h : Hp) (C : CI h) (r a : Int) (G_r : gH h r) (q_a : -2147483648 ≤ a ∧ a ≤ 2147483647) (J : yR h) (k : Nat) (P_r : r = zv h 3 k ∧ (k : Int) < fld h 3 2) (B : zBs (yC h)) (pa : a = yC h 37 0 / 13 % 4) : zwC sc 2 230 [(2, r), (0, a)] h (zwRt 0 (fun x g => h = g ∧ (-2147483648 ≤ x ∧ x ≤ 2147483647) ∧ (x = yCan (yC h) k))) := by
  refine zwC_of (D := 1) 2 (by decide +kernel) rfl (ls := [(2, r), (0, a)]) rfl ?_
  have lw_r := G_r.1
  have u0 : yC h 37 0 = fld h 1 0 := rfl
  have u1 : yC h 37 1 = fld h 2 2 := rfl
  have u2 : yC h 37 2 = fld h 3 2 := rfl
  have u64 : yC h 37 64 = fld h 4 2 := rfl
  have u78 : yC h 37 78 = fld h 5 2 := rfl
  have KB := B.1 k (by have := P_r.2; omega)
  have KI := (B.2.1 (yC h 79 k).toNat (by omega)).2
  refine zwW_p [(1, 0, 2)] (q := 1) (ls' := [(2, r), (0, a)]) (st' := [(2, r)]) (by decide +kernel) rfl ?_
  refine zwX_gi C (kd := 4) (bn := 2) (n := 19) (nx := 4) (by decide +kernel) G_r.2.1 G_r.1 rfl ?_
  intro v1 ev1 lv1 uv1
  have sv1 : v1 = (yC h) 80 k := Eq.trans ev1 (Eq.trans (congrArg (fun q => fld h q 2) P_r.1) (Eq.trans (Eq.symm (yC_f (h := h) (a := 80) (A := 3) (j := 2) (i := k) rfl P_r.2)) (Eq.trans (congrFun (congrFun (rfl : yC h = yC h) 80) k) rfl)))
  refine zwW_p [(1, 0, 2)] (q := 5) (ls' := [(2, r), (0, a)]) (st' := [(2, r), (0, v1)]) (by decide +kernel) rfl ?_
  refine zwW_get (kd := 4) (bn := 1) (t := 2) (n := 19) (nx := 8) (by decide +kernel) G_r.2.1 rfl ?_
  obtain ⟨v2, ev2⟩ : ∃ z, z = fld h r 1 := ⟨_, rfl⟩
  rw [← ev2]
  have Gv2 : gV h v2 := by rw [ev2]; exact G_r.2.2
  have lv2 := Gv2.1
  have qv2 : yC h 79 k = (yC h) 79 k := Eq.trans (congrFun (congrFun (rfl : yC h = yC h) 79) k) rfl
  have wv2 := J.r (a := 79) (A := 3) (j := 1) (B := 2) (i := k) rfl P_r.2
  rw [qv2] at wv2
  have pv2 : v2 = zv h 2 (((yC h) 79 k).toNat) ∧ ((((yC h) 79 k).toNat : Nat) : Int) < fld h 2 2 := ⟨by rw [ev2, P_r.1]; exact wv2.2.2, wv2.2.1⟩
  refine zwW_p [(1, 1, 0)] (q := 9) (ls' := [(2, r), (0, a)]) (st' := [(0, a), (2, v2), (0, v1)]) (by decide +kernel) rfl ?_
  refine zwW_cv (op := 60) (k' := 222) (n := 1) (kd := 11) (m := 17) (nx := 12) (r := v2) (tl := [(0, a)]) (st' := [(0, v1)]) (by decide +kernel) rfl (by decide +kernel) Gv2.2.1 (x222_z h C v2 a Gv2 (by omega) J (((yC h) 79 k).toNat) pv2 (by first | omega | exact ⟨by omega, by omega⟩) (KI a.toNat (by omega))) rfl ?_
  rintro v3 _ ⟨rfl, f4, f5⟩
  have sv3 : v3 = yIdl (yC h) (((yC h) 79 k).toNat) a := by rw [f5]
  have I12 : 0 ≤ v3 ∧ v3 ≤ 40 := by rw [sv3]; exact KI a.toNat (by omega)
  refine zwW_mulp (A := 5) (B := 40) (nx := 13) (by decide +kernel) (by first | omega | exact ⟨by omega, by omega⟩) (by first | omega | exact ⟨by omega, by omega⟩) (by decide) ?_
  intro v6 ev6 lv6 uv6
  have Ev6 : v6 = ((yC h) 80 k) * (yIdl (yC h) (((yC h) 79 k).toNat) a) := by rw [ev6, sv1, sv3]
  refine zwW_p [(0, 10, 0), (1, 0, 2)] (q := 16) (ls' := [(2, r), (0, a)]) (st' := [(2, r), (0, 10), (0, v6)]) (by decide +kernel) rfl ?_
  refine zwX_gi C (kd := 4) (bn := 3) (n := 19) (nx := 19) (by decide +kernel) G_r.2.1 G_r.1 rfl ?_
  intro v7 ev7 lv7 uv7
  have sv7 : v7 = (yC h) 81 k := Eq.trans ev7 (Eq.trans (congrArg (fun q => fld h q 3) P_r.1) (Eq.trans (Eq.symm (yC_f (h := h) (a := 81) (A := 3) (j := 3) (i := k) rfl P_r.2)) (Eq.trans (congrFun (congrFun (rfl : yC h = yC h) 81) k) rfl)))
  refine zwW_add (nx := 20) (by decide +kernel) (by first | omega | exact ⟨by omega, by omega⟩) ?_
  refine zwW_mulp (A := 200) (B := 19) (nx := 21) (by decide +kernel) (by first | omega | exact ⟨by omega, by omega⟩) (by first | omega | exact ⟨by omega, by omega⟩) (by decide) ?_
  intro v8 ev8 lv8 uv8
  have Ev8 : v8 = (((yC h) 80 k) * (yIdl (yC h) (((yC h) 79 k).toNat) a)) * (10 + ((yC h) 81 k)) := by rw [ev8, Ev6, sv7]
  refine zwW_p [(0, 24, 0)] (q := 23) (ls' := [(2, r), (0, a)]) (st' := [(0, 24), (0, v8)]) (by decide +kernel) rfl ?_
  refine zwW_div (nx := 24) (by decide +kernel) (by omega) (by omega) (by omega) ?_
  refine zwW_ret (nx := 25) (a := 0) (b := 0) (by decide +kernel) rfl (Or.inl rfl) ?_
  exact ⟨rfl, by omega, by unfold yCan; rw [← pa, ← sv3, ← sv1, ← sv7, ← ev6, ← ev8]⟩
-- WheelLand$House.strength()I
theorem x169_z {sc : List Int} (h : Hp) (C : CI h) (r : Int) (G_r : gH h r) (J : yR h) (k : Nat) (P_r : r = zv h 3 k ∧ (k : Int) < fld h 3 2) : zwC sc 1 169 [(2, r)] h (zwRt 0 (fun x g => h = g ∧ (-2147483648 ≤ x ∧ x ≤ 2147483647) ∧ (x = yStr (yC h) k))) := by
  refine zwC_of (D := 0) 1 (by decide +kernel) rfl (ls := [(2, r)]) rfl ?_
  have lw_r := G_r.1
  have u0 : yC h 37 0 = fld h 1 0 := rfl
  have u1 : yC h 37 1 = fld h 2 2 := rfl
  have u2 : yC h 37 2 = fld h 3 2 := rfl
  have u64 : yC h 37 64 = fld h 4 2 := rfl
  have u78 : yC h 37 78 = fld h 5 2 := rfl
  refine zwW_p [(0, 20, 0), (1, 0, 2)] (q := 3) (ls' := [(2, r)]) (st' := [(2, r), (0, 20)]) (by decide +kernel) rfl ?_
  refine zwW_get (kd := 4) (bn := 1) (t := 2) (n := 19) (nx := 6) (by decide +kernel) G_r.2.1 rfl ?_
  obtain ⟨v1, ev1⟩ : ∃ z, z = fld h r 1 := ⟨_, rfl⟩
  rw [← ev1]
  have Gv1 : gV h v1 := by rw [ev1]; exact G_r.2.2
  have lv1 := Gv1.1
  have qv1 : yC h 79 k = (yC h) 79 k := Eq.trans (congrFun (congrFun (rfl : yC h = yC h) 79) k) rfl
  have wv1 := J.r (a := 79) (A := 3) (j := 1) (B := 2) (i := k) rfl P_r.2
  rw [qv1] at wv1
  have pv1 : v1 = zv h 2 (((yC h) 79 k).toNat) ∧ ((((yC h) 79 k).toNat : Nat) : Int) < fld h 2 2 := ⟨by rw [ev1, P_r.1]; exact wv1.2.2, wv1.2.1⟩
  refine zwX_gi C (kd := 11) (bn := 2) (n := 17) (nx := 9) (by decide +kernel) Gv1.2.1 Gv1.1 rfl ?_
  intro v2 ev2 lv2 uv2
  have sv2 : v2 = (yC h) 65 (((yC h) 79 k).toNat) := Eq.trans ev2 (Eq.trans (congrArg (fun q => fld h q 2) pv1.1) (Eq.trans (Eq.symm (yC_f (h := h) (a := 65) (A := 2) (j := 2) (i := ((yC h) 79 k).toNat) rfl pv1.2)) (Eq.trans (congrFun (congrFun (rfl : yC h = yC h) 65) (((yC h) 79 k).toNat)) rfl)))
  refine zwW_mlw (nx := 10) (by decide +kernel) ?_
  intro v3 ev3 lv3 uv3
  have Ev3 : v3 = w32 (20 * ((yC h) 65 (((yC h) 79 k).toNat))) := by rw [ev3, sv2]
  refine zwW_p [(0, 3, 0), (1, 0, 2)] (q := 12) (ls' := [(2, r)]) (st' := [(2, r), (0, 3), (0, v3)]) (by decide +kernel) rfl ?_
  refine zwX_gi C (kd := 4) (bn := 3) (n := 19) (nx := 15) (by decide +kernel) G_r.2.1 G_r.1 rfl ?_
  intro v4 ev4 lv4 uv4
  have sv4 : v4 = (yC h) 81 k := Eq.trans ev4 (Eq.trans (congrArg (fun q => fld h q 3) P_r.1) (Eq.trans (Eq.symm (yC_f (h := h) (a := 81) (A := 3) (j := 3) (i := k) rfl P_r.2)) (Eq.trans (congrFun (congrFun (rfl : yC h = yC h) 81) k) rfl)))
  refine zwW_mlw (nx := 16) (by decide +kernel) ?_
  intro v5 ev5 lv5 uv5
  have Ev5 : v5 = w32 (3 * ((yC h) 81 k)) := by rw [ev5, sv4]
  refine zwW_adw (nx := 17) (by decide +kernel) ?_
  intro v6 ev6 lv6 uv6
  have Ev6 : v6 = w32 ((w32 (20 * ((yC h) 65 (((yC h) 79 k).toNat)))) + (w32 (3 * ((yC h) 81 k)))) := by rw [ev6, Ev3, Ev5]
  refine zwW_p [(0, 2, 0), (1, 0, 2)] (q := 19) (ls' := [(2, r)]) (st' := [(2, r), (0, 2), (0, v6)]) (by decide +kernel) rfl ?_
  refine zwX_gi C (kd := 4) (bn := 7) (n := 19) (nx := 22) (by decide +kernel) G_r.2.1 G_r.1 rfl ?_
  intro v7 ev7 lv7 uv7
  have sv7 : v7 = (yC h) 85 k := Eq.trans ev7 (Eq.trans (congrArg (fun q => fld h q 7) P_r.1) (Eq.trans (Eq.symm (yC_f (h := h) (a := 85) (A := 3) (j := 7) (i := k) rfl P_r.2)) (Eq.trans (congrFun (congrFun (rfl : yC h = yC h) 85) k) rfl)))
  refine zwW_mlw (nx := 23) (by decide +kernel) ?_
  intro v8 ev8 lv8 uv8
  have Ev8 : v8 = w32 (2 * ((yC h) 85 k)) := by rw [ev8, sv7]
  refine zwW_sbw (nx := 24) (by decide +kernel) ?_
  intro v9 ev9 lv9 uv9
  have Ev9 : v9 = w32 ((w32 ((w32 (20 * ((yC h) 65 (((yC h) 79 k).toNat)))) + (w32 (3 * ((yC h) 81 k))))) - (w32 (2 * ((yC h) 85 k)))) := by rw [ev9, Ev6, Ev8]
  refine zwW_p [(0, 0, 0)] (q := 25) (ls' := [(2, r)]) (st' := [(0, 0), (0, v9)]) (by decide +kernel) rfl ?_
  refine zwW_max (nx := 28) (by decide +kernel) rfl ?_
  intro v10 ev10
  have Ev10 : v10 = max (w32 ((w32 ((w32 (20 * ((yC h) 65 (((yC h) 79 k).toNat)))) + (w32 (3 * ((yC h) 81 k))))) - (w32 (2 * ((yC h) 85 k))))) 0 := by rw [ev10, Ev9]
  refine zwW_ret (nx := 29) (a := 0) (b := 0) (by decide +kernel) rfl (Or.inl rfl) ?_
  exact ⟨rfl, by omega, by unfold yStr; (repeat' (first | rw [if_pos (by omega)] | rw [if_neg (by omega)])); all_goals (first | rfl | omega)⟩
def msx185_z : Zms := [(4, 4, 0, 3), (1004, 1004, 18, 19), (1011, 1011, 3, 4)]
-- WheelLand.spinAll()I
theorem x185_z {sc : List Int} (h : Hp) (C : CI h) (J : yR h) (B0 : zBs (yC h)) (hl : h.length ≤ 999930000) : zwC sc 7 185 [(2, 1)] h (zwRt 0 (fun x g => CI g ∧ zXR msx185_z (0) (0) h g ∧ (-2147483648 ≤ x ∧ x ≤ 2147483647) ∧ (x = yToA (yC h)) ∧ (yC g = yLyA (yC h)) ∧ (yR g))) := by
  refine zwC_of (D := 6) 6 (by decide +kernel) rfl (ls := [(2, 1), (9, 0), (9, 0), (9, 0), (9, 0), (9, 0)]) rfl ?_
  have X : zXR msx185_z 0 0 h h := zXR.rf _ _
  have u0 : yC h 37 0 = fld h 1 0 := rfl
  have u1 : yC h 37 1 = fld h 2 2 := rfl
  have u2 : yC h 37 2 = fld h 3 2 := rfl
  have u64 : yC h 37 64 = fld h 4 2 := rfl
  have u78 : yC h 37 78 = fld h 5 2 := rfl
  have b33 := zLb_3 C
  have TBN := fun n hn => yTo_b B0 (yEp_4 (S := yC h)) n hn
  refine zwW_p [(1, 0, 2)] (q := 1) (ls' := [(2, 1), (9, 0), (9, 0), (9, 0), (9, 0), (9, 0)]) (st' := [(2, 1)]) (by decide +kernel) rfl ?_
  refine zwW_gs C.1 (kd := 12) (bn := 0) (n := 13) (t := 0) (lo := 0) (hi := 156) (nx := 4) (by decide +kernel) ?_
  intro v1 ev1 lv1 uv1
  have sv1 : v1 = (yC h) 37 0 := Eq.trans ev1 (Eq.trans (Eq.symm (yC_s (h := h) (i := 0) rfl)) (Eq.trans (congrFun (congrFun (rfl : yC h = yC h) 37) 0) rfl))
  refine zwW_cs (k' := 162) (n := 1) (nx := 7) (as := [(0, v1)]) (st' := []) (by decide +kernel) rfl (x162 h C v1 (by omega) (by omega)) rfl ?_
  rintro v2 _ ⟨rfl, f3, f4, f5⟩
  refine zwW_p [(2, 1, 0), (0, 0, 0), (2, 2, 0), (0, 0, 0), (2, 3, 0)] (q := 12) (ls' := [(2, 1), (0, v2), (0, 0), (0, 0), (9, 0), (9, 0)]) (st' := []) (by decide +kernel) rfl ?_
  have L6 : ∀ (n0 : Nat) (tL6 kL6 : Int) (w4L6 w5L6 : Vl) (hL6 : Hp), n0 = ((1000 - kL6)).toNat → (tL6 = yTo (yC h) (yEp (yC h)) (kL6).toNat) → (fld hL6 3 2 = fld h 3 2 ∧ fld hL6 1 0 = fld h 1 0 ∧ kL6 ≤ fld h 3 2) → (0 ≤ tL6 ∧ tL6 ≤ 76000) → (0 ≤ kL6 ∧ kL6 ≤ 20) → (yC hL6 = (yLyN (yC h) (kL6).toNat)) → (yR hL6) → CI hL6 → zXR msx185_z (0) (0) h hL6 → zwW sc (6) 185 12 [(2, 1), (0, v2), (0, tL6), (0, kL6), w4L6, w5L6] [] hL6 (zwRt 0 (fun x g => CI g ∧ zXR msx185_z (0) (0) h g ∧ (-2147483648 ≤ x ∧ x ≤ 2147483647) ∧ (x = yToA (yC h)) ∧ (yC g = yLyA (yC h)) ∧ (yR g))) := by
    intro n0
    induction n0 using Nat.strongRecOn with
    | ind n0 IHL6 =>
      intro tL6 kL6 w4L6 w5L6 hL6 hnL6 iL6_0 iL6_1 iL6_2 iL6_3 iL6_4 iL6_5 ChL6 XhL6
      refine zwW_p [(1, 3, 0), (1, 0, 2)] (q := 14) (ls' := [(2, 1), (0, v2), (0, tL6), (0, kL6), w4L6, w5L6]) (st' := [(2, 1), (0, kL6)]) (by decide +kernel) rfl ?_
      refine zwW_gc ChL6.1 (kd := 12) (bn := 3) (n := 13) (c := 3) (nx := 17) (by decide +kernel) ?_
      refine zwW_cm ChL6.1 (op := 60) (k' := 96) (n := 0) (kd := 0) (m := 3) (nx := 20) (r := 3) (tl := []) (st' := [(0, kL6)]) (by decide +kernel) rfl (by decide +kernel) rfl (x96_3 ChL6) ?_
      rintro v7 _ ⟨rfl, ev7⟩
      have bv7 := zLb_3 ChL6
      have sv7 : v7 = (yLyN (yC h) (kL6).toNat) 37 2 := Eq.trans ev7 (Eq.trans (Eq.symm (yC_s (h := hL6) (i := 2) rfl)) (Eq.trans (congrFun (congrFun iL6_4 37) 2) rfl))
      refine zwic_ge (q := 129) (nx := 23) (by decide +kernel) (fun c8 => ?_) (fun c8 => ?_)
      · refine zwW_p [(1, 2, 0)] (q := 130) (ls' := [(2, 1), (0, v2), (0, tL6), (0, kL6), w4L6, w5L6]) (st' := [(0, tL6)]) (by decide +kernel) rfl ?_
        refine zwW_ret (nx := 131) (a := 0) (b := 0) (by decide +kernel) rfl (Or.inl rfl) ?_
        exact ⟨ChL6, XhL6.le (by decide) (by decide), by omega, by unfold yToA; rw [show (yC h 37 2).toNat = (kL6).toNat by omega]; exact iL6_0, by refine Eq.trans iL6_4 ?_; unfold yLyA; rw [show (yC h 37 2).toNat = (kL6).toNat by omega], by exact iL6_5⟩
      · refine zwW_p [(1, 0, 2)] (q := 24) (ls' := [(2, 1), (0, v2), (0, tL6), (0, kL6), w4L6, w5L6]) (st' := [(2, 1)]) (by decide +kernel) rfl ?_
        refine zwW_gc ChL6.1 (kd := 12) (bn := 3) (n := 13) (c := 3) (nx := 27) (by decide +kernel) ?_
        refine zwW_p [(1, 3, 0)] (q := 28) (ls' := [(2, 1), (0, v2), (0, tL6), (0, kL6), w4L6, w5L6]) (st' := [(0, kL6), (2, 3)]) (by decide +kernel) rfl ?_
        refine zwW_cm ChL6.1 (op := 60) (k' := 123) (n := 1) (kd := 0) (m := 3) (nx := 31) (r := 3) (tl := [(0, kL6)]) (st' := []) (by decide +kernel) rfl (by decide +kernel) rfl (x123_3 ChL6 (i := kL6) (by first | omega | exact ⟨by omega, by omega⟩)) ?_
        rintro v9 _ ⟨rfl, Gv9, ev9⟩
        have lv9 := Gv9.1
        have pv9 : v9 = zv hL6 3 kL6.toNat ∧ ((kL6.toNat : Nat) : Int) < fld hL6 3 2 := ⟨ev9, by omega⟩
        refine zwW_cast (a := 4) (kd := 4) (n := 19) (nx := 34) (by decide +kernel) rfl (Or.inr Gv9.2.1) ?_
        refine zwW_p [(2, 4, 2)] (q := 36) (ls' := [(2, 1), (0, v2), (0, tL6), (0, kL6), (2, v9), w5L6]) (st' := []) (by decide +kernel) rfl ?_
        have EL := yLyN_e B0 (k := (kL6).toNat) (by omega)
        have BT := B0.lyn (k := (kL6).toNat) (by omega)
        have KB := BT.1 (kL6).toNat (by rw [EL.2.1]; omega)
        have KV := (BT.2.1 ((yLyN (yC h) (kL6).toNat) 79 (kL6).toNat).toNat (by omega)).1
        have P36 := pv9
        have Z36 := iL6_4
        have YT : yTo (yC h) (yEp (yC h)) ((kL6).toNat + 1) = yTo (yC h) (yEp (yC h)) (kL6).toNat + yX (yLyN (yC h) (kL6).toNat) (yEp (yLyN (yC h) (kL6).toNat)) (kL6).toNat := yTo_ly B0 (by omega)
        have T1 := TBN ((kL6).toNat + 1) (by omega)
        have T0 := TBN (kL6).toNat (by omega)
        have XB := yX_b BT (yEp_4 (S := (yLyN (yC h) (kL6).toNat))) (k := (kL6).toNat) (by rw [EL.2.1]; omega)
        refine zwW_p [(1, 4, 2), (12, 0, 0)] (q := 39) (ls' := [(2, 1), (0, v2), (0, tL6), (0, kL6), (2, v9), w5L6]) (st' := [(2, v9), (2, v9)]) (by decide +kernel) rfl ?_
        refine zwX_gi ChL6 (kd := 4) (bn := 18) (n := 19) (nx := 42) (by decide +kernel) Gv9.2.1 Gv9.1 rfl ?_
        intro v10 ev10 lv10 uv10
        have sv10 : v10 = (yLyN (yC h) (kL6).toNat) 95 kL6.toNat := Eq.trans ev10 (Eq.trans (congrArg (fun q => fld hL6 q 18) pv9.1) (Eq.trans (Eq.symm (yC_f (h := hL6) (a := 95) (A := 3) (j := 18) (i := kL6.toNat) rfl pv9.2)) (Eq.trans (congrFun (congrFun iL6_4 95) kL6.toNat) rfl)))
        refine zwW_p [(1, 4, 2), (1, 1, 0)] (q := 45) (ls' := [(2, 1), (0, v2), (0, tL6), (0, kL6), (2, v9), w5L6]) (st' := [(0, v2), (2, v9), (0, v10), (2, v9)]) (by decide +kernel) rfl ?_
        refine zwW_cv (op := 60) (k' := 230) (n := 1) (kd := 4) (m := 19) (nx := 48) (r := v9) (tl := [(0, v2)]) (st' := [(0, v10), (2, v9)]) (by decide +kernel) rfl (by decide +kernel) Gv9.2.1 (x230_z hL6 ChL6 v9 v2 Gv9 (by omega) iL6_5 kL6.toNat pv9 (by rw [iL6_4]; exact BT) (by rw [iL6_4, EL.2.2.2]; omega)) rfl ?_
        rintro v11 _ ⟨rfl, f12, f13⟩
        have sv11 : v11 = yCan (yLyN (yC h) (kL6).toNat) kL6.toNat := by rw [f13, iL6_4]
        refine zwW_adw (nx := 49) (by decide +kernel) ?_
        intro v14 ev14 lv14 uv14
        have Ev14 : v14 = w32 (((yLyN (yC h) (kL6).toNat) 95 kL6.toNat) + (yCan (yLyN (yC h) (kL6).toNat) kL6.toNat)) := by rw [ev14, sv10, sv11]
        refine zwX_pi ChL6 (kd := 4) (bn := 18) (n := 19) (nx := 52) (by decide +kernel) Gv9.2.1 Gv9.1 (by first | omega | exact ⟨by omega, by omega⟩) ?_
        rintro h15 eh15 Ch15 Qh15
        have Zh15 : yC h15 = (zs (yLyN (yC h) (kL6).toNat) 95 kL6.toNat (w32 (((yLyN (yC h) (kL6).toNat) 95 kL6.toNat) + (yCan (yLyN (yC h) (kL6).toNat) kL6.toNat)))) := by rw [yC_w (a := 95) (A := 3) (j := 18) (k := kL6.toNat) ChL6 iL6_5 rfl pv9 eh15, iL6_4, Ev14]
        have Xh15 : zXR msx185_z (0) (0) h h15 := XhL6.tr (c2 := 0) (s2 := 0) Qh15 (by decide +kernel) (by decide) (by decide)
        have Gh15_0 : gH h15 v9 := Gv9.x Qh15
        have Jh15 : yR h15 := iL6_5.fr ChL6 Qh15 (by decide +kernel)
        have pv9_h15 : v9 = zv h15 3 kL6.toNat ∧ ((kL6.toNat : Nat) : Int) < fld h15 3 2 := zpv ChL6 Qh15 (A := 3) (by decide) (by decide +kernel) pv9
        have th15_1_0 : fld h15 1 0 = fld hL6 1 0 := Qh15.f (a1 := 1) (a2 := 1) (j1 := 0) (j2 := 1) (by decide +kernel) (by first | decide | exact ⟨by decide, by decide⟩) (by first | decide | exact ⟨by decide, by decide⟩) (by first | decide | exact ⟨by decide, by decide⟩)
        have th15_3_2 : fld h15 3 2 = fld hL6 3 2 := Qh15.f (a1 := 3) (a2 := 3) (j1 := 2) (j2 := 3) (by decide +kernel) (by first | decide | exact ⟨by decide, by decide⟩) (by first | decide | exact ⟨by decide, by decide⟩) (by first | decide | exact ⟨by decide, by decide⟩)
        have th15_4_2 : fld h15 4 2 = fld hL6 4 2 := Qh15.f (a1 := 4) (a2 := 4) (j1 := 2) (j2 := 3) (by decide +kernel) (by first | decide | exact ⟨by decide, by decide⟩) (by first | decide | exact ⟨by decide, by decide⟩) (by first | decide | exact ⟨by decide, by decide⟩)
        refine zwW_p [(1, 0, 2), (1, 4, 2)] (q := 55) (ls' := [(2, 1), (0, v2), (0, tL6), (0, kL6), (2, v9), w5L6]) (st' := [(2, v9), (2, 1)]) (by decide +kernel) rfl ?_
        refine zwW_cm Ch15.1 (op := 60) (k' := 170) (n := 1) (kd := 12) (m := 13) (nx := 58) (r := 1) (tl := [(2, v9)]) (st' := []) (by decide +kernel) rfl (by decide +kernel) rfl (x170_s h15 Ch15 v9 (yLyN (yC h) (kL6).toNat) (kL6).toNat Gh15_0 (zX_of Ch15 Jh15 Zh15 (by decide) BT) BT (by rw [EL.2.1]; omega) pv9_h15.1) ?_
        rintro v16 _ ⟨rfl, f17, f18, f19⟩
        have U58 : v16 = yX (yLyN (yC h) (kL6).toNat) (yEp (yLyN (yC h) (kL6).toNat)) (kL6).toNat := f19.1
        refine zwW_p [(2, 5, 0), (1, 5, 0)] (q := 62) (ls' := [(2, 1), (0, v2), (0, tL6), (0, kL6), (2, v9), (0, v16)]) (st' := [(0, v16)]) (by decide +kernel) rfl ?_
        refine zwif_le (q := 123) (nx := 65) (by decide +kernel) (fun c20 => ?_) (fun c20 => ?_)
        · refine zwW_inc (i := 3) (c := 1) (x := kL6) (nx := 126) (by decide +kernel) rfl (by first | omega | exact ⟨by omega, by omega⟩) (ls' := [(2, 1), (0, v2), (0, tL6), (0, (kL6 + 1)), (2, v9), (0, v16)]) rfl ?_
          refine zwW_p [(24, 12, 0)] (q := 12) (ls' := [(2, 1), (0, v2), (0, tL6), (0, (kL6 + 1)), (2, v9), (0, v16)]) (st' := []) (by decide +kernel) rfl ?_
          exact IHL6 ((1000 - (kL6 + 1))).toNat (by omega) tL6 (kL6 + 1) (2, v9) (0, v16) h15 rfl (by rw [show (kL6 + 1).toNat = (kL6).toNat + 1 by omega, YT]; omega) (by omega) (by omega) (by omega) (by rw [show (kL6 + 1).toNat = (kL6).toNat + 1 by omega, yLyN_s]; first | exact Zh15.trans K117 | (unfold yLy1; rw [if_neg (by omega)]; exact Zh15)) (Jh15) Ch15 (Xh15.le (by decide) (by decide))
        · refine zwW_p [(1, 4, 2)] (q := 67) (ls' := [(2, 1), (0, v2), (0, tL6), (0, kL6), (2, v9), (0, v16)]) (st' := [(2, v9)]) (by decide +kernel) rfl ?_
          refine zwW_get (kd := 4) (bn := 1) (t := 2) (n := 19) (nx := 70) (by decide +kernel) Gh15_0.2.1 rfl ?_
          obtain ⟨v21, ev21⟩ : ∃ z, z = fld h15 v9 1 := ⟨_, rfl⟩
          rw [← ev21]
          have Gv21 : gV h15 v21 := by rw [ev21]; exact Gh15_0.2.2
          have lv21 := Gv21.1
          have qv21 : yC h15 79 kL6.toNat = (yLyN (yC h) (kL6).toNat) 79 kL6.toNat := Eq.trans (congrFun (congrFun Zh15 79) kL6.toNat) (Eq.trans (zs_na (by decide) : (zs (yLyN (yC h) (kL6).toNat) 95 kL6.toNat (w32 (((yLyN (yC h) (kL6).toNat) 95 kL6.toNat) + (yCan (yLyN (yC h) (kL6).toNat) kL6.toNat)))) 79 kL6.toNat = (yLyN (yC h) (kL6).toNat) 79 kL6.toNat) rfl)
          have wv21 := Jh15.r (a := 79) (A := 3) (j := 1) (B := 2) (i := kL6.toNat) rfl pv9_h15.2
          rw [qv21] at wv21
          have pv21 : v21 = zv h15 2 (((yLyN (yC h) (kL6).toNat) 79 kL6.toNat).toNat) ∧ ((((yLyN (yC h) (kL6).toNat) 79 kL6.toNat).toNat : Nat) : Int) < fld h15 2 2 := ⟨by rw [ev21, pv9_h15.1]; exact wv21.2.2, wv21.2.1⟩
          refine zwW_p [(12, 0, 0)] (q := 71) (ls' := [(2, 1), (0, v2), (0, tL6), (0, kL6), (2, v9), (0, v16)]) (st' := [(2, v21), (2, v21)]) (by decide +kernel) rfl ?_
          refine zwX_gi Ch15 (kd := 11) (bn := 3) (n := 17) (nx := 74) (by decide +kernel) Gv21.2.1 Gv21.1 rfl ?_
          intro v22 ev22 lv22 uv22
          have sv22 : v22 = (yLyN (yC h) (kL6).toNat) 66 (((yLyN (yC h) (kL6).toNat) 79 kL6.toNat).toNat) := Eq.trans ev22 (Eq.trans (congrArg (fun q => fld h15 q 3) pv21.1) (Eq.trans (Eq.symm (yC_f (h := h15) (a := 66) (A := 2) (j := 3) (i := ((yLyN (yC h) (kL6).toNat) 79 kL6.toNat).toNat) rfl pv21.2)) (Eq.trans (congrFun (congrFun Zh15 66) (((yLyN (yC h) (kL6).toNat) 79 kL6.toNat).toNat)) (Eq.trans (zs_na (by decide) : (zs (yLyN (yC h) (kL6).toNat) 95 kL6.toNat (w32 (((yLyN (yC h) (kL6).toNat) 95 kL6.toNat) + (yCan (yLyN (yC h) (kL6).toNat) kL6.toNat)))) 66 (((yLyN (yC h) (kL6).toNat) 79 kL6.toNat).toNat) = (yLyN (yC h) (kL6).toNat) 66 (((yLyN (yC h) (kL6).toNat) 79 kL6.toNat).toNat)) rfl))))
          refine zwW_p [(1, 5, 0), (1, 4, 2)] (q := 78) (ls' := [(2, 1), (0, v2), (0, tL6), (0, kL6), (2, v9), (0, v16)]) (st' := [(2, v9), (0, v16), (0, v22), (2, v21)]) (by decide +kernel) rfl ?_
          refine zwX_gi Ch15 (kd := 4) (bn := 7) (n := 19) (nx := 81) (by decide +kernel) Gh15_0.2.1 Gh15_0.1 rfl ?_
          intro v23 ev23 lv23 uv23
          have sv23 : v23 = (yLyN (yC h) (kL6).toNat) 85 kL6.toNat := Eq.trans ev23 (Eq.trans (congrArg (fun q => fld h15 q 7) pv9_h15.1) (Eq.trans (Eq.symm (yC_f (h := h15) (a := 85) (A := 3) (j := 7) (i := kL6.toNat) rfl pv9_h15.2)) (Eq.trans (congrFun (congrFun Zh15 85) kL6.toNat) (Eq.trans (zs_na (by decide) : (zs (yLyN (yC h) (kL6).toNat) 95 kL6.toNat (w32 (((yLyN (yC h) (kL6).toNat) 95 kL6.toNat) + (yCan (yLyN (yC h) (kL6).toNat) kL6.toNat)))) 85 kL6.toNat = (yLyN (yC h) (kL6).toNat) 85 kL6.toNat) rfl))))
          refine zwW_cs (k' := 151) (n := 2) (nx := 84) (as := [(0, v16), (0, v23)]) (st' := [(0, v22), (2, v21)]) (by decide +kernel) rfl (x151_s h15 Ch15 v16 v23 (by omega) (by omega) (by first | omega | exact ⟨by omega, by omega⟩) (by first | omega | exact ⟨by omega, by omega⟩)) rfl ?_
          rintro v24 _ ⟨rfl, f25, f26⟩
          refine zwW_sub (nx := 85) (by decide +kernel) (by first | omega | exact ⟨by omega, by omega⟩) ?_
          have V85 : (yLyN (yC h) (kL6).toNat) 66 ((yLyN (yC h) (kL6).toNat) 79 (kL6).toNat).toNat - v24 = (yLyN (yC h) (kL6).toNat) 66 ((yLyN (yC h) (kL6).toNat) 79 (kL6).toNat).toNat - (yX (yLyN (yC h) (kL6).toNat) (yEp (yLyN (yC h) (kL6).toNat)) (kL6).toNat + (yLyN (yC h) (kL6).toNat) 85 (kL6).toNat - 1) / (yLyN (yC h) (kL6).toNat) 85 (kL6).toNat := by
            obtain ⟨f1, -, -⟩ := f26
            rw [← U58, f1, sv23]
          refine zwX_pi Ch15 (kd := 11) (bn := 3) (n := 17) (nx := 88) (by decide +kernel) Gv21.2.1 Gv21.1 (by first | omega | exact ⟨by omega, by omega⟩) ?_
          rintro h27 eh27 Ch27 Qh27
          have Uh27 : yC h27 = (zs (zs (yLyN (yC h) (kL6).toNat) 95 kL6.toNat (w32 (((yLyN (yC h) (kL6).toNat) 95 kL6.toNat) + (yCan (yLyN (yC h) (kL6).toNat) kL6.toNat)))) 66 (((yLyN (yC h) (kL6).toNat) 79 kL6.toNat).toNat) (((yLyN (yC h) (kL6).toNat) 66 (((yLyN (yC h) (kL6).toNat) 79 kL6.toNat).toNat)) - v24)) := by rw [yC_w (a := 66) (A := 2) (j := 3) (k := ((yLyN (yC h) (kL6).toNat) 79 kL6.toNat).toNat) Ch15 Jh15 rfl pv21 eh27, Zh15, sv22]
          have Zh27 : yC h27 = (zs (zs (yLyN (yC h) (kL6).toNat) 66 (((yLyN (yC h) (kL6).toNat) 79 kL6.toNat).toNat) (((yLyN (yC h) (kL6).toNat) 66 (((yLyN (yC h) (kL6).toNat) 79 kL6.toNat).toNat)) - v24)) 95 kL6.toNat (w32 (((yLyN (yC h) (kL6).toNat) 95 kL6.toNat) + (yCan (yLyN (yC h) (kL6).toNat) kL6.toNat)))) := by rw [Uh27, zs_sw (a := 95) (b := 66) (by decide)]
          have Xh27 : zXR msx185_z (0) (0) h h27 := Xh15.tr (c2 := 0) (s2 := 0) Qh27 (by decide +kernel) (by decide) (by decide)
          have Gh27_0 : gH h27 v9 := Gh15_0.x Qh27
          have Jh27 : yR h27 := Jh15.fr Ch15 Qh27 (by decide +kernel)
          have pv9_h27 : v9 = zv h27 3 kL6.toNat ∧ ((kL6.toNat : Nat) : Int) < fld h27 3 2 := zpv Ch15 Qh27 (A := 3) (by decide) (by decide +kernel) pv9_h15
          have th27_1_0 : fld h27 1 0 = fld h15 1 0 := Qh27.f (a1 := 1) (a2 := 1) (j1 := 0) (j2 := 1) (by decide +kernel) (by first | decide | exact ⟨by decide, by decide⟩) (by first | decide | exact ⟨by decide, by decide⟩) (by first | decide | exact ⟨by decide, by decide⟩)
          have th27_3_2 : fld h27 3 2 = fld h15 3 2 := Qh27.f (a1 := 3) (a2 := 3) (j1 := 2) (j2 := 3) (by decide +kernel) (by first | decide | exact ⟨by decide, by decide⟩) (by first | decide | exact ⟨by decide, by decide⟩) (by first | decide | exact ⟨by decide, by decide⟩)
          have th27_4_2 : fld h27 4 2 = fld h15 4 2 := Qh27.f (a1 := 4) (a2 := 4) (j1 := 2) (j2 := 3) (by decide +kernel) (by first | decide | exact ⟨by decide, by decide⟩) (by first | decide | exact ⟨by decide, by decide⟩) (by first | decide | exact ⟨by decide, by decide⟩)
          refine zwW_p [(1, 0, 2)] (q := 89) (ls' := [(2, 1), (0, v2), (0, tL6), (0, kL6), (2, v9), (0, v16)]) (st' := [(2, 1)]) (by decide +kernel) rfl ?_
          refine zwW_gc Ch27.1 (kd := 12) (bn := 4) (n := 13) (c := 4) (nx := 92) (by decide +kernel) ?_
          have Q85 : fld h27 v9 7 = (yLyN (yC h) (kL6).toNat) 85 (kL6).toNat := (congrArg (fun q => fld h27 q 7) pv9_h27.1).trans ((Eq.symm (yC_f (h := h27) (a := 85) (A := 3) (j := 7) (i := (kL6).toNat) rfl pv9_h27.2)).trans ((congrFun (congrFun Zh27 85) (kL6).toNat).trans ((zs_na (by decide)).trans (zs_na (by decide)))))
          have QS : yStr (yC h27) (kL6).toNat = yStr (yLyN (yC h) (kL6).toNat) (kL6).toNat := by
            rw [Zh27]
            unfold yStr
            simp (disch := decide) only [zs_na]
          refine zwW_new (kd := 6) (n := 7) (nx := 95) (by decide +kernel) rfl rfl ?_
          rintro h28 r29 eh28 er29
          have Oh28 : zOld h27 h28 := by rw [eh28]; exact zOld.app _
          have Yh28 : zDy h28 := by rw [eh28]; exact Ch27.2.1.app (fun x hx => by rw [List.eq_of_mem_replicate hx]; decide)
          have Ch28 : CI h28 := Ch27.old Oh28 Yh28
          have Xh28 := Oh28.X Ch27
          have th28_1_0 : fld h28 1 0 = fld h27 1 0 := Xh28.f (a1 := 1) (a2 := 1) (j1 := 0) (j2 := 1) (by decide +kernel) (by first | decide | exact ⟨by decide, by decide⟩) (by first | decide | exact ⟨by decide, by decide⟩) (by first | decide | exact ⟨by decide, by decide⟩)
          have th28_3_2 : fld h28 3 2 = fld h27 3 2 := Xh28.f (a1 := 3) (a2 := 3) (j1 := 2) (j2 := 3) (by decide +kernel) (by first | decide | exact ⟨by decide, by decide⟩) (by first | decide | exact ⟨by decide, by decide⟩) (by first | decide | exact ⟨by decide, by decide⟩)
          have th28_4_2 : fld h28 4 2 = fld h27 4 2 := Xh28.f (a1 := 4) (a2 := 4) (j1 := 2) (j2 := 3) (by decide +kernel) (by first | decide | exact ⟨by decide, by decide⟩) (by first | decide | exact ⟨by decide, by decide⟩) (by first | decide | exact ⟨by decide, by decide⟩)
          have Gh28_0 : gH h28 v9 := Gh27_0.x Xh28
          have Zh28 : yC h28 = (zs (zs (yLyN (yC h) (kL6).toNat) 66 (((yLyN (yC h) (kL6).toNat) 79 kL6.toNat).toNat) (((yLyN (yC h) (kL6).toNat) 66 (((yLyN (yC h) (kL6).toNat) 79 kL6.toNat).toNat)) - v24)) 95 kL6.toNat (w32 (((yLyN (yC h) (kL6).toNat) 95 kL6.toNat) + (yCan (yLyN (yC h) (kL6).toNat) kL6.toNat)))) := (yC_fr Ch27 Xh28 (by decide +kernel) (Ch27.1.b (a1 := 37) (a2 := 37) (j1 := 86) (j2 := 87) (lo := 0) (hi := 6) (by decide +kernel) (r := 37) (j := 86) (by decide) (by decide) (by decide) (by decide)).2).trans Zh27
          refine zwW_p [(12, 0, 0), (1, 0, 2)] (q := 97) (ls' := [(2, 1), (0, v2), (0, tL6), (0, kL6), (2, v9), (0, v16)]) (st' := [(2, 1), (2, r29), (2, r29), (2, 4)]) (by decide +kernel) rfl ?_
          refine zwW_gc Ch28.1 (kd := 12) (bn := 4) (n := 13) (c := 4) (nx := 100) (by decide +kernel) ?_
          refine zwW_cm Ch28.1 (op := 60) (k' := 96) (n := 0) (kd := 0) (m := 3) (nx := 103) (r := 4) (tl := []) (st' := [(2, r29), (2, r29), (2, 4)]) (by decide +kernel) rfl (by decide +kernel) rfl (x96_4 Ch28) ?_
          rintro v30 _ ⟨rfl, ev30⟩
          have bv30 := zLb_4 Ch28
          have sv30 : v30 = (yLyN (yC h) (kL6).toNat) 37 64 := Eq.trans ev30 (Eq.trans (Eq.symm (yC_s (h := h28) (i := 64) rfl)) (Eq.trans (congrFun (congrFun Zh28 37) 64) (Eq.trans (zs_na (by decide) : (zs (zs (yLyN (yC h) (kL6).toNat) 66 (((yLyN (yC h) (kL6).toNat) 79 kL6.toNat).toNat) (((yLyN (yC h) (kL6).toNat) 66 (((yLyN (yC h) (kL6).toNat) 79 kL6.toNat).toNat)) - v24)) 95 kL6.toNat (w32 (((yLyN (yC h) (kL6).toNat) 95 kL6.toNat) + (yCan (yLyN (yC h) (kL6).toNat) kL6.toNat)))) 37 64 = (zs (yLyN (yC h) (kL6).toNat) 66 (((yLyN (yC h) (kL6).toNat) 79 kL6.toNat).toNat) (((yLyN (yC h) (kL6).toNat) 66 (((yLyN (yC h) (kL6).toNat) 79 kL6.toNat).toNat)) - v24)) 37 64) (Eq.trans (zs_na (by decide) : (zs (yLyN (yC h) (kL6).toNat) 66 (((yLyN (yC h) (kL6).toNat) 79 kL6.toNat).toNat) (((yLyN (yC h) (kL6).toNat) 66 (((yLyN (yC h) (kL6).toNat) 79 kL6.toNat).toNat)) - v24)) 37 64 = (yLyN (yC h) (kL6).toNat) 37 64) rfl))))
          refine zwW_p [(1, 4, 2), (1, 0, 2)] (q := 106) (ls' := [(2, 1), (0, v2), (0, tL6), (0, kL6), (2, v9), (0, v16)]) (st' := [(2, 1), (2, v9), (0, v30), (2, r29), (2, r29), (2, 4)]) (by decide +kernel) rfl ?_
          refine zwW_gs Ch28.1 (kd := 12) (bn := 0) (n := 13) (t := 0) (lo := 0) (hi := 156) (nx := 109) (by decide +kernel) ?_
          intro v31 ev31 lv31 uv31
          have sv31 : v31 = (yLyN (yC h) (kL6).toNat) 37 0 := Eq.trans ev31 (Eq.trans (Eq.symm (yC_s (h := h28) (i := 0) rfl)) (Eq.trans (congrFun (congrFun Zh28 37) 0) (Eq.trans (zs_na (by decide) : (zs (zs (yLyN (yC h) (kL6).toNat) 66 (((yLyN (yC h) (kL6).toNat) 79 kL6.toNat).toNat) (((yLyN (yC h) (kL6).toNat) 66 (((yLyN (yC h) (kL6).toNat) 79 kL6.toNat).toNat)) - v24)) 95 kL6.toNat (w32 (((yLyN (yC h) (kL6).toNat) 95 kL6.toNat) + (yCan (yLyN (yC h) (kL6).toNat) kL6.toNat)))) 37 0 = (zs (yLyN (yC h) (kL6).toNat) 66 (((yLyN (yC h) (kL6).toNat) 79 kL6.toNat).toNat) (((yLyN (yC h) (kL6).toNat) 66 (((yLyN (yC h) (kL6).toNat) 79 kL6.toNat).toNat)) - v24)) 37 0) (Eq.trans (zs_na (by decide) : (zs (yLyN (yC h) (kL6).toNat) 66 (((yLyN (yC h) (kL6).toNat) 79 kL6.toNat).toNat) (((yLyN (yC h) (kL6).toNat) 66 (((yLyN (yC h) (kL6).toNat) 79 kL6.toNat).toNat)) - v24)) 37 0 = (yLyN (yC h) (kL6).toNat) 37 0) rfl))))
          refine zwW_p [(1, 5, 0)] (q := 111) (ls' := [(2, 1), (0, v2), (0, tL6), (0, kL6), (2, v9), (0, v16)]) (st' := [(0, v16), (0, v31), (2, v9), (0, v30), (2, r29), (2, r29), (2, 4)]) (by decide +kernel) rfl ?_
          subst er29 eh28
          refine zwW_cvv (op := 62) (k' := 231) (n := 4) (kd := 6) (m := 7) (nx := 114) (r := ((h27.length + 1 : Nat) : Int)) (tl := [(0, v30), (2, v9), (0, v31), (0, v16)]) (st' := [(2, ((h27.length + 1 : Nat) : Int)), (2, 4)]) (by decide +kernel) rfl (by decide +kernel) (sh_new _ _) (x231_z h27 Ch27 v30 v9 v31 v16 (by omega) (by omega) (by omega) Gh27_0 (fun g O Cg => zwC_to (x169_z g Cg v9 (Gh27_0.x (O.X Ch27)) (Jh27.fr Ch27 (O.X Ch27) (by decide +kernel)) (kL6).toNat (zpv Ch27 (O.X Ch27) (A := 3) (by decide) (by decide +kernel) pv9_h27)) (fun rr gg w => by obtain ⟨x, e, w1, w2, w3⟩ := w; exact ⟨x, e, w1, w3.trans (by rw [yC_fr Ch27 (O.X Ch27) (by decide +kernel) (Ch27.1.b (a1 := 37) (a2 := 37) (j1 := 86) (j2 := 87) (lo := 0) (hi := 6) (by decide +kernel) (r := 37) (j := 86) (by decide) (by decide) (by decide) (by decide)).2])⟩)) yStr_in (st := yStr (yC h27) (kL6).toNat)) rfl ?_
          rintro h32 ⟨Ch32, Qh32, Nh32, Fh32_0⟩
          obtain ⟨nr29, err29⟩ : ∃ z, z = ((h27.length + 1 : Nat) : Int) := ⟨_, rfl⟩
          rw [← err29] at Nh32 ⊢
          try rw [← err29] at Fh32_0
          have Xh32 : zXR msx185_z (1) (7) h h32 := Xh27.tr (c2 := 1) (s2 := 7) Qh32 (by decide +kernel) (by decide) (by decide)
          have Gh32_0 : gH h32 v9 := Gh27_0.x Qh32
          have Zh32 : yC h32 = (zs (zs (yLyN (yC h) (kL6).toNat) 66 (((yLyN (yC h) (kL6).toNat) 79 kL6.toNat).toNat) (((yLyN (yC h) (kL6).toNat) 66 (((yLyN (yC h) (kL6).toNat) 79 kL6.toNat).toNat)) - v24)) 95 kL6.toNat (w32 (((yLyN (yC h) (kL6).toNat) 95 kL6.toNat) + (yCan (yLyN (yC h) (kL6).toNat) kL6.toNat)))) := (yC_fr Ch27 Qh32 (by decide +kernel) (Ch27.1.b (a1 := 37) (a2 := 37) (j1 := 86) (j2 := 87) (lo := 0) (hi := 6) (by decide +kernel) (r := 37) (j := 86) (by decide) (by decide) (by decide) (by decide)).2).trans Zh27
          have Jh32 : yR h32 := Jh27.fr Ch27 Qh32 (by decide +kernel)
          have pv9_h32 : v9 = zv h32 3 kL6.toNat ∧ ((kL6.toNat : Nat) : Int) < fld h32 3 2 := zpv Ch27 Qh32 (A := 3) (by decide) (by decide +kernel) pv9_h27
          have th32_1_0 : fld h32 1 0 = fld h27 1 0 := Qh32.f (a1 := 1) (a2 := 1) (j1 := 0) (j2 := 1) (by decide +kernel) (by first | decide | exact ⟨by decide, by decide⟩) (by first | decide | exact ⟨by decide, by decide⟩) (by first | decide | exact ⟨by decide, by decide⟩)
          have th32_3_2 : fld h32 3 2 = fld h27 3 2 := Qh32.f (a1 := 3) (a2 := 3) (j1 := 2) (j2 := 3) (by decide +kernel) (by first | decide | exact ⟨by decide, by decide⟩) (by first | decide | exact ⟨by decide, by decide⟩) (by first | decide | exact ⟨by decide, by decide⟩)
          have th32_4_2 : fld h32 4 2 = fld h27 4 2 := Qh32.f (a1 := 4) (a2 := 4) (j1 := 2) (j2 := 3) (by decide +kernel) (by first | decide | exact ⟨by decide, by decide⟩) (by first | decide | exact ⟨by decide, by decide⟩) (by first | decide | exact ⟨by decide, by decide⟩)
          have lnr29 := Nh32.1
          refine zwW_cm Ch32.1 (op := 60) (k' := 100) (n := 1) (kd := 0) (m := 3) (nx := 117) (r := 4) (tl := [(2, nr29)]) (st' := []) (by decide +kernel) rfl (by decide +kernel) rfl (x100_4 Ch32 Nh32 (by omega) (by have := Xh32.hl C Ch32 (by decide) hl; omega)) ?_
          rintro x h34 ⟨rfl, Ah34⟩
          have Ch34 := Ah34.1
          have Qh34 : zXR [(4, 4, 0, 3)] (-1) (-7) h32 h34 := Ah34.2.1
          have zh34 : fld h34 4 2 = fld h32 4 2 + 1 := Ah34.2.2.1
          have YLh34 := yC_lot2 Ch32 Jh32 Ah34 Nh32 Fh32_0 (n := (v30).toNat) (k := (kL6).toNat) (by omega) (by omega) pv9_h32.1 pv9_h32.2
          have JLh34 := yR_lot Ch32 Jh32 Ah34 Nh32 Fh32_0 (n := (v30).toNat) (k := (kL6).toNat) (by omega) (by omega) pv9_h32.1 pv9_h32.2
          have Zh34 : yC h34 = (zs (zs (zs (zs (zs (zs (zs (zs (zs (yLyN (yC h) (kL6).toNat) 66 (((yLyN (yC h) (kL6).toNat) 79 kL6.toNat).toNat) (((yLyN (yC h) (kL6).toNat) 66 (((yLyN (yC h) (kL6).toNat) 79 kL6.toNat).toNat)) - v24)) 95 kL6.toNat (w32 (((yLyN (yC h) (kL6).toNat) 95 kL6.toNat) + (yCan (yLyN (yC h) (kL6).toNat) kL6.toNat)))) 170 ((v30).toNat) (((kL6).toNat : Nat) : Int)) 171 ((v30).toNat) v31) 172 ((v30).toNat) (fld h27 v9 7)) 173 ((v30).toNat) (yStr (yC h27) (kL6).toNat)) 174 ((v30).toNat) v16) 175 ((v30).toNat) v16) 37 64 ((((v30).toNat : Nat) : Int) + 1)) := by rw [YLh34, Zh32]
          have Xh34 : zXR msx185_z (0) (0) h h34 := Xh32.tr (c2 := 0) (s2 := 0) Qh34 (by decide +kernel) (by decide) (by decide)
          have Gh34_0 : gH h34 v9 := Gh32_0.x Qh34
          have pv9_h34 : v9 = zv h34 3 kL6.toNat ∧ ((kL6.toNat : Nat) : Int) < fld h34 3 2 := zpv Ch32 Qh34 (A := 3) (by decide) (by decide +kernel) pv9_h32
          have th34_1_0 : fld h34 1 0 = fld h32 1 0 := Qh34.f (a1 := 1) (a2 := 1) (j1 := 0) (j2 := 1) (by decide +kernel) (by first | decide | exact ⟨by decide, by decide⟩) (by first | decide | exact ⟨by decide, by decide⟩) (by first | decide | exact ⟨by decide, by decide⟩)
          have th34_3_2 : fld h34 3 2 = fld h32 3 2 := Qh34.f (a1 := 3) (a2 := 3) (j1 := 2) (j2 := 3) (by decide +kernel) (by first | decide | exact ⟨by decide, by decide⟩) (by first | decide | exact ⟨by decide, by decide⟩) (by first | decide | exact ⟨by decide, by decide⟩)
          have q64 : (v30).toNat = ((yLyN (yC h) (kL6).toNat) 37 64).toNat := by rw [sv30]
          have K117 : (zs (zs (zs (zs (zs (zs (zs (zs (zs (yLyN (yC h) (kL6).toNat) 66 (((yLyN (yC h) (kL6).toNat) 79 kL6.toNat).toNat) (((yLyN (yC h) (kL6).toNat) 66 (((yLyN (yC h) (kL6).toNat) 79 kL6.toNat).toNat)) - v24)) 95 kL6.toNat (w32 (((yLyN (yC h) (kL6).toNat) 95 kL6.toNat) + (yCan (yLyN (yC h) (kL6).toNat) kL6.toNat)))) 170 ((v30).toNat) (((kL6).toNat : Nat) : Int)) 171 ((v30).toNat) v31) 172 ((v30).toNat) (fld h27 v9 7)) 173 ((v30).toNat) (yStr (yC h27) (kL6).toNat)) 174 ((v30).toNat) v16) 175 ((v30).toNat) v16) 37 64 ((((v30).toNat : Nat) : Int) + 1)) = yLy1 (yLyN (yC h) (kL6).toNat) (kL6).toNat := by
            unfold yLy1
            rw [if_pos (by omega)]
            exact zs_cg (zs_cg (zs_cg (zs_cg (zs_cg (zs_cg (zs_cg (zs_cg (zs_cg rfl rfl V85) rfl rfl) q64 (by omega)) q64 sv31) q64 Q85) q64 QS) q64 U58) q64 U58) rfl (by omega)
          refine zwW_p [(15, 0, 0), (1, 2, 0), (1, 5, 0)] (q := 121) (ls' := [(2, 1), (0, v2), (0, tL6), (0, kL6), (2, v9), (0, v16)]) (st' := [(0, v16), (0, tL6)]) (by decide +kernel) rfl ?_
          refine zwW_add (nx := 122) (by decide +kernel) (by first | omega | exact ⟨by omega, by omega⟩) ?_
          refine zwW_p [(2, 2, 0)] (q := 123) (ls' := [(2, 1), (0, v2), (0, (tL6 + v16)), (0, kL6), (2, v9), (0, v16)]) (st' := []) (by decide +kernel) rfl ?_
          refine zwW_inc (i := 3) (c := 1) (x := kL6) (nx := 126) (by decide +kernel) rfl (by first | omega | exact ⟨by omega, by omega⟩) (ls' := [(2, 1), (0, v2), (0, (tL6 + v16)), (0, (kL6 + 1)), (2, v9), (0, v16)]) rfl ?_
          refine zwW_p [(24, 12, 0)] (q := 12) (ls' := [(2, 1), (0, v2), (0, (tL6 + v16)), (0, (kL6 + 1)), (2, v9), (0, v16)]) (st' := []) (by decide +kernel) rfl ?_
          exact IHL6 ((1000 - (kL6 + 1))).toNat (by omega) (tL6 + v16) (kL6 + 1) (2, v9) (0, v16) h34 rfl (by rw [show (kL6 + 1).toNat = (kL6).toNat + 1 by omega, YT]; omega) (by omega) (by omega) (by omega) (by rw [show (kL6 + 1).toNat = (kL6).toNat + 1 by omega, yLyN_s]; first | exact Zh34.trans K117 | (unfold yLy1; rw [if_neg (by omega)]; exact Zh34)) (JLh34) Ch34 (Xh34.le (by decide) (by decide))
  exact L6 _ 0 0 (9, 0) (9, 0) h rfl (rfl) (by omega) (by omega) (by omega) (rfl) (J) C (X.le (by decide) (by decide))
end
