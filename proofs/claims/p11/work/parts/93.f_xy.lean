/-! contracts of the class -/
def msx166_n : Zms := [(17, 17, 0, 13)]
-- WheelLand$Rules.begin(I)V
theorem x166_n {sc : List Int} (h : Hp) (C : CI h) (a : Int) (q_a : -2147483648 ≤ a ∧ a ≤ 2147483647) (p1 : 0 ≤ a) : zwC sc 2 166 [(2, 13), (0, a)] h (zwRv (fun g => CI g ∧ zXR msx166_n (0) (0) h g ∧ (n13 17 g (yNm0 a)))) := by
  refine zwC_of (D := 1) 2 (by decide +kernel) rfl (ls := [(2, 13), (0, a)]) rfl ?_
  have X : zXR msx166_n 0 0 h h := zXR.rf _ _
  refine zwW_p [(1, 0, 2)] (q := 1) (ls' := [(2, 13), (0, a)]) (st' := [(2, 13)]) (by decide +kernel) rfl ?_
  refine zwW_gc C.1 (kd := 9) (bn := 4) (n := 6) (c := 17) (nx := 4) (by decide +kernel) ?_
  refine zwW_p [(0, 0, 0)] (q := 5) (ls' := [(2, 13), (0, a)]) (st' := [(0, 0), (2, 17)]) (by decide +kernel) rfl ?_
  refine zwW_csv (k' := 180) (n := 2) (nx := 8) (as := [(2, 17), (0, 0)]) (st' := []) (by decide +kernel) rfl (x180_17 C ⟨by omega, by omega⟩) rfl ?_
  rintro h1 ⟨Ch1, Qh1, fh1⟩
  have G5 : n13 17 h1 (fun _ => 0) := fun j hj => fh1 j hj
  have Xh1 : zXR msx166_n (0) (0) h h1 := X.tr (c2 := 0) (s2 := 0) Qh1 (by decide +kernel) (by decide) (by decide)
  refine zwW_p [(1, 0, 2)] (q := 9) (ls' := [(2, 13), (0, a)]) (st' := [(2, 13)]) (by decide +kernel) rfl ?_
  refine zwW_gc Ch1.1 (kd := 9) (bn := 4) (n := 6) (c := 17) (nx := 12) (by decide +kernel) ?_
  refine zwW_p [(0, 0, 0), (1, 1, 0)] (q := 14) (ls' := [(2, 13), (0, a)]) (st' := [(0, a), (0, 0), (2, 17)]) (by decide +kernel) rfl ?_
  refine zwW_as Ch1.1 (a1 := 17) (a2 := 17) (n := 13) (lo := -2147483648) (hi := 2147483647) (nx := 15) (by decide +kernel) ⟨by decide, by decide⟩ ⟨by decide, by decide⟩ ⟨by omega, by omega⟩ ?_
  intro h2 eh2 Ih2
  have Ch2 : CI h2 := Ch1.wc eh2 Ih2 (by decide) (by decide)
  have Qh2 : zXR [(17, 17, 0, 13)] 0 0 h1 h2 := zXR.wc eh2 rfl ⟨by decide, by decide, Or.inl (by decide)⟩ ⟨by decide, by decide⟩
  have G14 : n13 17 h2 (zu (fun _ => 0) 0 a) := G5.zu (fld_zu (Ch1.1.s (a1 := 17) (a2 := 17) (k := 20) (n := 13) (by decide +kernel) (by decide) (by decide)) (by decide) eh2) rfl
  have Xh2 : zXR msx166_n (0) (0) h h2 := Xh1.tr (c2 := 0) (s2 := 0) Qh2 (by decide +kernel) (by decide) (by decide)
  refine zwW_p [(1, 0, 2)] (q := 16) (ls' := [(2, 13), (0, a)]) (st' := [(2, 13)]) (by decide +kernel) rfl ?_
  refine zwW_gc Ch2.1 (kd := 9) (bn := 4) (n := 6) (c := 17) (nx := 19) (by decide +kernel) ?_
  refine zwW_p [(0, 1, 0), (1, 1, 0)] (q := 21) (ls' := [(2, 13), (0, a)]) (st' := [(0, a), (0, 1), (2, 17)]) (by decide +kernel) rfl ?_
  refine zwW_cs (k' := 162) (n := 1) (nx := 24) (as := [(0, a)]) (st' := [(0, 1), (2, 17)]) (by decide +kernel) rfl (x162 h2 Ch2 a (by omega) (by omega)) rfl ?_
  rintro v3 _ ⟨rfl, f4, f5, f6⟩
  refine zwW_as Ch2.1 (a1 := 17) (a2 := 17) (n := 13) (lo := -2147483648) (hi := 2147483647) (nx := 25) (by decide +kernel) ⟨by decide, by decide⟩ ⟨by decide, by decide⟩ ⟨by omega, by omega⟩ ?_
  intro h7 eh7 Ih7
  have Ch7 : CI h7 := Ch2.wc eh7 Ih7 (by decide) (by decide)
  have Qh7 : zXR [(17, 17, 0, 13)] 0 0 h2 h7 := zXR.wc eh7 rfl ⟨by decide, by decide, Or.inl (by decide)⟩ ⟨by decide, by decide⟩
  have G24 : n13 17 h7 (yNm0 a) := G14.zu (fld_zu (Ch2.1.s (a1 := 17) (a2 := 17) (k := 20) (n := 13) (by decide +kernel) (by decide) (by decide)) (by decide) eh7) (by omega)
  have Xh7 : zXR msx166_n (0) (0) h h7 := Xh2.tr (c2 := 0) (s2 := 0) Qh7 (by decide +kernel) (by decide) (by decide)
  refine zwW_retv (nx := 26) (a := 0) (b := 0) (by decide +kernel) ?_
  exact ⟨Ch7, Xh7.le (by decide) (by decide), by exact G24⟩
def msx214_n : Zms := [(17, 17, 0, 13)]
-- WheelLand$Rules.tellPrice(I)V
theorem x214_n {sc : List Int} (h : Hp) (C : CI h) (a : Int) (N : Nat → Int) (q_a : -2147483648 ≤ a ∧ a ≤ 2147483647) (HN : n13 17 h N) : zwC sc 1 214 [(2, 13), (0, a)] h (zwRv (fun g => CI g ∧ zXR msx214_n (0) (0) h g ∧ (n13 17 g (zu N 12 a)))) := by
  refine zwC_of (D := 0) 2 (by decide +kernel) rfl (ls := [(2, 13), (0, a)]) rfl ?_
  have X : zXR msx214_n 0 0 h h := zXR.rf _ _
  refine zwW_p [(1, 0, 2)] (q := 1) (ls' := [(2, 13), (0, a)]) (st' := [(2, 13)]) (by decide +kernel) rfl ?_
  refine zwW_gc C.1 (kd := 9) (bn := 4) (n := 6) (c := 17) (nx := 4) (by decide +kernel) ?_
  refine zwW_p [(0, 12, 0), (1, 1, 0)] (q := 7) (ls' := [(2, 13), (0, a)]) (st' := [(0, a), (0, 12), (2, 17)]) (by decide +kernel) rfl ?_
  refine zwW_as C.1 (a1 := 17) (a2 := 17) (n := 13) (lo := -2147483648) (hi := 2147483647) (nx := 8) (by decide +kernel) ⟨by decide, by decide⟩ ⟨by decide, by decide⟩ ⟨by omega, by omega⟩ ?_
  intro h1 eh1 Ih1
  have Ch1 : CI h1 := C.wc eh1 Ih1 (by decide) (by decide)
  have Qh1 : zXR [(17, 17, 0, 13)] 0 0 h h1 := zXR.wc eh1 rfl ⟨by decide, by decide, Or.inl (by decide)⟩ ⟨by decide, by decide⟩
  have G7 : n13 17 h1 (zu N 12 a) := HN.zu (fld_zu (C.1.s (a1 := 17) (a2 := 17) (k := 20) (n := 13) (by decide +kernel) (by decide) (by decide)) (by decide) eh1) rfl
  have Xh1 : zXR msx214_n (0) (0) h h1 := X.tr (c2 := 0) (s2 := 0) Qh1 (by decide +kernel) (by decide) (by decide)
  refine zwW_retv (nx := 9) (a := 0) (b := 0) (by decide +kernel) ?_
  exact ⟨Ch1, Xh1.le (by decide) (by decide), by exact G7⟩
def msx168_n : Zms := [(17, 17, 0, 13)]
-- WheelLand$Rules.tellWork(II)V
theorem x168_n {sc : List Int} (h : Hp) (C : CI h) (a b : Int) (N : Nat → Int) (q_a : -2147483648 ≤ a ∧ a ≤ 2147483647) (q_b : -2147483648 ≤ b ∧ b ≤ 2147483647) (HN : n13 17 h N) : zwC sc 1 168 [(2, 13), (0, a), (0, b)] h (zwRv (fun g => CI g ∧ zXR msx168_n (0) (0) h g ∧ (n13 17 g (zu (zu N 6 a) 11 b)))) := by
  refine zwC_of (D := 0) 3 (by decide +kernel) rfl (ls := [(2, 13), (0, a), (0, b)]) rfl ?_
  have X : zXR msx168_n 0 0 h h := zXR.rf _ _
  refine zwW_p [(1, 0, 2)] (q := 1) (ls' := [(2, 13), (0, a), (0, b)]) (st' := [(2, 13)]) (by decide +kernel) rfl ?_
  refine zwW_gc C.1 (kd := 9) (bn := 4) (n := 6) (c := 17) (nx := 4) (by decide +kernel) ?_
  refine zwW_p [(0, 6, 0), (1, 1, 0)] (q := 7) (ls' := [(2, 13), (0, a), (0, b)]) (st' := [(0, a), (0, 6), (2, 17)]) (by decide +kernel) rfl ?_
  refine zwW_as C.1 (a1 := 17) (a2 := 17) (n := 13) (lo := -2147483648) (hi := 2147483647) (nx := 8) (by decide +kernel) ⟨by decide, by decide⟩ ⟨by decide, by decide⟩ ⟨by omega, by omega⟩ ?_
  intro h1 eh1 Ih1
  have Ch1 : CI h1 := C.wc eh1 Ih1 (by decide) (by decide)
  have Qh1 : zXR [(17, 17, 0, 13)] 0 0 h h1 := zXR.wc eh1 rfl ⟨by decide, by decide, Or.inl (by decide)⟩ ⟨by decide, by decide⟩
  have G7 : n13 17 h1 (zu N 6 a) := HN.zu (fld_zu (C.1.s (a1 := 17) (a2 := 17) (k := 20) (n := 13) (by decide +kernel) (by decide) (by decide)) (by decide) eh1) rfl
  have Xh1 : zXR msx168_n (0) (0) h h1 := X.tr (c2 := 0) (s2 := 0) Qh1 (by decide +kernel) (by decide) (by decide)
  refine zwW_p [(1, 0, 2)] (q := 9) (ls' := [(2, 13), (0, a), (0, b)]) (st' := [(2, 13)]) (by decide +kernel) rfl ?_
  refine zwW_gc Ch1.1 (kd := 9) (bn := 4) (n := 6) (c := 17) (nx := 12) (by decide +kernel) ?_
  refine zwW_p [(0, 11, 0), (1, 2, 0)] (q := 15) (ls' := [(2, 13), (0, a), (0, b)]) (st' := [(0, b), (0, 11), (2, 17)]) (by decide +kernel) rfl ?_
  refine zwW_as Ch1.1 (a1 := 17) (a2 := 17) (n := 13) (lo := -2147483648) (hi := 2147483647) (nx := 16) (by decide +kernel) ⟨by decide, by decide⟩ ⟨by decide, by decide⟩ ⟨by omega, by omega⟩ ?_
  intro h2 eh2 Ih2
  have Ch2 : CI h2 := Ch1.wc eh2 Ih2 (by decide) (by decide)
  have Qh2 : zXR [(17, 17, 0, 13)] 0 0 h1 h2 := zXR.wc eh2 rfl ⟨by decide, by decide, Or.inl (by decide)⟩ ⟨by decide, by decide⟩
  have G15 : n13 17 h2 (zu (zu N 6 a) 11 b) := G7.zu (fld_zu (Ch1.1.s (a1 := 17) (a2 := 17) (k := 20) (n := 13) (by decide +kernel) (by decide) (by decide)) (by decide) eh2) rfl
  have Xh2 : zXR msx168_n (0) (0) h h2 := Xh1.tr (c2 := 0) (s2 := 0) Qh2 (by decide +kernel) (by decide) (by decide)
  refine zwW_retv (nx := 17) (a := 0) (b := 0) (by decide +kernel) ?_
  exact ⟨Ch2, Xh2.le (by decide) (by decide), by exact G15⟩
def msx171_n : Zms := [(17, 17, 0, 13)]
-- WheelLand$Rules.tellYarn(III)V
theorem x171_n {sc : List Int} (h : Hp) (C : CI h) (a b c : Int) (N : Nat → Int) (q_a : -2147483648 ≤ a ∧ a ≤ 2147483647) (q_b : -2147483648 ≤ b ∧ b ≤ 2147483647) (q_c : -2147483648 ≤ c ∧ c ≤ 2147483647) (HN : n13 17 h N) : zwC sc 1 171 [(2, 13), (0, a), (0, b), (0, c)] h (zwRv (fun g => CI g ∧ zXR msx171_n (0) (0) h g ∧ (n13 17 g (zu (zu (zu N 7 a) 8 b) 9 c)))) := by
  refine zwC_of (D := 0) 4 (by decide +kernel) rfl (ls := [(2, 13), (0, a), (0, b), (0, c)]) rfl ?_
  have X : zXR msx171_n 0 0 h h := zXR.rf _ _
  refine zwW_p [(1, 0, 2)] (q := 1) (ls' := [(2, 13), (0, a), (0, b), (0, c)]) (st' := [(2, 13)]) (by decide +kernel) rfl ?_
  refine zwW_gc C.1 (kd := 9) (bn := 4) (n := 6) (c := 17) (nx := 4) (by decide +kernel) ?_
  refine zwW_p [(0, 7, 0), (1, 1, 0)] (q := 7) (ls' := [(2, 13), (0, a), (0, b), (0, c)]) (st' := [(0, a), (0, 7), (2, 17)]) (by decide +kernel) rfl ?_
  refine zwW_as C.1 (a1 := 17) (a2 := 17) (n := 13) (lo := -2147483648) (hi := 2147483647) (nx := 8) (by decide +kernel) ⟨by decide, by decide⟩ ⟨by decide, by decide⟩ ⟨by omega, by omega⟩ ?_
  intro h1 eh1 Ih1
  have Ch1 : CI h1 := C.wc eh1 Ih1 (by decide) (by decide)
  have Qh1 : zXR [(17, 17, 0, 13)] 0 0 h h1 := zXR.wc eh1 rfl ⟨by decide, by decide, Or.inl (by decide)⟩ ⟨by decide, by decide⟩
  have G7 : n13 17 h1 (zu N 7 a) := HN.zu (fld_zu (C.1.s (a1 := 17) (a2 := 17) (k := 20) (n := 13) (by decide +kernel) (by decide) (by decide)) (by decide) eh1) rfl
  have Xh1 : zXR msx171_n (0) (0) h h1 := X.tr (c2 := 0) (s2 := 0) Qh1 (by decide +kernel) (by decide) (by decide)
  refine zwW_p [(1, 0, 2)] (q := 9) (ls' := [(2, 13), (0, a), (0, b), (0, c)]) (st' := [(2, 13)]) (by decide +kernel) rfl ?_
  refine zwW_gc Ch1.1 (kd := 9) (bn := 4) (n := 6) (c := 17) (nx := 12) (by decide +kernel) ?_
  refine zwW_p [(0, 8, 0), (1, 2, 0)] (q := 15) (ls' := [(2, 13), (0, a), (0, b), (0, c)]) (st' := [(0, b), (0, 8), (2, 17)]) (by decide +kernel) rfl ?_
  refine zwW_as Ch1.1 (a1 := 17) (a2 := 17) (n := 13) (lo := -2147483648) (hi := 2147483647) (nx := 16) (by decide +kernel) ⟨by decide, by decide⟩ ⟨by decide, by decide⟩ ⟨by omega, by omega⟩ ?_
  intro h2 eh2 Ih2
  have Ch2 : CI h2 := Ch1.wc eh2 Ih2 (by decide) (by decide)
  have Qh2 : zXR [(17, 17, 0, 13)] 0 0 h1 h2 := zXR.wc eh2 rfl ⟨by decide, by decide, Or.inl (by decide)⟩ ⟨by decide, by decide⟩
  have G15 : n13 17 h2 (zu (zu N 7 a) 8 b) := G7.zu (fld_zu (Ch1.1.s (a1 := 17) (a2 := 17) (k := 20) (n := 13) (by decide +kernel) (by decide) (by decide)) (by decide) eh2) rfl
  have Xh2 : zXR msx171_n (0) (0) h h2 := Xh1.tr (c2 := 0) (s2 := 0) Qh2 (by decide +kernel) (by decide) (by decide)
  refine zwW_p [(1, 0, 2)] (q := 17) (ls' := [(2, 13), (0, a), (0, b), (0, c)]) (st' := [(2, 13)]) (by decide +kernel) rfl ?_
  refine zwW_gc Ch2.1 (kd := 9) (bn := 4) (n := 6) (c := 17) (nx := 20) (by decide +kernel) ?_
  refine zwW_p [(0, 9, 0), (1, 3, 0)] (q := 23) (ls' := [(2, 13), (0, a), (0, b), (0, c)]) (st' := [(0, c), (0, 9), (2, 17)]) (by decide +kernel) rfl ?_
  refine zwW_as Ch2.1 (a1 := 17) (a2 := 17) (n := 13) (lo := -2147483648) (hi := 2147483647) (nx := 24) (by decide +kernel) ⟨by decide, by decide⟩ ⟨by decide, by decide⟩ ⟨by omega, by omega⟩ ?_
  intro h3 eh3 Ih3
  have Ch3 : CI h3 := Ch2.wc eh3 Ih3 (by decide) (by decide)
  have Qh3 : zXR [(17, 17, 0, 13)] 0 0 h2 h3 := zXR.wc eh3 rfl ⟨by decide, by decide, Or.inl (by decide)⟩ ⟨by decide, by decide⟩
  have G23 : n13 17 h3 (zu (zu (zu N 7 a) 8 b) 9 c) := G15.zu (fld_zu (Ch2.1.s (a1 := 17) (a2 := 17) (k := 20) (n := 13) (by decide +kernel) (by decide) (by decide)) (by decide) eh3) rfl
  have Xh3 : zXR msx171_n (0) (0) h h3 := Xh2.tr (c2 := 0) (s2 := 0) Qh3 (by decide +kernel) (by decide) (by decide)
  refine zwW_retv (nx := 25) (a := 0) (b := 0) (by decide +kernel) ?_
  exact ⟨Ch3, Xh3.le (by decide) (by decide), by exact G23⟩
-- WheelLand$Village.idleIn(I)I
theorem x222_z {sc : List Int} (h : Hp) (C : CI h) (r a : Int) (G_r : gV h r) (q_a : -2147483648 ≤ a ∧ a ≤ 2147483647) (J : yR h) (k : Nat) (P_r : r = zv h 2 k ∧ (k : Int) < fld h 2 2) (pa : 0 ≤ a ∧ a ≤ 3) (pj : 0 ≤ yIdl (yC h) k a ∧ yIdl (yC h) k a ≤ 40) : zwC sc 1 222 [(2, r), (0, a)] h (zwRt 0 (fun x g => h = g ∧ (-2147483648 ≤ x ∧ x ≤ 2147483647) ∧ (x = yIdl (yC h) k a))) := by
  refine zwC_of (D := 0) 2 (by decide +kernel) rfl (ls := [(2, r), (0, a)]) rfl ?_
  have lw_r := G_r.1
  have u0 : yC h 37 0 = fld h 1 0 := rfl
  have u1 : yC h 37 1 = fld h 2 2 := rfl
  have u2 : yC h 37 2 = fld h 3 2 := rfl
  have u64 : yC h 37 64 = fld h 4 2 := rfl
  have u78 : yC h 37 78 = fld h 5 2 := rfl
  have b22 := zLb_2 C
  have I39 : yIdl (yC h) k a = zid (fld h r 1) a.toNat := by
    rw [P_r.1]
    exact yC_39 P_r.2 (by omega) (by omega)
  rw [I39] at pj
  have pi : 0 ≤ fld h r 1 := by rw [P_r.1]; exact J.2.2.2.2.1 k P_r.2
  refine zwW_p [(1, 1, 0)] (q := 1) (ls' := [(2, r), (0, a)]) (st' := [(0, a)]) (by decide +kernel) rfl ?_
  refine zwW_sw (d := 59) (os := [0, 28, 1, 36, 2, 48]) (by decide +kernel) ?_
  refine ⟨fun c1 => ?_, fun c1 => ?_⟩
  · show zwW _ _ _ 28 _ _ _ _
    refine zwW_p [(1, 0, 2)] (q := 29) (ls' := [(2, r), (0, a)]) (st' := [(2, r)]) (by decide +kernel) rfl ?_
    refine zwX_gi C (kd := 11) (bn := 1) (n := 17) (nx := 32) (by decide +kernel) G_r.2.1 G_r.1 rfl ?_
    intro v2 ev2 lv2 uv2
    refine zwW_p [(0, 1000000, 0)] (q := 34) (ls' := [(2, r), (0, a)]) (st' := [(0, 1000000), (0, v2)]) (by decide +kernel) rfl ?_
    refine zwW_div (nx := 35) (by decide +kernel) (by omega) (by omega) (by omega) ?_
    refine zwW_ret (nx := 36) (a := 0) (b := 0) (by decide +kernel) rfl (Or.inl rfl) ?_
    exact ⟨rfl, by omega, by rw [I39]; unfold zid; first | (rw [if_pos (by omega)]; omega) | (rw [if_neg (by omega), if_pos (by omega)]; omega) | (rw [if_neg (by omega), if_neg (by omega), if_pos (by omega)]; omega) | (rw [if_neg (by omega), if_neg (by omega), if_neg (by omega)]; omega)⟩
  refine ⟨fun c3 => ?_, fun c3 => ?_⟩
  · show zwW _ _ _ 36 _ _ _ _
    refine zwW_p [(1, 0, 2)] (q := 37) (ls' := [(2, r), (0, a)]) (st' := [(2, r)]) (by decide +kernel) rfl ?_
    refine zwX_gi C (kd := 11) (bn := 1) (n := 17) (nx := 40) (by decide +kernel) G_r.2.1 G_r.1 rfl ?_
    intro v4 ev4 lv4 uv4
    refine zwW_p [(0, 10000, 0)] (q := 43) (ls' := [(2, r), (0, a)]) (st' := [(0, 10000), (0, v4)]) (by decide +kernel) rfl ?_
    refine zwW_div (nx := 44) (by decide +kernel) (by omega) (by omega) (by omega) ?_
    refine zwW_p [(0, 100, 0)] (q := 46) (ls' := [(2, r), (0, a)]) (st' := [(0, 100), (0, (v4 / 10000))]) (by decide +kernel) rfl ?_
    refine zwW_rem (nx := 47) (by decide +kernel) (by omega) (by omega) ?_
    refine zwW_ret (nx := 48) (a := 0) (b := 0) (by decide +kernel) rfl (Or.inl rfl) ?_
    exact ⟨rfl, by omega, by rw [I39]; unfold zid; first | (rw [if_pos (by omega)]; omega) | (rw [if_neg (by omega), if_pos (by omega)]; omega) | (rw [if_neg (by omega), if_neg (by omega), if_pos (by omega)]; omega) | (rw [if_neg (by omega), if_neg (by omega), if_neg (by omega)]; omega)⟩
  refine ⟨fun c5 => ?_, fun c5 => ?_⟩
  · show zwW _ _ _ 48 _ _ _ _
    refine zwW_p [(1, 0, 2)] (q := 49) (ls' := [(2, r), (0, a)]) (st' := [(2, r)]) (by decide +kernel) rfl ?_
    refine zwX_gi C (kd := 11) (bn := 1) (n := 17) (nx := 52) (by decide +kernel) G_r.2.1 G_r.1 rfl ?_
    intro v6 ev6 lv6 uv6
    refine zwW_p [(0, 100, 0)] (q := 54) (ls' := [(2, r), (0, a)]) (st' := [(0, 100), (0, v6)]) (by decide +kernel) rfl ?_
    refine zwW_div (nx := 55) (by decide +kernel) (by omega) (by omega) (by omega) ?_
    refine zwW_p [(0, 100, 0)] (q := 57) (ls' := [(2, r), (0, a)]) (st' := [(0, 100), (0, (v6 / 100))]) (by decide +kernel) rfl ?_
    refine zwW_rem (nx := 58) (by decide +kernel) (by omega) (by omega) ?_
    refine zwW_ret (nx := 59) (a := 0) (b := 0) (by decide +kernel) rfl (Or.inl rfl) ?_
    exact ⟨rfl, by omega, by rw [I39]; unfold zid; first | (rw [if_pos (by omega)]; omega) | (rw [if_neg (by omega), if_pos (by omega)]; omega) | (rw [if_neg (by omega), if_neg (by omega), if_pos (by omega)]; omega) | (rw [if_neg (by omega), if_neg (by omega), if_neg (by omega)]; omega)⟩
  show zwW _ _ _ 59 _ _ _ _
  refine zwW_p [(1, 0, 2)] (q := 60) (ls' := [(2, r), (0, a)]) (st' := [(2, r)]) (by decide +kernel) rfl ?_
  refine zwX_gi C (kd := 11) (bn := 1) (n := 17) (nx := 63) (by decide +kernel) G_r.2.1 G_r.1 rfl ?_
  intro v7 ev7 lv7 uv7
  refine zwW_p [(0, 100, 0)] (q := 65) (ls' := [(2, r), (0, a)]) (st' := [(0, 100), (0, v7)]) (by decide +kernel) rfl ?_
  refine zwW_rem (nx := 66) (by decide +kernel) (by omega) (by omega) ?_
  refine zwW_ret (nx := 67) (a := 0) (b := 0) (by decide +kernel) rfl (Or.inl rfl) ?_
  exact ⟨rfl, by omega, by rw [I39]; unfold zid; first | (rw [if_pos (by omega)]; omega) | (rw [if_neg (by omega), if_pos (by omega)]; omega) | (rw [if_neg (by omega), if_neg (by omega), if_pos (by omega)]; omega) | (rw [if_neg (by omega), if_neg (by omega), if_neg (by omega)]; omega)⟩
def msx167_z : Zms := [(17, 17, 0, 13)]
-- WheelLand$Rules.tellHouse(LWheelLand$House;I)V
theorem x167_z {sc : List Int} (h : Hp) (C : CI h) (r a : Int) (N : Nat → Int) (G_r : gH h r) (q_a : -2147483648 ≤ a ∧ a ≤ 2147483647) (J : yR h) (k : Nat) (P_r : r = zv h 3 k ∧ (k : Int) < fld h 3 2) (ok : yOK (yC h)) (HN : n13 17 h N) (pa : a = yC h 37 0 / 13 % 4) : zwC sc 2 167 [(2, 13), (2, r), (0, a)] h (zwRv (fun g => CI g ∧ zXR msx167_z (0) (0) h g ∧ (n13 17 g (yNmH (yC h) k N)) ∧ (yR g))) := by
  refine zwC_of (D := 1) 3 (by decide +kernel) rfl (ls := [(2, 13), (2, r), (0, a)]) rfl ?_
  have lw_r := G_r.1
  have X : zXR msx167_z 0 0 h h := zXR.rf _ _
  have u0 : yC h 37 0 = fld h 1 0 := rfl
  have u1 : yC h 37 1 = fld h 2 2 := rfl
  have u2 : yC h 37 2 = fld h 3 2 := rfl
  have u64 : yC h 37 64 = fld h 4 2 := rfl
  have u78 : yC h 37 78 = fld h 5 2 := rfl
  have K167 := ok.ho (k := k) (by have := P_r.2; omega)
  refine zwW_p [(1, 0, 2)] (q := 1) (ls' := [(2, 13), (2, r), (0, a)]) (st' := [(2, 13)]) (by decide +kernel) rfl ?_
  refine zwW_gc C.1 (kd := 9) (bn := 4) (n := 6) (c := 17) (nx := 4) (by decide +kernel) ?_
  refine zwW_p [(0, 2, 0), (1, 1, 2)] (q := 6) (ls' := [(2, 13), (2, r), (0, a)]) (st' := [(2, r), (0, 2), (2, 17)]) (by decide +kernel) rfl ?_
  refine zwX_gi C (kd := 4) (bn := 5) (n := 19) (nx := 9) (by decide +kernel) G_r.2.1 G_r.1 rfl ?_
  intro v1 ev1 lv1 uv1
  have sv1 : v1 = (yC h) 83 k := Eq.trans ev1 (Eq.trans (congrArg (fun q => fld h q 5) P_r.1) (Eq.trans (Eq.symm (yC_f (h := h) (a := 83) (A := 3) (j := 5) (i := k) rfl P_r.2)) (Eq.trans (congrFun (congrFun (rfl : yC h = yC h) 83) k) rfl)))
  refine zwW_as C.1 (a1 := 17) (a2 := 17) (n := 13) (lo := -2147483648) (hi := 2147483647) (nx := 10) (by decide +kernel) ⟨by decide, by decide⟩ ⟨by decide, by decide⟩ ⟨by omega, by omega⟩ ?_
  intro h2 eh2 Ih2
  have Ch2 : CI h2 := C.wc eh2 Ih2 (by decide) (by decide)
  have Qh2 : zXR [(17, 17, 0, 13)] 0 0 h h2 := zXR.wc eh2 rfl ⟨by decide, by decide, Or.inl (by decide)⟩ ⟨by decide, by decide⟩
  have G9 : n13 17 h2 (zu N 2 (yC h 83 k)) := HN.zu (fld_zu (C.1.s (a1 := 17) (a2 := 17) (k := 20) (n := 13) (by decide +kernel) (by decide) (by decide)) (by decide) eh2) sv1
  have Xh2 : zXR msx167_z (0) (0) h h2 := X.tr (c2 := 0) (s2 := 0) Qh2 (by decide +kernel) (by decide) (by decide)
  have Gh2_0 : gH h2 r := G_r.x Qh2
  have Zh2 : yC h2 = (yC h) := (yC_fr C Qh2 (by decide +kernel) (C.1.b (a1 := 37) (a2 := 37) (j1 := 86) (j2 := 87) (lo := 0) (hi := 6) (by decide +kernel) (r := 37) (j := 86) (by decide) (by decide) (by decide) (by decide)).2).trans (rfl : yC h = yC h)
  have Jh2 : yR h2 := J.fr C Qh2 (by decide +kernel)
  have pr_h2 : r = zv h2 3 k ∧ ((k : Nat) : Int) < fld h2 3 2 := zpv C Qh2 (A := 3) (by decide) (by decide +kernel) P_r
  refine zwW_p [(1, 0, 2)] (q := 11) (ls' := [(2, 13), (2, r), (0, a)]) (st' := [(2, 13)]) (by decide +kernel) rfl ?_
  refine zwW_gc Ch2.1 (kd := 9) (bn := 4) (n := 6) (c := 17) (nx := 14) (by decide +kernel) ?_
  refine zwW_p [(0, 3, 0), (1, 1, 2)] (q := 16) (ls' := [(2, 13), (2, r), (0, a)]) (st' := [(2, r), (0, 3), (2, 17)]) (by decide +kernel) rfl ?_
  refine zwX_gi Ch2 (kd := 4) (bn := 2) (n := 19) (nx := 19) (by decide +kernel) Gh2_0.2.1 Gh2_0.1 rfl ?_
  intro v3 ev3 lv3 uv3
  have sv3 : v3 = (yC h) 80 k := Eq.trans ev3 (Eq.trans (congrArg (fun q => fld h2 q 2) pr_h2.1) (Eq.trans (Eq.symm (yC_f (h := h2) (a := 80) (A := 3) (j := 2) (i := k) rfl pr_h2.2)) (Eq.trans (congrFun (congrFun Zh2 80) k) rfl)))
  refine zwW_as Ch2.1 (a1 := 17) (a2 := 17) (n := 13) (lo := -2147483648) (hi := 2147483647) (nx := 20) (by decide +kernel) ⟨by decide, by decide⟩ ⟨by decide, by decide⟩ ⟨by omega, by omega⟩ ?_
  intro h4 eh4 Ih4
  have Ch4 : CI h4 := Ch2.wc eh4 Ih4 (by decide) (by decide)
  have Qh4 : zXR [(17, 17, 0, 13)] 0 0 h2 h4 := zXR.wc eh4 rfl ⟨by decide, by decide, Or.inl (by decide)⟩ ⟨by decide, by decide⟩
  have G19 : n13 17 h4 (zu (zu N 2 (yC h 83 k)) 3 (yC h 80 k)) := G9.zu (fld_zu (Ch2.1.s (a1 := 17) (a2 := 17) (k := 20) (n := 13) (by decide +kernel) (by decide) (by decide)) (by decide) eh4) sv3
  have Xh4 : zXR msx167_z (0) (0) h h4 := Xh2.tr (c2 := 0) (s2 := 0) Qh4 (by decide +kernel) (by decide) (by decide)
  have Gh4_0 : gH h4 r := Gh2_0.x Qh4
  have Zh4 : yC h4 = (yC h) := (yC_fr Ch2 Qh4 (by decide +kernel) (Ch2.1.b (a1 := 37) (a2 := 37) (j1 := 86) (j2 := 87) (lo := 0) (hi := 6) (by decide +kernel) (r := 37) (j := 86) (by decide) (by decide) (by decide) (by decide)).2).trans Zh2
  have Jh4 : yR h4 := Jh2.fr Ch2 Qh4 (by decide +kernel)
  have pr_h4 : r = zv h4 3 k ∧ ((k : Nat) : Int) < fld h4 3 2 := zpv Ch2 Qh4 (A := 3) (by decide) (by decide +kernel) pr_h2
  refine zwW_p [(1, 0, 2)] (q := 21) (ls' := [(2, 13), (2, r), (0, a)]) (st' := [(2, 13)]) (by decide +kernel) rfl ?_
  refine zwW_gc Ch4.1 (kd := 9) (bn := 4) (n := 6) (c := 17) (nx := 24) (by decide +kernel) ?_
  refine zwW_p [(0, 4, 0), (1, 1, 2)] (q := 26) (ls' := [(2, 13), (2, r), (0, a)]) (st' := [(2, r), (0, 4), (2, 17)]) (by decide +kernel) rfl ?_
  refine zwX_gi Ch4 (kd := 4) (bn := 3) (n := 19) (nx := 29) (by decide +kernel) Gh4_0.2.1 Gh4_0.1 rfl ?_
  intro v5 ev5 lv5 uv5
  have sv5 : v5 = (yC h) 81 k := Eq.trans ev5 (Eq.trans (congrArg (fun q => fld h4 q 3) pr_h4.1) (Eq.trans (Eq.symm (yC_f (h := h4) (a := 81) (A := 3) (j := 3) (i := k) rfl pr_h4.2)) (Eq.trans (congrFun (congrFun Zh4 81) k) rfl)))
  refine zwW_as Ch4.1 (a1 := 17) (a2 := 17) (n := 13) (lo := -2147483648) (hi := 2147483647) (nx := 30) (by decide +kernel) ⟨by decide, by decide⟩ ⟨by decide, by decide⟩ ⟨by omega, by omega⟩ ?_
  intro h6 eh6 Ih6
  have Ch6 : CI h6 := Ch4.wc eh6 Ih6 (by decide) (by decide)
  have Qh6 : zXR [(17, 17, 0, 13)] 0 0 h4 h6 := zXR.wc eh6 rfl ⟨by decide, by decide, Or.inl (by decide)⟩ ⟨by decide, by decide⟩
  have G29 : n13 17 h6 (zu (zu (zu N 2 (yC h 83 k)) 3 (yC h 80 k)) 4 (yC h 81 k)) := G19.zu (fld_zu (Ch4.1.s (a1 := 17) (a2 := 17) (k := 20) (n := 13) (by decide +kernel) (by decide) (by decide)) (by decide) eh6) sv5
  have Xh6 : zXR msx167_z (0) (0) h h6 := Xh4.tr (c2 := 0) (s2 := 0) Qh6 (by decide +kernel) (by decide) (by decide)
  have Gh6_0 : gH h6 r := Gh4_0.x Qh6
  have Zh6 : yC h6 = (yC h) := (yC_fr Ch4 Qh6 (by decide +kernel) (Ch4.1.b (a1 := 37) (a2 := 37) (j1 := 86) (j2 := 87) (lo := 0) (hi := 6) (by decide +kernel) (r := 37) (j := 86) (by decide) (by decide) (by decide) (by decide)).2).trans Zh4
  have Jh6 : yR h6 := Jh4.fr Ch4 Qh6 (by decide +kernel)
  have pr_h6 : r = zv h6 3 k ∧ ((k : Nat) : Int) < fld h6 3 2 := zpv Ch4 Qh6 (A := 3) (by decide) (by decide +kernel) pr_h4
  refine zwW_p [(1, 0, 2)] (q := 31) (ls' := [(2, 13), (2, r), (0, a)]) (st' := [(2, 13)]) (by decide +kernel) rfl ?_
  refine zwW_gc Ch6.1 (kd := 9) (bn := 4) (n := 6) (c := 17) (nx := 34) (by decide +kernel) ?_
  refine zwW_p [(0, 5, 0), (1, 1, 2)] (q := 36) (ls' := [(2, 13), (2, r), (0, a)]) (st' := [(2, r), (0, 5), (2, 17)]) (by decide +kernel) rfl ?_
  refine zwX_gi Ch6 (kd := 4) (bn := 4) (n := 19) (nx := 39) (by decide +kernel) Gh6_0.2.1 Gh6_0.1 rfl ?_
  intro v7 ev7 lv7 uv7
  have sv7 : v7 = (yC h) 82 k := Eq.trans ev7 (Eq.trans (congrArg (fun q => fld h6 q 4) pr_h6.1) (Eq.trans (Eq.symm (yC_f (h := h6) (a := 82) (A := 3) (j := 4) (i := k) rfl pr_h6.2)) (Eq.trans (congrFun (congrFun Zh6 82) k) rfl)))
  refine zwW_as Ch6.1 (a1 := 17) (a2 := 17) (n := 13) (lo := -2147483648) (hi := 2147483647) (nx := 40) (by decide +kernel) ⟨by decide, by decide⟩ ⟨by decide, by decide⟩ ⟨by omega, by omega⟩ ?_
  intro h8 eh8 Ih8
  have Ch8 : CI h8 := Ch6.wc eh8 Ih8 (by decide) (by decide)
  have Qh8 : zXR [(17, 17, 0, 13)] 0 0 h6 h8 := zXR.wc eh8 rfl ⟨by decide, by decide, Or.inl (by decide)⟩ ⟨by decide, by decide⟩
  have G39 : n13 17 h8 (zu (zu (zu (zu N 2 (yC h 83 k)) 3 (yC h 80 k)) 4 (yC h 81 k)) 5 (yC h 82 k)) := G29.zu (fld_zu (Ch6.1.s (a1 := 17) (a2 := 17) (k := 20) (n := 13) (by decide +kernel) (by decide) (by decide)) (by decide) eh8) sv7
  have Xh8 : zXR msx167_z (0) (0) h h8 := Xh6.tr (c2 := 0) (s2 := 0) Qh8 (by decide +kernel) (by decide) (by decide)
  have Gh8_0 : gH h8 r := Gh6_0.x Qh8
  have Zh8 : yC h8 = (yC h) := (yC_fr Ch6 Qh8 (by decide +kernel) (Ch6.1.b (a1 := 37) (a2 := 37) (j1 := 86) (j2 := 87) (lo := 0) (hi := 6) (by decide +kernel) (r := 37) (j := 86) (by decide) (by decide) (by decide) (by decide)).2).trans Zh6
  have Jh8 : yR h8 := Jh6.fr Ch6 Qh8 (by decide +kernel)
  have pr_h8 : r = zv h8 3 k ∧ ((k : Nat) : Int) < fld h8 3 2 := zpv Ch6 Qh8 (A := 3) (by decide) (by decide +kernel) pr_h6
  refine zwW_p [(1, 0, 2)] (q := 41) (ls' := [(2, 13), (2, r), (0, a)]) (st' := [(2, 13)]) (by decide +kernel) rfl ?_
  refine zwW_gc Ch8.1 (kd := 9) (bn := 4) (n := 6) (c := 17) (nx := 44) (by decide +kernel) ?_
  refine zwW_p [(0, 10, 0), (1, 1, 2)] (q := 47) (ls' := [(2, 13), (2, r), (0, a)]) (st' := [(2, r), (0, 10), (2, 17)]) (by decide +kernel) rfl ?_
  refine zwW_get (kd := 4) (bn := 1) (t := 2) (n := 19) (nx := 50) (by decide +kernel) Gh8_0.2.1 rfl ?_
  obtain ⟨v9, ev9⟩ : ∃ z, z = fld h8 r 1 := ⟨_, rfl⟩
  rw [← ev9]
  have Gv9 : gV h8 v9 := by rw [ev9]; exact Gh8_0.2.2
  have lv9 := Gv9.1
  have qv9 : yC h8 79 k = (yC h) 79 k := Eq.trans (congrFun (congrFun Zh8 79) k) rfl
  have wv9 := Jh8.r (a := 79) (A := 3) (j := 1) (B := 2) (i := k) rfl pr_h8.2
  rw [qv9] at wv9
  have pv9 : v9 = zv h8 2 (((yC h) 79 k).toNat) ∧ ((((yC h) 79 k).toNat : Nat) : Int) < fld h8 2 2 := ⟨by rw [ev9, pr_h8.1]; exact wv9.2.2, wv9.2.1⟩
  refine zwW_p [(1, 2, 0)] (q := 51) (ls' := [(2, 13), (2, r), (0, a)]) (st' := [(0, a), (2, v9), (0, 10), (2, 17)]) (by decide +kernel) rfl ?_
  refine zwW_cv (op := 60) (k' := 222) (n := 1) (kd := 11) (m := 17) (nx := 54) (r := v9) (tl := [(0, a)]) (st' := [(0, 10), (2, 17)]) (by decide +kernel) rfl (by decide +kernel) Gv9.2.1 (x222_z h8 Ch8 v9 a Gv9 (by omega) Jh8 (((yC h) 79 k).toNat) pv9 ⟨by omega, by omega⟩ (by rw [Zh8]; exact ok.id (by omega) ⟨by omega, by omega⟩)) rfl ?_
  rintro v10 _ ⟨rfl, f11, f12⟩
  have sv10 : v10 = yIdl (yC h) (((yC h) 79 k).toNat) a := by rw [f12, Zh8]
  refine zwW_as Ch8.1 (a1 := 17) (a2 := 17) (n := 13) (lo := -2147483648) (hi := 2147483647) (nx := 55) (by decide +kernel) ⟨by decide, by decide⟩ ⟨by decide, by decide⟩ ⟨by omega, by omega⟩ ?_
  intro h13 eh13 Ih13
  have Ch13 : CI h13 := Ch8.wc eh13 Ih13 (by decide) (by decide)
  have Qh13 : zXR [(17, 17, 0, 13)] 0 0 h8 h13 := zXR.wc eh13 rfl ⟨by decide, by decide, Or.inl (by decide)⟩ ⟨by decide, by decide⟩
  have G54 : n13 17 h13 (yNmH (yC h) k N) := G39.zu (fld_zu (Ch8.1.s (a1 := 17) (a2 := 17) (k := 20) (n := 13) (by decide +kernel) (by decide) (by decide)) (by decide) eh13) (by rw [sv10, pa])
  have Xh13 : zXR msx167_z (0) (0) h h13 := Xh8.tr (c2 := 0) (s2 := 0) Qh13 (by decide +kernel) (by decide) (by decide)
  have Gh13_0 : gH h13 r := Gh8_0.x Qh13
  have Zh13 : yC h13 = (yC h) := (yC_fr Ch8 Qh13 (by decide +kernel) (Ch8.1.b (a1 := 37) (a2 := 37) (j1 := 86) (j2 := 87) (lo := 0) (hi := 6) (by decide +kernel) (r := 37) (j := 86) (by decide) (by decide) (by decide) (by decide)).2).trans Zh8
  have Jh13 : yR h13 := Jh8.fr Ch8 Qh13 (by decide +kernel)
  have pr_h13 : r = zv h13 3 k ∧ ((k : Nat) : Int) < fld h13 3 2 := zpv Ch8 Qh13 (A := 3) (by decide) (by decide +kernel) pr_h8
  refine zwW_retv (nx := 56) (a := 0) (b := 0) (by decide +kernel) ?_
  exact ⟨Ch13, Xh13.le (by decide) (by decide), by exact G54, by exact Jh13⟩
def msx153_z : Zms := [(17, 17, 0, 13), (18, 18, 0, 400)]
-- WheelLand.dutyIn(LWheelLand$Village;)I
theorem x153_z {sc : List Int} (h : Hp) (C : CI h) (r : Int) (q : qT) (G_r : gV h r) (J : yR h) (k : Nat) (P_r : r = zv h 2 k ∧ (k : Int) < fld h 2 2) (V : zRq q h) (ok : yOK (yC h)) : zwC sc 4 153 [(2, 1), (2, r)] h (zwRt 0 (fun x g => CI g ∧ zXR msx153_z (0) (0) h g ∧ (-2147483648 ≤ x ∧ x ≤ 2147483647) ∧ (0 ≤ x ∧ x ≤ 1000000) ∧ (x = yDut q (yC h) k) ∧ (yR g))) := by
  refine zwC_of (D := 3) 2 (by decide +kernel) rfl (ls := [(2, 1), (2, r)]) rfl ?_
  have lw_r := G_r.1
  have X : zXR msx153_z 0 0 h h := zXR.rf _ _
  have u0 : yC h 37 0 = fld h 1 0 := rfl
  have u1 : yC h 37 1 = fld h 2 2 := rfl
  have u2 : yC h 37 2 = fld h 3 2 := rfl
  have u64 : yC h 37 64 = fld h 4 2 := rfl
  have u78 : yC h 37 78 = fld h 5 2 := rfl
  have B153 : eNum (q 2 (yC h 37 0) (zu (yNm0 (yC h 37 0)) 12 (yC h 71 k))) := V.num (eNs_dut ok (by have := P_r.2; omega)) ⟨by decide, by decide⟩
  unfold eNum at B153
  refine zwW_p [(1, 0, 2)] (q := 1) (ls' := [(2, 1), (2, r)]) (st' := [(2, 1)]) (by decide +kernel) rfl ?_
  refine zwW_gc C.1 (kd := 12) (bn := 8) (n := 13) (c := 13) (nx := 4) (by decide +kernel) ?_
  refine zwW_p [(1, 0, 2)] (q := 5) (ls' := [(2, 1), (2, r)]) (st' := [(2, 1), (2, 13)]) (by decide +kernel) rfl ?_
  refine zwW_gs C.1 (kd := 12) (bn := 0) (n := 13) (t := 0) (lo := 0) (hi := 156) (nx := 8) (by decide +kernel) ?_
  intro v1 ev1 lv1 uv1
  have sv1 : v1 = (yC h) 37 0 := Eq.trans ev1 (Eq.trans (Eq.symm (yC_s (h := h) (i := 0) rfl)) (Eq.trans (congrFun (congrFun (rfl : yC h = yC h) 37) 0) rfl))
  refine zwW_cmv C.1 (op := 60) (k' := 166) (n := 1) (kd := 9) (m := 6) (nx := 11) (r := 13) (tl := [(0, v1)]) (st' := []) (by decide +kernel) rfl (by decide +kernel) rfl (x166_n h C v1 (by omega) (by omega)) ?_
  rintro h3 ⟨Ch3, Qh3, f2⟩
  have Zh3 : yC h3 = (yC h) := (yC_fr C Qh3 (by decide +kernel) (C.1.b (a1 := 37) (a2 := 37) (j1 := 86) (j2 := 87) (lo := 0) (hi := 6) (by decide +kernel) (r := 37) (j := 86) (by decide) (by decide) (by decide) (by decide)).2).trans (rfl : yC h = yC h)
  have Xh3 : zXR msx153_z (0) (0) h h3 := X.tr (c2 := 0) (s2 := 0) Qh3 (by decide +kernel) (by decide) (by decide)
  have Gh3_0 : gV h3 r := G_r.x Qh3
  have Jh3 : yR h3 := J.fr C Qh3 (by decide +kernel)
  have pr_h3 : r = zv h3 2 k ∧ ((k : Nat) : Int) < fld h3 2 2 := zpv C Qh3 (A := 2) (by decide) (by decide +kernel) P_r
  have Vh3 : zRq q h3 := V.fr C Qh3 (by decide +kernel)
  have G8 : n13 17 h3 (yNm0 (yC h 37 0)) := f2.cg (by rw [sv1])
  refine zwW_p [(1, 0, 2)] (q := 12) (ls' := [(2, 1), (2, r)]) (st' := [(2, 1)]) (by decide +kernel) rfl ?_
  refine zwW_gc Ch3.1 (kd := 12) (bn := 8) (n := 13) (c := 13) (nx := 15) (by decide +kernel) ?_
  refine zwW_p [(1, 1, 2)] (q := 16) (ls' := [(2, 1), (2, r)]) (st' := [(2, r), (2, 13)]) (by decide +kernel) rfl ?_
  refine zwX_gi Ch3 (kd := 11) (bn := 9) (n := 17) (nx := 19) (by decide +kernel) Gh3_0.2.1 Gh3_0.1 rfl ?_
  intro v4 ev4 lv4 uv4
  have sv4 : v4 = (yC h) 71 k := Eq.trans ev4 (Eq.trans (congrArg (fun q => fld h3 q 9) pr_h3.1) (Eq.trans (Eq.symm (yC_f (h := h3) (a := 71) (A := 2) (j := 9) (i := k) rfl pr_h3.2)) (Eq.trans (congrFun (congrFun Zh3 71) k) rfl)))
  refine zwW_cmv Ch3.1 (op := 60) (k' := 214) (n := 1) (kd := 9) (m := 6) (nx := 22) (r := 13) (tl := [(0, v4)]) (st' := []) (by decide +kernel) rfl (by decide +kernel) rfl (x214_n h3 Ch3 v4 (yNm0 (yC h 37 0)) (by omega) G8) ?_
  rintro h6 ⟨Ch6, Qh6, f5⟩
  have Zh6 : yC h6 = (yC h) := (yC_fr Ch3 Qh6 (by decide +kernel) (Ch3.1.b (a1 := 37) (a2 := 37) (j1 := 86) (j2 := 87) (lo := 0) (hi := 6) (by decide +kernel) (r := 37) (j := 86) (by decide) (by decide) (by decide) (by decide)).2).trans Zh3
  have Xh6 : zXR msx153_z (0) (0) h h6 := Xh3.tr (c2 := 0) (s2 := 0) Qh6 (by decide +kernel) (by decide) (by decide)
  have Gh6_0 : gV h6 r := Gh3_0.x Qh6
  have Jh6 : yR h6 := Jh3.fr Ch3 Qh6 (by decide +kernel)
  have pr_h6 : r = zv h6 2 k ∧ ((k : Nat) : Int) < fld h6 2 2 := zpv Ch3 Qh6 (A := 2) (by decide) (by decide +kernel) pr_h3
  have Vh6 : zRq q h6 := Vh3.fr Ch3 Qh6 (by decide +kernel)
  have G19 : n13 17 h6 (zu (yNm0 (yC h 37 0)) 12 (yC h 71 k)) := f5.cg (by rw [sv4])
  refine zwW_p [(1, 0, 2)] (q := 23) (ls' := [(2, 1), (2, r)]) (st' := [(2, 1)]) (by decide +kernel) rfl ?_
  refine zwW_gc Ch6.1 (kd := 12) (bn := 8) (n := 13) (c := 13) (nx := 26) (by decide +kernel) ?_
  refine zwW_p [(0, 2, 0), (1, 0, 2)] (q := 28) (ls' := [(2, 1), (2, r)]) (st' := [(2, 1), (0, 2), (2, 13)]) (by decide +kernel) rfl ?_
  refine zwW_gs Ch6.1 (kd := 12) (bn := 0) (n := 13) (t := 0) (lo := 0) (hi := 156) (nx := 31) (by decide +kernel) ?_
  intro v7 ev7 lv7 uv7
  have sv7 : v7 = (yC h) 37 0 := Eq.trans ev7 (Eq.trans (Eq.symm (yC_s (h := h6) (i := 0) rfl)) (Eq.trans (congrFun (congrFun Zh6 37) 0) rfl))
  refine zwW_cm Ch6.1 (op := 60) (k' := 172) (n := 2) (kd := 9) (m := 6) (nx := 34) (r := 13) (tl := [(0, 2), (0, v7)]) (st' := []) (by decide +kernel) rfl (by decide +kernel) rfl (x172_e h6 Ch6 2 v7 (by omega) (by omega) ⟨by decide, by decide⟩ Vh6.1.1 Vh6.1.2.1 Vh6.1.2.2 (G19.ns (eNs_dut ok (by have := P_r.2; omega))) Vh6.2.1.1 Vh6.2.1.2) ?_
  rintro v10 h11 ⟨Ch11, Qh11, f8, f9⟩
  have Zh11 : yC h11 = (yC h) := (yC_fr Ch6 Qh11 (by decide +kernel) (Ch6.1.b (a1 := 37) (a2 := 37) (j1 := 86) (j2 := 87) (lo := 0) (hi := 6) (by decide +kernel) (r := 37) (j := 86) (by decide) (by decide) (by decide) (by decide)).2).trans Zh6
  have Xh11 : zXR msx153_z (0) (0) h h11 := Xh6.tr (c2 := 0) (s2 := 0) Qh11 (by decide +kernel) (by decide) (by decide)
  have Gh11_0 : gV h11 r := Gh6_0.x Qh11
  have Jh11 : yR h11 := Jh6.fr Ch6 Qh11 (by decide +kernel)
  have pr_h11 : r = zv h11 2 k ∧ ((k : Nat) : Int) < fld h11 2 2 := zpv Ch6 Qh11 (A := 2) (by decide) (by decide +kernel) pr_h6
  have Vh11 : zRq q h11 := Vh6.fr Ch6 Qh11 (by decide +kernel)
  have A31 : v10 = q 2 (yC h 37 0) (zu (yNm0 (yC h 37 0)) 12 (yC h 71 k)) := by
    have z := f9
    rw [z, G19.tl, Vh6.2.2 _ _ _ (by decide) (by decide), sv7]
  refine zwW_p [(0, 0, 0)] (q := 35) (ls' := [(2, 1), (2, r)]) (st' := [(0, 0), (0, v10)]) (by decide +kernel) rfl ?_
  refine zwW_max (nx := 38) (by decide +kernel) rfl ?_
  intro v12 ev12
  refine zwW_ret (nx := 39) (a := 0) (b := 0) (by decide +kernel) rfl (Or.inl rfl) ?_
  exact ⟨Ch11, Xh11.le (by decide) (by decide), by omega, by omega, by unfold yDut; omega, by exact Jh11⟩
-- WheelLand$Village.choiceOf(II)I
theorem x154_z {sc : List Int} (h : Hp) (C : CI h) (r a b : Int) (G_r : gV h r) (q_a : -2147483648 ≤ a ∧ a ≤ 2147483647) (q_b : -2147483648 ≤ b ∧ b ≤ 2147483647) (J : yR h) (k : Nat) (P_r : r = zv h 2 k ∧ (k : Int) < fld h 2 2) : zwC sc 1 154 [(2, r), (0, a), (0, b)] h (zwRt 0 (fun x g => h = g ∧ (-2147483648 ≤ x ∧ x ≤ 2147483647) ∧ (x = yCho (yC h) k a b))) := by
  refine zwC_of (D := 0) 5 (by decide +kernel) rfl (ls := [(2, r), (0, a), (0, b), (9, 0), (9, 0)]) rfl ?_
  have lw_r := G_r.1
  have u0 : yC h 37 0 = fld h 1 0 := rfl
  have u1 : yC h 37 1 = fld h 2 2 := rfl
  have u2 : yC h 37 2 = fld h 3 2 := rfl
  have u64 : yC h 37 64 = fld h 4 2 := rfl
  have u78 : yC h 37 78 = fld h 5 2 := rfl
  refine zwW_p [(1, 0, 2)] (q := 1) (ls' := [(2, r), (0, a), (0, b), (9, 0), (9, 0)]) (st' := [(2, r)]) (by decide +kernel) rfl ?_
  refine zwX_gi C (kd := 11) (bn := 5) (n := 17) (nx := 4) (by decide +kernel) G_r.2.1 G_r.1 rfl ?_
  intro v1 ev1 lv1 uv1
  have sv1 : v1 = (yC h) 67 k := Eq.trans ev1 (Eq.trans (congrArg (fun q => fld h q 5) P_r.1) (Eq.trans (Eq.symm (yC_f (h := h) (a := 67) (A := 2) (j := 5) (i := k) rfl P_r.2)) (Eq.trans (congrFun (congrFun (rfl : yC h = yC h) 67) k) rfl)))
  refine zwW_p [(1, 0, 2)] (q := 5) (ls' := [(2, r), (0, a), (0, b), (9, 0), (9, 0)]) (st' := [(2, r), (0, v1)]) (by decide +kernel) rfl ?_
  refine zwX_gi C (kd := 11) (bn := 6) (n := 17) (nx := 8) (by decide +kernel) G_r.2.1 G_r.1 rfl ?_
  intro v2 ev2 lv2 uv2
  have sv2 : v2 = (yC h) 68 k := Eq.trans ev2 (Eq.trans (congrArg (fun q => fld h q 6) P_r.1) (Eq.trans (Eq.symm (yC_f (h := h) (a := 68) (A := 2) (j := 6) (i := k) rfl P_r.2)) (Eq.trans (congrFun (congrFun (rfl : yC h = yC h) 68) k) rfl)))
  refine zwW_adw (nx := 9) (by decide +kernel) ?_
  intro v3 ev3 lv3 uv3
  have Ev3 : v3 = w32 (((yC h) 67 k) + ((yC h) 68 k)) := by rw [ev3, sv1, sv2]
  refine zwif_le (q := 24) (nx := 12) (by decide +kernel) (fun c4 => ?_) (fun c4 => ?_)
  · refine zwW_p [(0, 0, 0), (2, 3, 0), (1, 0, 2)] (q := 27) (ls' := [(2, r), (0, a), (0, b), (0, 0), (9, 0)]) (st' := [(2, r)]) (by decide +kernel) rfl ?_
    refine zwX_gi C (kd := 11) (bn := 7) (n := 17) (nx := 30) (by decide +kernel) G_r.2.1 G_r.1 rfl ?_
    intro v5 ev5 lv5 uv5
    have sv5 : v5 = (yC h) 69 k := Eq.trans ev5 (Eq.trans (congrArg (fun q => fld h q 7) P_r.1) (Eq.trans (Eq.symm (yC_f (h := h) (a := 69) (A := 2) (j := 7) (i := k) rfl P_r.2)) (Eq.trans (congrFun (congrFun (rfl : yC h = yC h) 69) k) rfl)))
    refine zwif_le (q := 47) (nx := 33) (by decide +kernel) (fun c6 => ?_) (fun c6 => ?_)
    · refine zwW_p [(0, 0, 0), (2, 4, 0), (1, 3, 0)] (q := 51) (ls' := [(2, r), (0, a), (0, b), (0, 0), (0, 0)]) (st' := [(0, 0)]) (by decide +kernel) rfl ?_
      refine zwif_eq (q := 83) (nx := 54) (by decide +kernel) (fun c7 => ?_) (fun c7 => ?_)
      · refine zwW_p [(1, 3, 0)] (q := 84) (ls' := [(2, r), (0, a), (0, b), (0, 0), (0, 0)]) (st' := [(0, 0)]) (by decide +kernel) rfl ?_
        refine zwif_eq (q := 89) (nx := 87) (by decide +kernel) (fun c8 => ?_) (fun c8 => ?_)
        · refine zwW_p [(1, 4, 0)] (q := 91) (ls' := [(2, r), (0, a), (0, b), (0, 0), (0, 0)]) (st' := [(0, 0)]) (by decide +kernel) rfl ?_
          refine zwif_eq (q := 98) (nx := 94) (by decide +kernel) (fun c9 => ?_) (fun c9 => ?_)
          · refine zwW_p [(0, -1, 0)] (q := 99) (ls' := [(2, r), (0, a), (0, b), (0, 0), (0, 0)]) (st' := [(0, -1)]) (by decide +kernel) rfl ?_
            refine zwW_ret (nx := 100) (a := 0) (b := 0) (by decide +kernel) rfl (Or.inl rfl) ?_
            exact ⟨rfl, by omega, by unfold yCho; (repeat' (first | rw [if_pos (by omega)] | rw [if_neg (by omega)])); all_goals (first | rfl | omega)⟩
          · exfalso; omega
        · exfalso; omega
      · exfalso; omega
    · refine zwW_p [(1, 1, 0), (1, 0, 2)] (q := 35) (ls' := [(2, r), (0, a), (0, b), (0, 0), (9, 0)]) (st' := [(2, r), (0, a)]) (by decide +kernel) rfl ?_
      refine zwX_gi C (kd := 11) (bn := 9) (n := 17) (nx := 38) (by decide +kernel) G_r.2.1 G_r.1 rfl ?_
      intro v10 ev10 lv10 uv10
      have sv10 : v10 = (yC h) 71 k := Eq.trans ev10 (Eq.trans (congrArg (fun q => fld h q 9) P_r.1) (Eq.trans (Eq.symm (yC_f (h := h) (a := 71) (A := 2) (j := 9) (i := k) rfl P_r.2)) (Eq.trans (congrFun (congrFun (rfl : yC h = yC h) 71) k) rfl)))
      refine zwW_p [(1, 2, 0)] (q := 39) (ls' := [(2, r), (0, a), (0, b), (0, 0), (9, 0)]) (st' := [(0, b), (0, v10), (0, a)]) (by decide +kernel) rfl ?_
      refine zwW_adw (nx := 40) (by decide +kernel) ?_
      intro v11 ev11 lv11 uv11
      have Ev11 : v11 = w32 (((yC h) 71 k) + b) := by rw [ev11, sv10]
      refine zwic_lt (q := 47) (nx := 43) (by decide +kernel) (fun c12 => ?_) (fun c12 => ?_)
      · refine zwW_p [(0, 0, 0), (2, 4, 0), (1, 3, 0)] (q := 51) (ls' := [(2, r), (0, a), (0, b), (0, 0), (0, 0)]) (st' := [(0, 0)]) (by decide +kernel) rfl ?_
        refine zwif_eq (q := 83) (nx := 54) (by decide +kernel) (fun c13 => ?_) (fun c13 => ?_)
        · refine zwW_p [(1, 3, 0)] (q := 84) (ls' := [(2, r), (0, a), (0, b), (0, 0), (0, 0)]) (st' := [(0, 0)]) (by decide +kernel) rfl ?_
          refine zwif_eq (q := 89) (nx := 87) (by decide +kernel) (fun c14 => ?_) (fun c14 => ?_)
          · refine zwW_p [(1, 4, 0)] (q := 91) (ls' := [(2, r), (0, a), (0, b), (0, 0), (0, 0)]) (st' := [(0, 0)]) (by decide +kernel) rfl ?_
            refine zwif_eq (q := 98) (nx := 94) (by decide +kernel) (fun c15 => ?_) (fun c15 => ?_)
            · refine zwW_p [(0, -1, 0)] (q := 99) (ls' := [(2, r), (0, a), (0, b), (0, 0), (0, 0)]) (st' := [(0, -1)]) (by decide +kernel) rfl ?_
              refine zwW_ret (nx := 100) (a := 0) (b := 0) (by decide +kernel) rfl (Or.inl rfl) ?_
              exact ⟨rfl, by omega, by unfold yCho; (repeat' (first | rw [if_pos (by omega)] | rw [if_neg (by omega)])); all_goals (first | rfl | omega)⟩
            · exfalso; omega
          · exfalso; omega
        · exfalso; omega
      · refine zwW_p [(0, 1, 0), (24, 48, 0), (2, 4, 0), (1, 3, 0)] (q := 51) (ls' := [(2, r), (0, a), (0, b), (0, 0), (0, 1)]) (st' := [(0, 0)]) (by decide +kernel) rfl ?_
        refine zwif_eq (q := 83) (nx := 54) (by decide +kernel) (fun c16 => ?_) (fun c16 => ?_)
        · refine zwW_p [(1, 3, 0)] (q := 84) (ls' := [(2, r), (0, a), (0, b), (0, 0), (0, 1)]) (st' := [(0, 0)]) (by decide +kernel) rfl ?_
          refine zwif_eq (q := 89) (nx := 87) (by decide +kernel) (fun c17 => ?_) (fun c17 => ?_)
          · refine zwW_p [(1, 4, 0)] (q := 91) (ls' := [(2, r), (0, a), (0, b), (0, 0), (0, 1)]) (st' := [(0, 1)]) (by decide +kernel) rfl ?_
            refine zwif_eq (q := 98) (nx := 94) (by decide +kernel) (fun c18 => ?_) (fun c18 => ?_)
            · exfalso; omega
            · refine zwW_p [(0, 1, 0), (24, 99, 0)] (q := 99) (ls' := [(2, r), (0, a), (0, b), (0, 0), (0, 1)]) (st' := [(0, 1)]) (by decide +kernel) rfl ?_
              refine zwW_ret (nx := 100) (a := 0) (b := 0) (by decide +kernel) rfl (Or.inl rfl) ?_
              exact ⟨rfl, by omega, by unfold yCho; (repeat' (first | rw [if_pos (by omega)] | rw [if_neg (by omega)])); all_goals (first | rfl | omega)⟩
          · exfalso; omega
        · exfalso; omega
  · refine zwW_p [(1, 1, 0), (1, 0, 2)] (q := 14) (ls' := [(2, r), (0, a), (0, b), (9, 0), (9, 0)]) (st' := [(2, r), (0, a)]) (by decide +kernel) rfl ?_
    refine zwX_gi C (kd := 11) (bn := 8) (n := 17) (nx := 17) (by decide +kernel) G_r.2.1 G_r.1 rfl ?_
    intro v19 ev19 lv19 uv19
    have sv19 : v19 = (yC h) 70 k := Eq.trans ev19 (Eq.trans (congrArg (fun q => fld h q 8) P_r.1) (Eq.trans (Eq.symm (yC_f (h := h) (a := 70) (A := 2) (j := 8) (i := k) rfl P_r.2)) (Eq.trans (congrFun (congrFun (rfl : yC h = yC h) 70) k) rfl)))
    refine zwic_lt (q := 24) (nx := 20) (by decide +kernel) (fun c20 => ?_) (fun c20 => ?_)
    · refine zwW_p [(0, 0, 0), (2, 3, 0), (1, 0, 2)] (q := 27) (ls' := [(2, r), (0, a), (0, b), (0, 0), (9, 0)]) (st' := [(2, r)]) (by decide +kernel) rfl ?_
      refine zwX_gi C (kd := 11) (bn := 7) (n := 17) (nx := 30) (by decide +kernel) G_r.2.1 G_r.1 rfl ?_
      intro v21 ev21 lv21 uv21
      have sv21 : v21 = (yC h) 69 k := Eq.trans ev21 (Eq.trans (congrArg (fun q => fld h q 7) P_r.1) (Eq.trans (Eq.symm (yC_f (h := h) (a := 69) (A := 2) (j := 7) (i := k) rfl P_r.2)) (Eq.trans (congrFun (congrFun (rfl : yC h = yC h) 69) k) rfl)))
      refine zwif_le (q := 47) (nx := 33) (by decide +kernel) (fun c22 => ?_) (fun c22 => ?_)
      · refine zwW_p [(0, 0, 0), (2, 4, 0), (1, 3, 0)] (q := 51) (ls' := [(2, r), (0, a), (0, b), (0, 0), (0, 0)]) (st' := [(0, 0)]) (by decide +kernel) rfl ?_
        refine zwif_eq (q := 83) (nx := 54) (by decide +kernel) (fun c23 => ?_) (fun c23 => ?_)
        · refine zwW_p [(1, 3, 0)] (q := 84) (ls' := [(2, r), (0, a), (0, b), (0, 0), (0, 0)]) (st' := [(0, 0)]) (by decide +kernel) rfl ?_
          refine zwif_eq (q := 89) (nx := 87) (by decide +kernel) (fun c24 => ?_) (fun c24 => ?_)
          · refine zwW_p [(1, 4, 0)] (q := 91) (ls' := [(2, r), (0, a), (0, b), (0, 0), (0, 0)]) (st' := [(0, 0)]) (by decide +kernel) rfl ?_
            refine zwif_eq (q := 98) (nx := 94) (by decide +kernel) (fun c25 => ?_) (fun c25 => ?_)
            · refine zwW_p [(0, -1, 0)] (q := 99) (ls' := [(2, r), (0, a), (0, b), (0, 0), (0, 0)]) (st' := [(0, -1)]) (by decide +kernel) rfl ?_
              refine zwW_ret (nx := 100) (a := 0) (b := 0) (by decide +kernel) rfl (Or.inl rfl) ?_
              exact ⟨rfl, by omega, by unfold yCho; (repeat' (first | rw [if_pos (by omega)] | rw [if_neg (by omega)])); all_goals (first | rfl | omega)⟩
            · exfalso; omega
          · exfalso; omega
        · exfalso; omega
      · refine zwW_p [(1, 1, 0), (1, 0, 2)] (q := 35) (ls' := [(2, r), (0, a), (0, b), (0, 0), (9, 0)]) (st' := [(2, r), (0, a)]) (by decide +kernel) rfl ?_
        refine zwX_gi C (kd := 11) (bn := 9) (n := 17) (nx := 38) (by decide +kernel) G_r.2.1 G_r.1 rfl ?_
        intro v26 ev26 lv26 uv26
        have sv26 : v26 = (yC h) 71 k := Eq.trans ev26 (Eq.trans (congrArg (fun q => fld h q 9) P_r.1) (Eq.trans (Eq.symm (yC_f (h := h) (a := 71) (A := 2) (j := 9) (i := k) rfl P_r.2)) (Eq.trans (congrFun (congrFun (rfl : yC h = yC h) 71) k) rfl)))
        refine zwW_p [(1, 2, 0)] (q := 39) (ls' := [(2, r), (0, a), (0, b), (0, 0), (9, 0)]) (st' := [(0, b), (0, v26), (0, a)]) (by decide +kernel) rfl ?_
        refine zwW_adw (nx := 40) (by decide +kernel) ?_
        intro v27 ev27 lv27 uv27
        have Ev27 : v27 = w32 (((yC h) 71 k) + b) := by rw [ev27, sv26]
        refine zwic_lt (q := 47) (nx := 43) (by decide +kernel) (fun c28 => ?_) (fun c28 => ?_)
        · refine zwW_p [(0, 0, 0), (2, 4, 0), (1, 3, 0)] (q := 51) (ls' := [(2, r), (0, a), (0, b), (0, 0), (0, 0)]) (st' := [(0, 0)]) (by decide +kernel) rfl ?_
          refine zwif_eq (q := 83) (nx := 54) (by decide +kernel) (fun c29 => ?_) (fun c29 => ?_)
          · refine zwW_p [(1, 3, 0)] (q := 84) (ls' := [(2, r), (0, a), (0, b), (0, 0), (0, 0)]) (st' := [(0, 0)]) (by decide +kernel) rfl ?_
            refine zwif_eq (q := 89) (nx := 87) (by decide +kernel) (fun c30 => ?_) (fun c30 => ?_)
            · refine zwW_p [(1, 4, 0)] (q := 91) (ls' := [(2, r), (0, a), (0, b), (0, 0), (0, 0)]) (st' := [(0, 0)]) (by decide +kernel) rfl ?_
              refine zwif_eq (q := 98) (nx := 94) (by decide +kernel) (fun c31 => ?_) (fun c31 => ?_)
              · refine zwW_p [(0, -1, 0)] (q := 99) (ls' := [(2, r), (0, a), (0, b), (0, 0), (0, 0)]) (st' := [(0, -1)]) (by decide +kernel) rfl ?_
                refine zwW_ret (nx := 100) (a := 0) (b := 0) (by decide +kernel) rfl (Or.inl rfl) ?_
                exact ⟨rfl, by omega, by unfold yCho; (repeat' (first | rw [if_pos (by omega)] | rw [if_neg (by omega)])); all_goals (first | rfl | omega)⟩
              · exfalso; omega
            · exfalso; omega
          · exfalso; omega
        · refine zwW_p [(0, 1, 0), (24, 48, 0), (2, 4, 0), (1, 3, 0)] (q := 51) (ls' := [(2, r), (0, a), (0, b), (0, 0), (0, 1)]) (st' := [(0, 0)]) (by decide +kernel) rfl ?_
          refine zwif_eq (q := 83) (nx := 54) (by decide +kernel) (fun c32 => ?_) (fun c32 => ?_)
          · refine zwW_p [(1, 3, 0)] (q := 84) (ls' := [(2, r), (0, a), (0, b), (0, 0), (0, 1)]) (st' := [(0, 0)]) (by decide +kernel) rfl ?_
            refine zwif_eq (q := 89) (nx := 87) (by decide +kernel) (fun c33 => ?_) (fun c33 => ?_)
            · refine zwW_p [(1, 4, 0)] (q := 91) (ls' := [(2, r), (0, a), (0, b), (0, 0), (0, 1)]) (st' := [(0, 1)]) (by decide +kernel) rfl ?_
              refine zwif_eq (q := 98) (nx := 94) (by decide +kernel) (fun c34 => ?_) (fun c34 => ?_)
              · exfalso; omega
              · refine zwW_p [(0, 1, 0), (24, 99, 0)] (q := 99) (ls' := [(2, r), (0, a), (0, b), (0, 0), (0, 1)]) (st' := [(0, 1)]) (by decide +kernel) rfl ?_
                refine zwW_ret (nx := 100) (a := 0) (b := 0) (by decide +kernel) rfl (Or.inl rfl) ?_
                exact ⟨rfl, by omega, by unfold yCho; (repeat' (first | rw [if_pos (by omega)] | rw [if_neg (by omega)])); all_goals (first | rfl | omega)⟩
            · exfalso; omega
          · exfalso; omega
    · refine zwW_p [(0, 1, 0), (24, 25, 0), (2, 3, 0), (1, 0, 2)] (q := 27) (ls' := [(2, r), (0, a), (0, b), (0, 1), (9, 0)]) (st' := [(2, r)]) (by decide +kernel) rfl ?_
      refine zwX_gi C (kd := 11) (bn := 7) (n := 17) (nx := 30) (by decide +kernel) G_r.2.1 G_r.1 rfl ?_
      intro v35 ev35 lv35 uv35
      have sv35 : v35 = (yC h) 69 k := Eq.trans ev35 (Eq.trans (congrArg (fun q => fld h q 7) P_r.1) (Eq.trans (Eq.symm (yC_f (h := h) (a := 69) (A := 2) (j := 7) (i := k) rfl P_r.2)) (Eq.trans (congrFun (congrFun (rfl : yC h = yC h) 69) k) rfl)))
      refine zwif_le (q := 47) (nx := 33) (by decide +kernel) (fun c36 => ?_) (fun c36 => ?_)
      · refine zwW_p [(0, 0, 0), (2, 4, 0), (1, 3, 0)] (q := 51) (ls' := [(2, r), (0, a), (0, b), (0, 1), (0, 0)]) (st' := [(0, 1)]) (by decide +kernel) rfl ?_
        refine zwif_eq (q := 83) (nx := 54) (by decide +kernel) (fun c37 => ?_) (fun c37 => ?_)
        · exfalso; omega
        · refine zwW_p [(1, 4, 0)] (q := 56) (ls' := [(2, r), (0, a), (0, b), (0, 1), (0, 0)]) (st' := [(0, 0)]) (by decide +kernel) rfl ?_
          refine zwif_eq (q := 83) (nx := 59) (by decide +kernel) (fun c38 => ?_) (fun c38 => ?_)
          · refine zwW_p [(1, 3, 0)] (q := 84) (ls' := [(2, r), (0, a), (0, b), (0, 1), (0, 0)]) (st' := [(0, 1)]) (by decide +kernel) rfl ?_
            refine zwif_eq (q := 89) (nx := 87) (by decide +kernel) (fun c39 => ?_) (fun c39 => ?_)
            · exfalso; omega
            · refine zwW_p [(0, 0, 0)] (q := 88) (ls' := [(2, r), (0, a), (0, b), (0, 1), (0, 0)]) (st' := [(0, 0)]) (by decide +kernel) rfl ?_
              refine zwW_ret (nx := 89) (a := 0) (b := 0) (by decide +kernel) rfl (Or.inl rfl) ?_
              exact ⟨rfl, by omega, by unfold yCho; (repeat' (first | rw [if_pos (by omega)] | rw [if_neg (by omega)])); all_goals (first | rfl | omega)⟩
          · exfalso; omega
      · refine zwW_p [(1, 1, 0), (1, 0, 2)] (q := 35) (ls' := [(2, r), (0, a), (0, b), (0, 1), (9, 0)]) (st' := [(2, r), (0, a)]) (by decide +kernel) rfl ?_
        refine zwX_gi C (kd := 11) (bn := 9) (n := 17) (nx := 38) (by decide +kernel) G_r.2.1 G_r.1 rfl ?_
        intro v40 ev40 lv40 uv40
        have sv40 : v40 = (yC h) 71 k := Eq.trans ev40 (Eq.trans (congrArg (fun q => fld h q 9) P_r.1) (Eq.trans (Eq.symm (yC_f (h := h) (a := 71) (A := 2) (j := 9) (i := k) rfl P_r.2)) (Eq.trans (congrFun (congrFun (rfl : yC h = yC h) 71) k) rfl)))
        refine zwW_p [(1, 2, 0)] (q := 39) (ls' := [(2, r), (0, a), (0, b), (0, 1), (9, 0)]) (st' := [(0, b), (0, v40), (0, a)]) (by decide +kernel) rfl ?_
        refine zwW_adw (nx := 40) (by decide +kernel) ?_
        intro v41 ev41 lv41 uv41
        have Ev41 : v41 = w32 (((yC h) 71 k) + b) := by rw [ev41, sv40]
        refine zwic_lt (q := 47) (nx := 43) (by decide +kernel) (fun c42 => ?_) (fun c42 => ?_)
        · refine zwW_p [(0, 0, 0), (2, 4, 0), (1, 3, 0)] (q := 51) (ls' := [(2, r), (0, a), (0, b), (0, 1), (0, 0)]) (st' := [(0, 1)]) (by decide +kernel) rfl ?_
          refine zwif_eq (q := 83) (nx := 54) (by decide +kernel) (fun c43 => ?_) (fun c43 => ?_)
          · exfalso; omega
          · refine zwW_p [(1, 4, 0)] (q := 56) (ls' := [(2, r), (0, a), (0, b), (0, 1), (0, 0)]) (st' := [(0, 0)]) (by decide +kernel) rfl ?_
            refine zwif_eq (q := 83) (nx := 59) (by decide +kernel) (fun c44 => ?_) (fun c44 => ?_)
            · refine zwW_p [(1, 3, 0)] (q := 84) (ls' := [(2, r), (0, a), (0, b), (0, 1), (0, 0)]) (st' := [(0, 1)]) (by decide +kernel) rfl ?_
              refine zwif_eq (q := 89) (nx := 87) (by decide +kernel) (fun c45 => ?_) (fun c45 => ?_)
              · exfalso; omega
              · refine zwW_p [(0, 0, 0)] (q := 88) (ls' := [(2, r), (0, a), (0, b), (0, 1), (0, 0)]) (st' := [(0, 0)]) (by decide +kernel) rfl ?_
                refine zwW_ret (nx := 89) (a := 0) (b := 0) (by decide +kernel) rfl (Or.inl rfl) ?_
                exact ⟨rfl, by omega, by unfold yCho; (repeat' (first | rw [if_pos (by omega)] | rw [if_neg (by omega)])); all_goals (first | rfl | omega)⟩
            · exfalso; omega
        · refine zwW_p [(0, 1, 0), (24, 48, 0), (2, 4, 0), (1, 3, 0)] (q := 51) (ls' := [(2, r), (0, a), (0, b), (0, 1), (0, 1)]) (st' := [(0, 1)]) (by decide +kernel) rfl ?_
          refine zwif_eq (q := 83) (nx := 54) (by decide +kernel) (fun c46 => ?_) (fun c46 => ?_)
          · exfalso; omega
          · refine zwW_p [(1, 4, 0)] (q := 56) (ls' := [(2, r), (0, a), (0, b), (0, 1), (0, 1)]) (st' := [(0, 1)]) (by decide +kernel) rfl ?_
            refine zwif_eq (q := 83) (nx := 59) (by decide +kernel) (fun c47 => ?_) (fun c47 => ?_)
            · exfalso; omega
            · refine zwW_p [(1, 0, 2)] (q := 60) (ls' := [(2, r), (0, a), (0, b), (0, 1), (0, 1)]) (st' := [(2, r)]) (by decide +kernel) rfl ?_
              refine zwX_gi C (kd := 11) (bn := 8) (n := 17) (nx := 63) (by decide +kernel) G_r.2.1 G_r.1 rfl ?_
              intro v48 ev48 lv48 uv48
              have sv48 : v48 = (yC h) 70 k := Eq.trans ev48 (Eq.trans (congrArg (fun q => fld h q 8) P_r.1) (Eq.trans (Eq.symm (yC_f (h := h) (a := 70) (A := 2) (j := 8) (i := k) rfl P_r.2)) (Eq.trans (congrFun (congrFun (rfl : yC h = yC h) 70) k) rfl)))
              refine zwW_p [(1, 0, 2)] (q := 64) (ls' := [(2, r), (0, a), (0, b), (0, 1), (0, 1)]) (st' := [(2, r), (0, v48)]) (by decide +kernel) rfl ?_
              refine zwX_gi C (kd := 11) (bn := 9) (n := 17) (nx := 67) (by decide +kernel) G_r.2.1 G_r.1 rfl ?_
              intro v49 ev49 lv49 uv49
              have sv49 : v49 = (yC h) 71 k := Eq.trans ev49 (Eq.trans (congrArg (fun q => fld h q 9) P_r.1) (Eq.trans (Eq.symm (yC_f (h := h) (a := 71) (A := 2) (j := 9) (i := k) rfl P_r.2)) (Eq.trans (congrFun (congrFun (rfl : yC h = yC h) 71) k) rfl)))
              refine zwW_p [(1, 2, 0)] (q := 68) (ls' := [(2, r), (0, a), (0, b), (0, 1), (0, 1)]) (st' := [(0, b), (0, v49), (0, v48)]) (by decide +kernel) rfl ?_
              refine zwW_adw (nx := 69) (by decide +kernel) ?_
              intro v50 ev50 lv50 uv50
              have Ev50 : v50 = w32 (((yC h) 71 k) + b) := by rw [ev50, sv49]
              refine zwW_p [(1, 0, 2)] (q := 70) (ls' := [(2, r), (0, a), (0, b), (0, 1), (0, 1)]) (st' := [(2, r), (0, v50), (0, v48)]) (by decide +kernel) rfl ?_
              refine zwX_gi C (kd := 11) (bn := 4) (n := 17) (nx := 73) (by decide +kernel) G_r.2.1 G_r.1 rfl ?_
              intro v51 ev51 lv51 uv51
              have sv51 : v51 = (yC h) 72 k := Eq.trans ev51 (Eq.trans (congrArg (fun q => fld h q 4) P_r.1) (Eq.trans (Eq.symm (yC_f (h := h) (a := 72) (A := 2) (j := 4) (i := k) rfl P_r.2)) (Eq.trans (congrFun (congrFun (rfl : yC h = yC h) 72) k) rfl)))
              refine zwW_adw (nx := 74) (by decide +kernel) ?_
              intro v52 ev52 lv52 uv52
              have Ev52 : v52 = w32 ((w32 (((yC h) 71 k) + b)) + ((yC h) 72 k)) := by rw [ev52, Ev50, sv51]
              refine zwic_gt (q := 81) (nx := 77) (by decide +kernel) (fun c53 => ?_) (fun c53 => ?_)
              · refine zwW_p [(0, 1, 0)] (q := 82) (ls' := [(2, r), (0, a), (0, b), (0, 1), (0, 1)]) (st' := [(0, 1)]) (by decide +kernel) rfl ?_
                refine zwW_ret (nx := 83) (a := 0) (b := 0) (by decide +kernel) rfl (Or.inl rfl) ?_
                exact ⟨rfl, by omega, by unfold yCho; (repeat' (first | rw [if_pos (by omega)] | rw [if_neg (by omega)])); all_goals (first | rfl | omega)⟩
              · refine zwW_p [(0, 0, 0), (24, 82, 0)] (q := 82) (ls' := [(2, r), (0, a), (0, b), (0, 1), (0, 1)]) (st' := [(0, 0)]) (by decide +kernel) rfl ?_
                refine zwW_ret (nx := 83) (a := 0) (b := 0) (by decide +kernel) rfl (Or.inl rfl) ?_
                exact ⟨rfl, by omega, by unfold yCho; (repeat' (first | rw [if_pos (by omega)] | rw [if_neg (by omega)])); all_goals (first | rfl | omega)⟩
def msx258_z : Zms := [(1011, 1011, 5, 6), (1011, 1011, 6, 7), (1011, 1011, 10, 11), (1011, 1011, 13, 14)]
-- WheelLand$Village.sellHand()V
theorem x258_z {sc : List Int} (h : Hp) (C : CI h) (r : Int) (G_r : gV h r) (J : yR h) (k : Nat) (P_r : r = zv h 2 k ∧ (k : Int) < fld h 2 2) : zwC sc 1 258 [(2, r)] h (zwRv (fun g => CI g ∧ zXR msx258_z (0) (0) h g ∧ (yC g = ySlH (yC h) k) ∧ (yR g))) := by
  refine zwC_of (D := 0) 1 (by decide +kernel) rfl (ls := [(2, r)]) rfl ?_
  have lw_r := G_r.1
  have X : zXR msx258_z 0 0 h h := zXR.rf _ _
  have u0 : yC h 37 0 = fld h 1 0 := rfl
  have u1 : yC h 37 1 = fld h 2 2 := rfl
  have u2 : yC h 37 2 = fld h 3 2 := rfl
  have u64 : yC h 37 64 = fld h 4 2 := rfl
  have u78 : yC h 37 78 = fld h 5 2 := rfl
  refine zwW_p [(1, 0, 2)] (q := 1) (ls' := [(2, r)]) (st' := [(2, r)]) (by decide +kernel) rfl ?_
  refine zwX_gi C (kd := 11) (bn := 5) (n := 17) (nx := 4) (by decide +kernel) G_r.2.1 G_r.1 rfl ?_
  intro v1 ev1 lv1 uv1
  have sv1 : v1 = (yC h) 67 k := Eq.trans ev1 (Eq.trans (congrArg (fun q => fld h q 5) P_r.1) (Eq.trans (Eq.symm (yC_f (h := h) (a := 67) (A := 2) (j := 5) (i := k) rfl P_r.2)) (Eq.trans (congrFun (congrFun (rfl : yC h = yC h) 67) k) rfl)))
  refine zwif_le (q := 30) (nx := 7) (by decide +kernel) (fun c2 => ?_) (fun c2 => ?_)
  · refine zwW_p [(1, 0, 2), (12, 0, 0)] (q := 32) (ls' := [(2, r)]) (st' := [(2, r), (2, r)]) (by decide +kernel) rfl ?_
    refine zwX_gi C (kd := 11) (bn := 6) (n := 17) (nx := 35) (by decide +kernel) G_r.2.1 G_r.1 rfl ?_
    intro v3 ev3 lv3 uv3
    have sv3 : v3 = (yC h) 68 k := Eq.trans ev3 (Eq.trans (congrArg (fun q => fld h q 6) P_r.1) (Eq.trans (Eq.symm (yC_f (h := h) (a := 68) (A := 2) (j := 6) (i := k) rfl P_r.2)) (Eq.trans (congrFun (congrFun (rfl : yC h = yC h) 68) k) rfl)))
    refine zwW_p [(0, 1, 0)] (q := 36) (ls' := [(2, r)]) (st' := [(0, 1), (0, v3), (2, r)]) (by decide +kernel) rfl ?_
    refine zwW_sbw (nx := 37) (by decide +kernel) ?_
    intro v4 ev4 lv4 uv4
    have Ev4 : v4 = w32 (((yC h) 68 k) - 1) := by rw [ev4, sv3]
    refine zwX_pi C (kd := 11) (bn := 6) (n := 17) (nx := 40) (by decide +kernel) G_r.2.1 G_r.1 ⟨by omega, by omega⟩ ?_
    rintro h5 eh5 Ch5 Qh5
    have Zh5 : yC h5 = (zs (yC h) 68 k (w32 (((yC h) 68 k) - 1))) := by rw [yC_w (a := 68) (A := 2) (j := 6) (k := k) C J rfl P_r eh5, Ev4]
    have Xh5 : zXR msx258_z (0) (0) h h5 := X.tr (c2 := 0) (s2 := 0) Qh5 (by decide +kernel) (by decide) (by decide)
    have Gh5_0 : gV h5 r := G_r.x Qh5
    have Jh5 : yR h5 := J.fr C Qh5 (by decide +kernel)
    have pr_h5 : r = zv h5 2 k ∧ ((k : Nat) : Int) < fld h5 2 2 := zpv C Qh5 (A := 2) (by decide) (by decide +kernel) P_r
    refine zwW_p [(1, 0, 2), (12, 0, 0)] (q := 42) (ls' := [(2, r)]) (st' := [(2, r), (2, r)]) (by decide +kernel) rfl ?_
    refine zwX_gi Ch5 (kd := 11) (bn := 10) (n := 17) (nx := 45) (by decide +kernel) Gh5_0.2.1 Gh5_0.1 rfl ?_
    intro v6 ev6 lv6 uv6
    have sv6 : v6 = (yC h) 73 k := Eq.trans ev6 (Eq.trans (congrArg (fun q => fld h5 q 10) pr_h5.1) (Eq.trans (Eq.symm (yC_f (h := h5) (a := 73) (A := 2) (j := 10) (i := k) rfl pr_h5.2)) (Eq.trans (congrFun (congrFun Zh5 73) k) (Eq.trans (zs_na (by decide) : (zs (yC h) 68 k (w32 (((yC h) 68 k) - 1))) 73 k = (yC h) 73 k) rfl))))
    refine zwW_p [(1, 0, 2)] (q := 46) (ls' := [(2, r)]) (st' := [(2, r), (0, v6), (2, r)]) (by decide +kernel) rfl ?_
    refine zwX_gi Ch5 (kd := 11) (bn := 8) (n := 17) (nx := 49) (by decide +kernel) Gh5_0.2.1 Gh5_0.1 rfl ?_
    intro v7 ev7 lv7 uv7
    have sv7 : v7 = (yC h) 70 k := Eq.trans ev7 (Eq.trans (congrArg (fun q => fld h5 q 8) pr_h5.1) (Eq.trans (Eq.symm (yC_f (h := h5) (a := 70) (A := 2) (j := 8) (i := k) rfl pr_h5.2)) (Eq.trans (congrFun (congrFun Zh5 70) k) (Eq.trans (zs_na (by decide) : (zs (yC h) 68 k (w32 (((yC h) 68 k) - 1))) 70 k = (yC h) 70 k) rfl))))
    refine zwW_adw (nx := 50) (by decide +kernel) ?_
    intro v8 ev8 lv8 uv8
    have Ev8 : v8 = w32 (((yC h) 73 k) + ((yC h) 70 k)) := by rw [ev8, sv6, sv7]
    refine zwX_pi Ch5 (kd := 11) (bn := 10) (n := 17) (nx := 53) (by decide +kernel) Gh5_0.2.1 Gh5_0.1 ⟨by omega, by omega⟩ ?_
    rintro h9 eh9 Ch9 Qh9
    have Zh9 : yC h9 = (zs (zs (yC h) 68 k (w32 (((yC h) 68 k) - 1))) 73 k (w32 (((yC h) 73 k) + ((yC h) 70 k)))) := by rw [yC_w (a := 73) (A := 2) (j := 10) (k := k) Ch5 Jh5 rfl pr_h5 eh9, Zh5, Ev8]
    have Xh9 : zXR msx258_z (0) (0) h h9 := Xh5.tr (c2 := 0) (s2 := 0) Qh9 (by decide +kernel) (by decide) (by decide)
    have Gh9_0 : gV h9 r := Gh5_0.x Qh9
    have Jh9 : yR h9 := Jh5.fr Ch5 Qh9 (by decide +kernel)
    have pr_h9 : r = zv h9 2 k ∧ ((k : Nat) : Int) < fld h9 2 2 := zpv Ch5 Qh9 (A := 2) (by decide) (by decide +kernel) pr_h5
    refine zwW_retv (nx := 54) (a := 0) (b := 0) (by decide +kernel) ?_
    exact ⟨Ch9, Xh9.le (by decide) (by decide), by refine Eq.trans Zh9 ?_; unfold ySlH; (repeat' (first | rw [if_pos (by omega)] | rw [if_neg (by omega)])); all_goals (repeat' (first | rfl | omega | apply zs_cg)), by exact Jh9⟩
  · refine zwW_p [(1, 0, 2), (12, 0, 0)] (q := 9) (ls' := [(2, r)]) (st' := [(2, r), (2, r)]) (by decide +kernel) rfl ?_
    refine zwX_gi C (kd := 11) (bn := 5) (n := 17) (nx := 12) (by decide +kernel) G_r.2.1 G_r.1 rfl ?_
    intro v10 ev10 lv10 uv10
    have sv10 : v10 = (yC h) 67 k := Eq.trans ev10 (Eq.trans (congrArg (fun q => fld h q 5) P_r.1) (Eq.trans (Eq.symm (yC_f (h := h) (a := 67) (A := 2) (j := 5) (i := k) rfl P_r.2)) (Eq.trans (congrFun (congrFun (rfl : yC h = yC h) 67) k) rfl)))
    refine zwW_p [(0, 1, 0)] (q := 13) (ls' := [(2, r)]) (st' := [(0, 1), (0, v10), (2, r)]) (by decide +kernel) rfl ?_
    refine zwW_sbw (nx := 14) (by decide +kernel) ?_
    intro v11 ev11 lv11 uv11
    have Ev11 : v11 = w32 (((yC h) 67 k) - 1) := by rw [ev11, sv10]
    refine zwX_pi C (kd := 11) (bn := 5) (n := 17) (nx := 17) (by decide +kernel) G_r.2.1 G_r.1 ⟨by omega, by omega⟩ ?_
    rintro h12 eh12 Ch12 Qh12
    have Zh12 : yC h12 = (zs (yC h) 67 k (w32 (((yC h) 67 k) - 1))) := by rw [yC_w (a := 67) (A := 2) (j := 5) (k := k) C J rfl P_r eh12, Ev11]
    have Xh12 : zXR msx258_z (0) (0) h h12 := X.tr (c2 := 0) (s2 := 0) Qh12 (by decide +kernel) (by decide) (by decide)
    have Gh12_0 : gV h12 r := G_r.x Qh12
    have Jh12 : yR h12 := J.fr C Qh12 (by decide +kernel)
    have pr_h12 : r = zv h12 2 k ∧ ((k : Nat) : Int) < fld h12 2 2 := zpv C Qh12 (A := 2) (by decide) (by decide +kernel) P_r
    refine zwW_p [(1, 0, 2), (12, 0, 0)] (q := 19) (ls' := [(2, r)]) (st' := [(2, r), (2, r)]) (by decide +kernel) rfl ?_
    refine zwX_gi Ch12 (kd := 11) (bn := 13) (n := 17) (nx := 22) (by decide +kernel) Gh12_0.2.1 Gh12_0.1 rfl ?_
    intro v13 ev13 lv13 uv13
    have sv13 : v13 = (yC h) 76 k := Eq.trans ev13 (Eq.trans (congrArg (fun q => fld h12 q 13) pr_h12.1) (Eq.trans (Eq.symm (yC_f (h := h12) (a := 76) (A := 2) (j := 13) (i := k) rfl pr_h12.2)) (Eq.trans (congrFun (congrFun Zh12 76) k) (Eq.trans (zs_na (by decide) : (zs (yC h) 67 k (w32 (((yC h) 67 k) - 1))) 76 k = (yC h) 76 k) rfl))))
    refine zwW_p [(0, 1, 0)] (q := 23) (ls' := [(2, r)]) (st' := [(0, 1), (0, v13), (2, r)]) (by decide +kernel) rfl ?_
    refine zwW_adw (nx := 24) (by decide +kernel) ?_
    intro v14 ev14 lv14 uv14
    have Ev14 : v14 = w32 (((yC h) 76 k) + 1) := by rw [ev14, sv13]
    refine zwX_pi Ch12 (kd := 11) (bn := 13) (n := 17) (nx := 27) (by decide +kernel) Gh12_0.2.1 Gh12_0.1 ⟨by omega, by omega⟩ ?_
    rintro h15 eh15 Ch15 Qh15
    have Zh15 : yC h15 = (zs (zs (yC h) 67 k (w32 (((yC h) 67 k) - 1))) 76 k (w32 (((yC h) 76 k) + 1))) := by rw [yC_w (a := 76) (A := 2) (j := 13) (k := k) Ch12 Jh12 rfl pr_h12 eh15, Zh12, Ev14]
    have Xh15 : zXR msx258_z (0) (0) h h15 := Xh12.tr (c2 := 0) (s2 := 0) Qh15 (by decide +kernel) (by decide) (by decide)
    have Gh15_0 : gV h15 r := Gh12_0.x Qh15
    have Jh15 : yR h15 := Jh12.fr Ch12 Qh15 (by decide +kernel)
    have pr_h15 : r = zv h15 2 k ∧ ((k : Nat) : Int) < fld h15 2 2 := zpv Ch12 Qh15 (A := 2) (by decide) (by decide +kernel) pr_h12
    refine zwW_p [(24, 40, 0), (1, 0, 2), (12, 0, 0)] (q := 42) (ls' := [(2, r)]) (st' := [(2, r), (2, r)]) (by decide +kernel) rfl ?_
    refine zwX_gi Ch15 (kd := 11) (bn := 10) (n := 17) (nx := 45) (by decide +kernel) Gh15_0.2.1 Gh15_0.1 rfl ?_
    intro v16 ev16 lv16 uv16
    have sv16 : v16 = (yC h) 73 k := Eq.trans ev16 (Eq.trans (congrArg (fun q => fld h15 q 10) pr_h15.1) (Eq.trans (Eq.symm (yC_f (h := h15) (a := 73) (A := 2) (j := 10) (i := k) rfl pr_h15.2)) (Eq.trans (congrFun (congrFun Zh15 73) k) (Eq.trans (zs_na (by decide) : (zs (zs (yC h) 67 k (w32 (((yC h) 67 k) - 1))) 76 k (w32 (((yC h) 76 k) + 1))) 73 k = (zs (yC h) 67 k (w32 (((yC h) 67 k) - 1))) 73 k) (Eq.trans (zs_na (by decide) : (zs (yC h) 67 k (w32 (((yC h) 67 k) - 1))) 73 k = (yC h) 73 k) rfl)))))
    refine zwW_p [(1, 0, 2)] (q := 46) (ls' := [(2, r)]) (st' := [(2, r), (0, v16), (2, r)]) (by decide +kernel) rfl ?_
    refine zwX_gi Ch15 (kd := 11) (bn := 8) (n := 17) (nx := 49) (by decide +kernel) Gh15_0.2.1 Gh15_0.1 rfl ?_
    intro v17 ev17 lv17 uv17
    have sv17 : v17 = (yC h) 70 k := Eq.trans ev17 (Eq.trans (congrArg (fun q => fld h15 q 8) pr_h15.1) (Eq.trans (Eq.symm (yC_f (h := h15) (a := 70) (A := 2) (j := 8) (i := k) rfl pr_h15.2)) (Eq.trans (congrFun (congrFun Zh15 70) k) (Eq.trans (zs_na (by decide) : (zs (zs (yC h) 67 k (w32 (((yC h) 67 k) - 1))) 76 k (w32 (((yC h) 76 k) + 1))) 70 k = (zs (yC h) 67 k (w32 (((yC h) 67 k) - 1))) 70 k) (Eq.trans (zs_na (by decide) : (zs (yC h) 67 k (w32 (((yC h) 67 k) - 1))) 70 k = (yC h) 70 k) rfl)))))
    refine zwW_adw (nx := 50) (by decide +kernel) ?_
    intro v18 ev18 lv18 uv18
    have Ev18 : v18 = w32 (((yC h) 73 k) + ((yC h) 70 k)) := by rw [ev18, sv16, sv17]
    refine zwX_pi Ch15 (kd := 11) (bn := 10) (n := 17) (nx := 53) (by decide +kernel) Gh15_0.2.1 Gh15_0.1 ⟨by omega, by omega⟩ ?_
    rintro h19 eh19 Ch19 Qh19
    have Uh19 : yC h19 = (zs (zs (zs (yC h) 67 k (w32 (((yC h) 67 k) - 1))) 76 k (w32 (((yC h) 76 k) + 1))) 73 k (w32 (((yC h) 73 k) + ((yC h) 70 k)))) := by rw [yC_w (a := 73) (A := 2) (j := 10) (k := k) Ch15 Jh15 rfl pr_h15 eh19, Zh15, Ev18]
    have Zh19 : yC h19 = (zs (zs (zs (yC h) 67 k (w32 (((yC h) 67 k) - 1))) 73 k (w32 (((yC h) 73 k) + ((yC h) 70 k)))) 76 k (w32 (((yC h) 76 k) + 1))) := by rw [Uh19, zs_sw (a := 76) (b := 73) (by decide)]
    have Xh19 : zXR msx258_z (0) (0) h h19 := Xh15.tr (c2 := 0) (s2 := 0) Qh19 (by decide +kernel) (by decide) (by decide)
    have Gh19_0 : gV h19 r := Gh15_0.x Qh19
    have Jh19 : yR h19 := Jh15.fr Ch15 Qh19 (by decide +kernel)
    have pr_h19 : r = zv h19 2 k ∧ ((k : Nat) : Int) < fld h19 2 2 := zpv Ch15 Qh19 (A := 2) (by decide) (by decide +kernel) pr_h15
    refine zwW_retv (nx := 54) (a := 0) (b := 0) (by decide +kernel) ?_
    exact ⟨Ch19, Xh19.le (by decide) (by decide), by refine Eq.trans Zh19 ?_; unfold ySlH; (repeat' (first | rw [if_pos (by omega)] | rw [if_neg (by omega)])); all_goals (repeat' (first | rfl | omega | apply zs_cg)), by exact Jh19⟩
def msx259_z : Zms := [(1011, 1011, 7, 8), (1011, 1011, 10, 11), (1011, 1011, 14, 15)]
-- WheelLand$Village.sellMill()V
theorem x259_z {sc : List Int} (h : Hp) (C : CI h) (r : Int) (G_r : gV h r) (J : yR h) (k : Nat) (P_r : r = zv h 2 k ∧ (k : Int) < fld h 2 2) : zwC sc 1 259 [(2, r)] h (zwRv (fun g => CI g ∧ zXR msx259_z (0) (0) h g ∧ (yC g = ySlM (yC h) k) ∧ (yR g))) := by
  refine zwC_of (D := 0) 1 (by decide +kernel) rfl (ls := [(2, r)]) rfl ?_
  have lw_r := G_r.1
  have X : zXR msx259_z 0 0 h h := zXR.rf _ _
  have u0 : yC h 37 0 = fld h 1 0 := rfl
  have u1 : yC h 37 1 = fld h 2 2 := rfl
  have u2 : yC h 37 2 = fld h 3 2 := rfl
  have u64 : yC h 37 64 = fld h 4 2 := rfl
  have u78 : yC h 37 78 = fld h 5 2 := rfl
  refine zwW_p [(1, 0, 2), (12, 0, 0)] (q := 2) (ls' := [(2, r)]) (st' := [(2, r), (2, r)]) (by decide +kernel) rfl ?_
  refine zwX_gi C (kd := 11) (bn := 7) (n := 17) (nx := 5) (by decide +kernel) G_r.2.1 G_r.1 rfl ?_
  intro v1 ev1 lv1 uv1
  have sv1 : v1 = (yC h) 69 k := Eq.trans ev1 (Eq.trans (congrArg (fun q => fld h q 7) P_r.1) (Eq.trans (Eq.symm (yC_f (h := h) (a := 69) (A := 2) (j := 7) (i := k) rfl P_r.2)) (Eq.trans (congrFun (congrFun (rfl : yC h = yC h) 69) k) rfl)))
  refine zwW_p [(0, 1, 0)] (q := 6) (ls' := [(2, r)]) (st' := [(0, 1), (0, v1), (2, r)]) (by decide +kernel) rfl ?_
  refine zwW_sbw (nx := 7) (by decide +kernel) ?_
  intro v2 ev2 lv2 uv2
  have Ev2 : v2 = w32 (((yC h) 69 k) - 1) := by rw [ev2, sv1]
  refine zwX_pi C (kd := 11) (bn := 7) (n := 17) (nx := 10) (by decide +kernel) G_r.2.1 G_r.1 ⟨by omega, by omega⟩ ?_
  rintro h3 eh3 Ch3 Qh3
  have Zh3 : yC h3 = (zs (yC h) 69 k (w32 (((yC h) 69 k) - 1))) := by rw [yC_w (a := 69) (A := 2) (j := 7) (k := k) C J rfl P_r eh3, Ev2]
  have Xh3 : zXR msx259_z (0) (0) h h3 := X.tr (c2 := 0) (s2 := 0) Qh3 (by decide +kernel) (by decide) (by decide)
  have Gh3_0 : gV h3 r := G_r.x Qh3
  have Jh3 : yR h3 := J.fr C Qh3 (by decide +kernel)
  have pr_h3 : r = zv h3 2 k ∧ ((k : Nat) : Int) < fld h3 2 2 := zpv C Qh3 (A := 2) (by decide) (by decide +kernel) P_r
  refine zwW_p [(1, 0, 2), (12, 0, 0)] (q := 12) (ls' := [(2, r)]) (st' := [(2, r), (2, r)]) (by decide +kernel) rfl ?_
  refine zwX_gi Ch3 (kd := 11) (bn := 14) (n := 17) (nx := 15) (by decide +kernel) Gh3_0.2.1 Gh3_0.1 rfl ?_
  intro v4 ev4 lv4 uv4
  have sv4 : v4 = (yC h) 77 k := Eq.trans ev4 (Eq.trans (congrArg (fun q => fld h3 q 14) pr_h3.1) (Eq.trans (Eq.symm (yC_f (h := h3) (a := 77) (A := 2) (j := 14) (i := k) rfl pr_h3.2)) (Eq.trans (congrFun (congrFun Zh3 77) k) (Eq.trans (zs_na (by decide) : (zs (yC h) 69 k (w32 (((yC h) 69 k) - 1))) 77 k = (yC h) 77 k) rfl))))
  refine zwW_p [(0, 1, 0)] (q := 16) (ls' := [(2, r)]) (st' := [(0, 1), (0, v4), (2, r)]) (by decide +kernel) rfl ?_
  refine zwW_adw (nx := 17) (by decide +kernel) ?_
  intro v5 ev5 lv5 uv5
  have Ev5 : v5 = w32 (((yC h) 77 k) + 1) := by rw [ev5, sv4]
  refine zwX_pi Ch3 (kd := 11) (bn := 14) (n := 17) (nx := 20) (by decide +kernel) Gh3_0.2.1 Gh3_0.1 ⟨by omega, by omega⟩ ?_
  rintro h6 eh6 Ch6 Qh6
  have Zh6 : yC h6 = (zs (zs (yC h) 69 k (w32 (((yC h) 69 k) - 1))) 77 k (w32 (((yC h) 77 k) + 1))) := by rw [yC_w (a := 77) (A := 2) (j := 14) (k := k) Ch3 Jh3 rfl pr_h3 eh6, Zh3, Ev5]
  have Xh6 : zXR msx259_z (0) (0) h h6 := Xh3.tr (c2 := 0) (s2 := 0) Qh6 (by decide +kernel) (by decide) (by decide)
  have Gh6_0 : gV h6 r := Gh3_0.x Qh6
  have Jh6 : yR h6 := Jh3.fr Ch3 Qh6 (by decide +kernel)
  have pr_h6 : r = zv h6 2 k ∧ ((k : Nat) : Int) < fld h6 2 2 := zpv Ch3 Qh6 (A := 2) (by decide) (by decide +kernel) pr_h3
  refine zwW_p [(1, 0, 2), (12, 0, 0)] (q := 22) (ls' := [(2, r)]) (st' := [(2, r), (2, r)]) (by decide +kernel) rfl ?_
  refine zwX_gi Ch6 (kd := 11) (bn := 10) (n := 17) (nx := 25) (by decide +kernel) Gh6_0.2.1 Gh6_0.1 rfl ?_
  intro v7 ev7 lv7 uv7
  have sv7 : v7 = (yC h) 73 k := Eq.trans ev7 (Eq.trans (congrArg (fun q => fld h6 q 10) pr_h6.1) (Eq.trans (Eq.symm (yC_f (h := h6) (a := 73) (A := 2) (j := 10) (i := k) rfl pr_h6.2)) (Eq.trans (congrFun (congrFun Zh6 73) k) (Eq.trans (zs_na (by decide) : (zs (zs (yC h) 69 k (w32 (((yC h) 69 k) - 1))) 77 k (w32 (((yC h) 77 k) + 1))) 73 k = (zs (yC h) 69 k (w32 (((yC h) 69 k) - 1))) 73 k) (Eq.trans (zs_na (by decide) : (zs (yC h) 69 k (w32 (((yC h) 69 k) - 1))) 73 k = (yC h) 73 k) rfl)))))
  refine zwW_p [(1, 0, 2)] (q := 26) (ls' := [(2, r)]) (st' := [(2, r), (0, v7), (2, r)]) (by decide +kernel) rfl ?_
  refine zwX_gi Ch6 (kd := 11) (bn := 9) (n := 17) (nx := 29) (by decide +kernel) Gh6_0.2.1 Gh6_0.1 rfl ?_
  intro v8 ev8 lv8 uv8
  have sv8 : v8 = (yC h) 71 k := Eq.trans ev8 (Eq.trans (congrArg (fun q => fld h6 q 9) pr_h6.1) (Eq.trans (Eq.symm (yC_f (h := h6) (a := 71) (A := 2) (j := 9) (i := k) rfl pr_h6.2)) (Eq.trans (congrFun (congrFun Zh6 71) k) (Eq.trans (zs_na (by decide) : (zs (zs (yC h) 69 k (w32 (((yC h) 69 k) - 1))) 77 k (w32 (((yC h) 77 k) + 1))) 71 k = (zs (yC h) 69 k (w32 (((yC h) 69 k) - 1))) 71 k) (Eq.trans (zs_na (by decide) : (zs (yC h) 69 k (w32 (((yC h) 69 k) - 1))) 71 k = (yC h) 71 k) rfl)))))
  refine zwW_adw (nx := 30) (by decide +kernel) ?_
  intro v9 ev9 lv9 uv9
  have Ev9 : v9 = w32 (((yC h) 73 k) + ((yC h) 71 k)) := by rw [ev9, sv7, sv8]
  refine zwX_pi Ch6 (kd := 11) (bn := 10) (n := 17) (nx := 33) (by decide +kernel) Gh6_0.2.1 Gh6_0.1 ⟨by omega, by omega⟩ ?_
  rintro h10 eh10 Ch10 Qh10
  have Uh10 : yC h10 = (zs (zs (zs (yC h) 69 k (w32 (((yC h) 69 k) - 1))) 77 k (w32 (((yC h) 77 k) + 1))) 73 k (w32 (((yC h) 73 k) + ((yC h) 71 k)))) := by rw [yC_w (a := 73) (A := 2) (j := 10) (k := k) Ch6 Jh6 rfl pr_h6 eh10, Zh6, Ev9]
  have Zh10 : yC h10 = (zs (zs (zs (yC h) 69 k (w32 (((yC h) 69 k) - 1))) 73 k (w32 (((yC h) 73 k) + ((yC h) 71 k)))) 77 k (w32 (((yC h) 77 k) + 1))) := by rw [Uh10, zs_sw (a := 77) (b := 73) (by decide)]
  have Xh10 : zXR msx259_z (0) (0) h h10 := Xh6.tr (c2 := 0) (s2 := 0) Qh10 (by decide +kernel) (by decide) (by decide)
  have Gh10_0 : gV h10 r := Gh6_0.x Qh10
  have Jh10 : yR h10 := Jh6.fr Ch6 Qh10 (by decide +kernel)
  have pr_h10 : r = zv h10 2 k ∧ ((k : Nat) : Int) < fld h10 2 2 := zpv Ch6 Qh10 (A := 2) (by decide) (by decide +kernel) pr_h6
  refine zwW_retv (nx := 34) (a := 0) (b := 0) (by decide +kernel) ?_
  exact ⟨Ch10, Xh10.le (by decide) (by decide), by refine Eq.trans Zh10 ?_; unfold ySlM; (repeat' (first | rw [if_pos (by omega)] | rw [if_neg (by omega)])); all_goals (repeat' (first | rfl | omega | apply zs_cg)), by exact Jh10⟩
def msx232_z : Zms := [(1, 1, 1, 2), (1004, 1004, 6, 7), (1004, 1004, 8, 9), (1004, 1004, 9, 10), (1004, 1004, 10, 11), (1011, 1011, 5, 6), (1011, 1011, 6, 7), (1011, 1011, 7, 8), (1011, 1011, 10, 11), (1011, 1011, 13, 14), (1011, 1011, 14, 15)]
-- WheelLand.buyYard(LWheelLand$House;I)V
theorem x232_z {sc : List Int} (h : Hp) (C : CI h) (r a : Int) (G_r : gH h r) (q_a : -2147483648 ≤ a ∧ a ≤ 2147483647) (J : yR h) (k : Nat) (P_r : r = zv h 3 k ∧ (k : Int) < fld h 3 2) : zwC sc 2 232 [(2, 1), (2, r), (0, a)] h (zwRv (fun g => CI g ∧ zXR msx232_z (0) (0) h g ∧ (yC g = yByd (yC h) k a) ∧ (yR g))) := by
  refine zwC_of (D := 1) 5 (by decide +kernel) rfl (ls := [(2, 1), (2, r), (0, a), (9, 0), (9, 0)]) rfl ?_
  have lw_r := G_r.1
  have X : zXR msx232_z 0 0 h h := zXR.rf _ _
  have u0 : yC h 37 0 = fld h 1 0 := rfl
  have u1 : yC h 37 1 = fld h 2 2 := rfl
  have u2 : yC h 37 2 = fld h 3 2 := rfl
  have u64 : yC h 37 64 = fld h 4 2 := rfl
  have u78 : yC h 37 78 = fld h 5 2 := rfl
  refine zwW_p [(1, 1, 2)] (q := 1) (ls' := [(2, 1), (2, r), (0, a), (9, 0), (9, 0)]) (st' := [(2, r)]) (by decide +kernel) rfl ?_
  refine zwW_get (kd := 4) (bn := 1) (t := 2) (n := 19) (nx := 4) (by decide +kernel) G_r.2.1 rfl ?_
  obtain ⟨v1, ev1⟩ : ∃ z, z = fld h r 1 := ⟨_, rfl⟩
  rw [← ev1]
  have Gv1 : gV h v1 := by rw [ev1]; exact G_r.2.2
  have lv1 := Gv1.1
  have qv1 : yC h 79 k = (yC h) 79 k := Eq.trans (congrFun (congrFun (rfl : yC h = yC h) 79) k) rfl
  have wv1 := J.r (a := 79) (A := 3) (j := 1) (B := 2) (i := k) rfl P_r.2
  rw [qv1] at wv1
  have pv1 : v1 = zv h 2 (((yC h) 79 k).toNat) ∧ ((((yC h) 79 k).toNat : Nat) : Int) < fld h 2 2 := ⟨by rw [ev1, P_r.1]; exact wv1.2.2, wv1.2.1⟩
  refine zwW_p [(2, 3, 2), (1, 3, 2), (1, 1, 2)] (q := 7) (ls' := [(2, 1), (2, r), (0, a), (2, v1), (9, 0)]) (st' := [(2, r), (2, v1)]) (by decide +kernel) rfl ?_
  refine zwX_gi C (kd := 4) (bn := 6) (n := 19) (nx := 10) (by decide +kernel) G_r.2.1 G_r.1 rfl ?_
  intro v2 ev2 lv2 uv2
  have sv2 : v2 = (yC h) 84 k := Eq.trans ev2 (Eq.trans (congrArg (fun q => fld h q 6) P_r.1) (Eq.trans (Eq.symm (yC_f (h := h) (a := 84) (A := 3) (j := 6) (i := k) rfl P_r.2)) (Eq.trans (congrFun (congrFun (rfl : yC h = yC h) 84) k) rfl)))
  refine zwW_p [(1, 2, 0)] (q := 11) (ls' := [(2, 1), (2, r), (0, a), (2, v1), (9, 0)]) (st' := [(0, a), (0, v2), (2, v1)]) (by decide +kernel) rfl ?_
  refine zwW_cv (op := 60) (k' := 154) (n := 2) (kd := 11) (m := 17) (nx := 14) (r := v1) (tl := [(0, v2), (0, a)]) (st' := []) (by decide +kernel) rfl (by decide +kernel) Gv1.2.1 (x154_z h C v1 v2 a Gv1 (by omega) (by omega) J (((yC h) 79 k).toNat) pv1) rfl ?_
  rintro v3 _ ⟨rfl, f4, f5⟩
  have sv3 : v3 = yCho (yC h) (((yC h) 79 k).toNat) ((yC h) 84 k) a := by rw [f5, sv2]
  refine zwW_p [(2, 4, 0), (1, 4, 0)] (q := 18) (ls' := [(2, 1), (2, r), (0, a), (2, v1), (0, v3)]) (st' := [(0, v3)]) (by decide +kernel) rfl ?_
  refine zwif_ne (q := 51) (nx := 21) (by decide +kernel) (fun c6 => ?_) (fun c6 => ?_)
  · refine zwW_p [(1, 4, 0), (0, 1, 0)] (q := 54) (ls' := [(2, 1), (2, r), (0, a), (2, v1), (0, v3)]) (st' := [(0, 1), (0, v3)]) (by decide +kernel) rfl ?_
    refine zwic_ne (q := 99) (nx := 57) (by decide +kernel) (fun c7 => ?_) (fun c7 => ?_)
    · refine zwW_p [(1, 1, 2), (12, 0, 0)] (q := 101) (ls' := [(2, 1), (2, r), (0, a), (2, v1), (0, v3)]) (st' := [(2, r), (2, r)]) (by decide +kernel) rfl ?_
      refine zwX_gi C (kd := 4) (bn := 8) (n := 19) (nx := 104) (by decide +kernel) G_r.2.1 G_r.1 rfl ?_
      intro v8 ev8 lv8 uv8
      have sv8 : v8 = (yC h) 86 k := Eq.trans ev8 (Eq.trans (congrArg (fun q => fld h q 8) P_r.1) (Eq.trans (Eq.symm (yC_f (h := h) (a := 86) (A := 3) (j := 8) (i := k) rfl P_r.2)) (Eq.trans (congrFun (congrFun (rfl : yC h = yC h) 86) k) rfl)))
      refine zwW_p [(0, 1, 0)] (q := 105) (ls' := [(2, 1), (2, r), (0, a), (2, v1), (0, v3)]) (st' := [(0, 1), (0, v8), (2, r)]) (by decide +kernel) rfl ?_
      refine zwW_adw (nx := 106) (by decide +kernel) ?_
      intro v9 ev9 lv9 uv9
      have Ev9 : v9 = w32 (((yC h) 86 k) + 1) := by rw [ev9, sv8]
      refine zwX_pi C (kd := 4) (bn := 8) (n := 19) (nx := 109) (by decide +kernel) G_r.2.1 G_r.1 ⟨by omega, by omega⟩ ?_
      rintro h10 eh10 Ch10 Qh10
      have Zh10 : yC h10 = (zs (yC h) 86 k (w32 (((yC h) 86 k) + 1))) := by rw [yC_w (a := 86) (A := 3) (j := 8) (k := k) C J rfl P_r eh10, Ev9]
      have Xh10 : zXR msx232_z (0) (0) h h10 := X.tr (c2 := 0) (s2 := 0) Qh10 (by decide +kernel) (by decide) (by decide)
      have Gh10_0 : gH h10 r := G_r.x Qh10
      have Gh10_1 : gV h10 v1 := Gv1.x Qh10
      have Jh10 : yR h10 := J.fr C Qh10 (by decide +kernel)
      have pr_h10 : r = zv h10 3 k ∧ ((k : Nat) : Int) < fld h10 3 2 := zpv C Qh10 (A := 3) (by decide) (by decide +kernel) P_r
      have pv1_h10 : v1 = zv h10 2 (((yC h) 79 k).toNat) ∧ ((((yC h) 79 k).toNat : Nat) : Int) < fld h10 2 2 := zpv C Qh10 (A := 2) (by decide) (by decide +kernel) pv1
      refine zwW_retv (nx := 110) (a := 0) (b := 0) (by decide +kernel) ?_
      exact ⟨Ch10, Xh10.le (by decide) (by decide), by refine Eq.trans Zh10 ?_; unfold yByd yBya; (repeat' (first | rw [if_pos (by omega)] | rw [if_neg (by omega)])); all_goals (try simp (disch := decide) only [ySlH_n, ySlM_n]); all_goals (repeat' (first | rfl | omega | apply zs_cg)), by exact Jh10⟩
    · refine zwW_p [(1, 3, 2)] (q := 58) (ls' := [(2, 1), (2, r), (0, a), (2, v1), (0, v3)]) (st' := [(2, v1)]) (by decide +kernel) rfl ?_
      refine zwW_cvv (op := 60) (k' := 259) (n := 0) (kd := 11) (m := 17) (nx := 61) (r := v1) (tl := []) (st' := []) (by decide +kernel) rfl (by decide +kernel) Gv1.2.1 (x259_z h C v1 Gv1 J (((yC h) 79 k).toNat) pv1) rfl ?_
      rintro h13 ⟨Ch13, Qh13, f11, f12⟩
      have Zh13 : yC h13 = (ySlM (yC h) (((yC h) 79 k).toNat)) := by rw [f11]
      have Xh13 : zXR msx232_z (0) (0) h h13 := X.tr (c2 := 0) (s2 := 0) Qh13 (by decide +kernel) (by decide) (by decide)
      have Gh13_0 : gH h13 r := G_r.x Qh13
      have Gh13_1 : gV h13 v1 := Gv1.x Qh13
      have pr_h13 : r = zv h13 3 k ∧ ((k : Nat) : Int) < fld h13 3 2 := zpv C Qh13 (A := 3) (by decide) (by decide +kernel) P_r
      have pv1_h13 : v1 = zv h13 2 (((yC h) 79 k).toNat) ∧ ((((yC h) 79 k).toNat : Nat) : Int) < fld h13 2 2 := zpv C Qh13 (A := 2) (by decide) (by decide +kernel) pv1
      refine zwW_p [(1, 1, 2), (12, 0, 0)] (q := 63) (ls' := [(2, 1), (2, r), (0, a), (2, v1), (0, v3)]) (st' := [(2, r), (2, r)]) (by decide +kernel) rfl ?_
      refine zwX_gi Ch13 (kd := 4) (bn := 10) (n := 19) (nx := 66) (by decide +kernel) Gh13_0.2.1 Gh13_0.1 rfl ?_
      intro v14 ev14 lv14 uv14
      have sv14 : v14 = (ySlM (yC h) (((yC h) 79 k).toNat)) 88 k := Eq.trans ev14 (Eq.trans (congrArg (fun q => fld h13 q 10) pr_h13.1) (Eq.trans (Eq.symm (yC_f (h := h13) (a := 88) (A := 3) (j := 10) (i := k) rfl pr_h13.2)) (Eq.trans (congrFun (congrFun Zh13 88) k) rfl)))
      refine zwW_p [(0, 1, 0)] (q := 67) (ls' := [(2, 1), (2, r), (0, a), (2, v1), (0, v3)]) (st' := [(0, 1), (0, v14), (2, r)]) (by decide +kernel) rfl ?_
      refine zwW_adw (nx := 68) (by decide +kernel) ?_
      intro v15 ev15 lv15 uv15
      have Ev15 : v15 = w32 (((ySlM (yC h) (((yC h) 79 k).toNat)) 88 k) + 1) := by rw [ev15, sv14]
      refine zwX_pi Ch13 (kd := 4) (bn := 10) (n := 19) (nx := 71) (by decide +kernel) Gh13_0.2.1 Gh13_0.1 ⟨by omega, by omega⟩ ?_
      rintro h16 eh16 Ch16 Qh16
      have Zh16 : yC h16 = (zs (ySlM (yC h) (((yC h) 79 k).toNat)) 88 k (w32 (((ySlM (yC h) (((yC h) 79 k).toNat)) 88 k) + 1))) := by rw [yC_w (a := 88) (A := 3) (j := 10) (k := k) Ch13 f12 rfl pr_h13 eh16, Zh13, Ev15]
      have Xh16 : zXR msx232_z (0) (0) h h16 := Xh13.tr (c2 := 0) (s2 := 0) Qh16 (by decide +kernel) (by decide) (by decide)
      have Gh16_0 : gH h16 r := Gh13_0.x Qh16
      have Gh16_1 : gV h16 v1 := Gh13_1.x Qh16
      have Jh16 : yR h16 := f12.fr Ch13 Qh16 (by decide +kernel)
      have pr_h16 : r = zv h16 3 k ∧ ((k : Nat) : Int) < fld h16 3 2 := zpv Ch13 Qh16 (A := 3) (by decide) (by decide +kernel) pr_h13
      have pv1_h16 : v1 = zv h16 2 (((yC h) 79 k).toNat) ∧ ((((yC h) 79 k).toNat : Nat) : Int) < fld h16 2 2 := zpv Ch13 Qh16 (A := 2) (by decide) (by decide +kernel) pv1_h13
      refine zwW_p [(1, 1, 2), (12, 0, 0)] (q := 73) (ls' := [(2, 1), (2, r), (0, a), (2, v1), (0, v3)]) (st' := [(2, r), (2, r)]) (by decide +kernel) rfl ?_
      refine zwX_gi Ch16 (kd := 4) (bn := 6) (n := 19) (nx := 76) (by decide +kernel) Gh16_0.2.1 Gh16_0.1 rfl ?_
      intro v17 ev17 lv17 uv17
      have sv17 : v17 = (ySlM (yC h) (((yC h) 79 k).toNat)) 84 k := Eq.trans ev17 (Eq.trans (congrArg (fun q => fld h16 q 6) pr_h16.1) (Eq.trans (Eq.symm (yC_f (h := h16) (a := 84) (A := 3) (j := 6) (i := k) rfl pr_h16.2)) (Eq.trans (congrFun (congrFun Zh16 84) k) (Eq.trans (zs_na (by decide) : (zs (ySlM (yC h) (((yC h) 79 k).toNat)) 88 k (w32 (((ySlM (yC h) (((yC h) 79 k).toNat)) 88 k) + 1))) 84 k = (ySlM (yC h) (((yC h) 79 k).toNat)) 84 k) rfl))))
      refine zwW_p [(1, 3, 2)] (q := 77) (ls' := [(2, 1), (2, r), (0, a), (2, v1), (0, v3)]) (st' := [(2, v1), (0, v17), (2, r)]) (by decide +kernel) rfl ?_
      refine zwX_gi Ch16 (kd := 11) (bn := 9) (n := 17) (nx := 80) (by decide +kernel) Gh16_1.2.1 Gh16_1.1 rfl ?_
      intro v18 ev18 lv18 uv18
      have sv18 : v18 = (ySlM (yC h) (((yC h) 79 k).toNat)) 71 (((yC h) 79 k).toNat) := Eq.trans ev18 (Eq.trans (congrArg (fun q => fld h16 q 9) pv1_h16.1) (Eq.trans (Eq.symm (yC_f (h := h16) (a := 71) (A := 2) (j := 9) (i := ((yC h) 79 k).toNat) rfl pv1_h16.2)) (Eq.trans (congrFun (congrFun Zh16 71) (((yC h) 79 k).toNat)) (Eq.trans (zs_na (by decide) : (zs (ySlM (yC h) (((yC h) 79 k).toNat)) 88 k (w32 (((ySlM (yC h) (((yC h) 79 k).toNat)) 88 k) + 1))) 71 (((yC h) 79 k).toNat) = (ySlM (yC h) (((yC h) 79 k).toNat)) 71 (((yC h) 79 k).toNat)) rfl))))
      refine zwW_p [(1, 2, 0)] (q := 81) (ls' := [(2, 1), (2, r), (0, a), (2, v1), (0, v3)]) (st' := [(0, a), (0, v18), (0, v17), (2, r)]) (by decide +kernel) rfl ?_
      refine zwW_adw (nx := 82) (by decide +kernel) ?_
      intro v19 ev19 lv19 uv19
      have Ev19 : v19 = w32 (((ySlM (yC h) (((yC h) 79 k).toNat)) 71 (((yC h) 79 k).toNat)) + a) := by rw [ev19, sv18]
      refine zwW_sbw (nx := 83) (by decide +kernel) ?_
      intro v20 ev20 lv20 uv20
      have Ev20 : v20 = w32 (((ySlM (yC h) (((yC h) 79 k).toNat)) 84 k) - (w32 (((ySlM (yC h) (((yC h) 79 k).toNat)) 71 (((yC h) 79 k).toNat)) + a))) := by rw [ev20, sv17, Ev19]
      refine zwX_pi Ch16 (kd := 4) (bn := 6) (n := 19) (nx := 86) (by decide +kernel) Gh16_0.2.1 Gh16_0.1 ⟨by omega, by omega⟩ ?_
      rintro h21 eh21 Ch21 Qh21
      have Uh21 : yC h21 = (zs (zs (ySlM (yC h) (((yC h) 79 k).toNat)) 88 k (w32 (((ySlM (yC h) (((yC h) 79 k).toNat)) 88 k) + 1))) 84 k (w32 (((ySlM (yC h) (((yC h) 79 k).toNat)) 84 k) - (w32 (((ySlM (yC h) (((yC h) 79 k).toNat)) 71 (((yC h) 79 k).toNat)) + a))))) := by rw [yC_w (a := 84) (A := 3) (j := 6) (k := k) Ch16 Jh16 rfl pr_h16 eh21, Zh16, Ev20]
      have Zh21 : yC h21 = (zs (zs (ySlM (yC h) (((yC h) 79 k).toNat)) 84 k (w32 (((ySlM (yC h) (((yC h) 79 k).toNat)) 84 k) - (w32 (((ySlM (yC h) (((yC h) 79 k).toNat)) 71 (((yC h) 79 k).toNat)) + a))))) 88 k (w32 (((ySlM (yC h) (((yC h) 79 k).toNat)) 88 k) + 1))) := by rw [Uh21, zs_sw (a := 88) (b := 84) (by decide)]
      have Xh21 : zXR msx232_z (0) (0) h h21 := Xh16.tr (c2 := 0) (s2 := 0) Qh21 (by decide +kernel) (by decide) (by decide)
      have Gh21_0 : gH h21 r := Gh16_0.x Qh21
      have Gh21_1 : gV h21 v1 := Gh16_1.x Qh21
      have Jh21 : yR h21 := Jh16.fr Ch16 Qh21 (by decide +kernel)
      have pr_h21 : r = zv h21 3 k ∧ ((k : Nat) : Int) < fld h21 3 2 := zpv Ch16 Qh21 (A := 3) (by decide) (by decide +kernel) pr_h16
      have pv1_h21 : v1 = zv h21 2 (((yC h) 79 k).toNat) ∧ ((((yC h) 79 k).toNat : Nat) : Int) < fld h21 2 2 := zpv Ch16 Qh21 (A := 2) (by decide) (by decide +kernel) pv1_h16
      refine zwW_p [(1, 0, 2), (12, 0, 0)] (q := 88) (ls' := [(2, 1), (2, r), (0, a), (2, v1), (0, v3)]) (st' := [(2, 1), (2, 1)]) (by decide +kernel) rfl ?_
      refine zwW_gs Ch21.1 (kd := 12) (bn := 1) (n := 13) (t := 0) (lo := -2147483648) (hi := 2147483647) (nx := 91) (by decide +kernel) ?_
      intro v22 ev22 lv22 uv22
      have sv22 : v22 = (ySlM (yC h) (((yC h) 79 k).toNat)) 37 38 := Eq.trans ev22 (Eq.trans (Eq.symm (yC_s (h := h21) (i := 38) rfl)) (Eq.trans (congrFun (congrFun Zh21 37) 38) (Eq.trans (zs_na (by decide) : (zs (zs (ySlM (yC h) (((yC h) 79 k).toNat)) 84 k (w32 (((ySlM (yC h) (((yC h) 79 k).toNat)) 84 k) - (w32 (((ySlM (yC h) (((yC h) 79 k).toNat)) 71 (((yC h) 79 k).toNat)) + a))))) 88 k (w32 (((ySlM (yC h) (((yC h) 79 k).toNat)) 88 k) + 1))) 37 38 = (zs (ySlM (yC h) (((yC h) 79 k).toNat)) 84 k (w32 (((ySlM (yC h) (((yC h) 79 k).toNat)) 84 k) - (w32 (((ySlM (yC h) (((yC h) 79 k).toNat)) 71 (((yC h) 79 k).toNat)) + a))))) 37 38) (Eq.trans (zs_na (by decide) : (zs (ySlM (yC h) (((yC h) 79 k).toNat)) 84 k (w32 (((ySlM (yC h) (((yC h) 79 k).toNat)) 84 k) - (w32 (((ySlM (yC h) (((yC h) 79 k).toNat)) 71 (((yC h) 79 k).toNat)) + a))))) 37 38 = (ySlM (yC h) (((yC h) 79 k).toNat)) 37 38) rfl))))
      refine zwW_p [(1, 2, 0)] (q := 92) (ls' := [(2, 1), (2, r), (0, a), (2, v1), (0, v3)]) (st' := [(0, a), (0, v22), (2, 1)]) (by decide +kernel) rfl ?_
      refine zwW_adw (nx := 93) (by decide +kernel) ?_
      intro v23 ev23 lv23 uv23
      have Ev23 : v23 = w32 (((ySlM (yC h) (((yC h) 79 k).toNat)) 37 38) + a) := by rw [ev23, sv22]
      refine zwW_ps Ch21.1 (kd := 12) (bn := 1) (n := 13) (lo := -2147483648) (hi := 2147483647) (nx := 96) (by decide +kernel) ⟨by omega, by omega⟩ ?_
      intro h24 eh24 Ih24
      have Ch24 : CI h24 := Ch21.wc eh24 Ih24 (by decide) (by decide)
      have Qh24 : zXR [(1, 1, 1, 2)] 0 0 h21 h24 := zXR.wc eh24 rfl ⟨by decide, by decide, Or.inl (by decide)⟩ ⟨by decide, by decide⟩
      have Zh24 : yC h24 = (zs (zs (zs (ySlM (yC h) (((yC h) 79 k).toNat)) 84 k (w32 (((ySlM (yC h) (((yC h) 79 k).toNat)) 84 k) - (w32 (((ySlM (yC h) (((yC h) 79 k).toNat)) 71 (((yC h) 79 k).toNat)) + a))))) 88 k (w32 (((ySlM (yC h) (((yC h) 79 k).toNat)) 88 k) + 1))) 37 38 (w32 (((ySlM (yC h) (((yC h) 79 k).toNat)) 37 38) + a))) := by rw [yC_ws (q := 38) (r := 1) (j := 1) (kd := 12) (n := 13) rfl (Ch21.1.s (a1 := 1) (a2 := 1) (by decide +kernel) (by decide) (by decide)) (by decide) Ch21 eh24, Zh21, Ev23]
      have Xh24 : zXR msx232_z (0) (0) h h24 := Xh21.tr (c2 := 0) (s2 := 0) Qh24 (by decide +kernel) (by decide) (by decide)
      have Gh24_0 : gH h24 r := Gh21_0.x Qh24
      have Gh24_1 : gV h24 v1 := Gh21_1.x Qh24
      have Jh24 : yR h24 := Jh21.fr Ch21 Qh24 (by decide +kernel)
      have pr_h24 : r = zv h24 3 k ∧ ((k : Nat) : Int) < fld h24 3 2 := zpv Ch21 Qh24 (A := 3) (by decide) (by decide +kernel) pr_h21
      have pv1_h24 : v1 = zv h24 2 (((yC h) 79 k).toNat) ∧ ((((yC h) 79 k).toNat : Nat) : Int) < fld h24 2 2 := zpv Ch21 Qh24 (A := 2) (by decide) (by decide +kernel) pv1_h21
      refine zwW_p [(24, 109, 0)] (q := 109) (ls' := [(2, 1), (2, r), (0, a), (2, v1), (0, v3)]) (st' := []) (by decide +kernel) rfl ?_
      refine zwW_retv (nx := 110) (a := 0) (b := 0) (by decide +kernel) ?_
      exact ⟨Ch24, Xh24.le (by decide) (by decide), by refine Eq.trans Zh24 ?_; unfold yByd yBya; (repeat' (first | rw [if_pos (by omega)] | rw [if_neg (by omega)])); all_goals (try simp (disch := decide) only [ySlH_n, ySlM_n]); all_goals (repeat' (first | rfl | omega | apply zs_cg)), by exact Jh24⟩
  · refine zwW_p [(1, 3, 2)] (q := 22) (ls' := [(2, 1), (2, r), (0, a), (2, v1), (0, v3)]) (st' := [(2, v1)]) (by decide +kernel) rfl ?_
    refine zwW_cvv (op := 60) (k' := 258) (n := 0) (kd := 11) (m := 17) (nx := 25) (r := v1) (tl := []) (st' := []) (by decide +kernel) rfl (by decide +kernel) Gv1.2.1 (x258_z h C v1 Gv1 J (((yC h) 79 k).toNat) pv1) rfl ?_
    rintro h27 ⟨Ch27, Qh27, f25, f26⟩
    have Zh27 : yC h27 = (ySlH (yC h) (((yC h) 79 k).toNat)) := by rw [f25]
    have Xh27 : zXR msx232_z (0) (0) h h27 := X.tr (c2 := 0) (s2 := 0) Qh27 (by decide +kernel) (by decide) (by decide)
    have Gh27_0 : gH h27 r := G_r.x Qh27
    have Gh27_1 : gV h27 v1 := Gv1.x Qh27
    have pr_h27 : r = zv h27 3 k ∧ ((k : Nat) : Int) < fld h27 3 2 := zpv C Qh27 (A := 3) (by decide) (by decide +kernel) P_r
    have pv1_h27 : v1 = zv h27 2 (((yC h) 79 k).toNat) ∧ ((((yC h) 79 k).toNat : Nat) : Int) < fld h27 2 2 := zpv C Qh27 (A := 2) (by decide) (by decide +kernel) pv1
    refine zwW_p [(1, 1, 2), (12, 0, 0)] (q := 27) (ls' := [(2, 1), (2, r), (0, a), (2, v1), (0, v3)]) (st' := [(2, r), (2, r)]) (by decide +kernel) rfl ?_
    refine zwX_gi Ch27 (kd := 4) (bn := 9) (n := 19) (nx := 30) (by decide +kernel) Gh27_0.2.1 Gh27_0.1 rfl ?_
    intro v28 ev28 lv28 uv28
    have sv28 : v28 = (ySlH (yC h) (((yC h) 79 k).toNat)) 87 k := Eq.trans ev28 (Eq.trans (congrArg (fun q => fld h27 q 9) pr_h27.1) (Eq.trans (Eq.symm (yC_f (h := h27) (a := 87) (A := 3) (j := 9) (i := k) rfl pr_h27.2)) (Eq.trans (congrFun (congrFun Zh27 87) k) rfl)))
    refine zwW_p [(0, 1, 0)] (q := 31) (ls' := [(2, 1), (2, r), (0, a), (2, v1), (0, v3)]) (st' := [(0, 1), (0, v28), (2, r)]) (by decide +kernel) rfl ?_
    refine zwW_adw (nx := 32) (by decide +kernel) ?_
    intro v29 ev29 lv29 uv29
    have Ev29 : v29 = w32 (((ySlH (yC h) (((yC h) 79 k).toNat)) 87 k) + 1) := by rw [ev29, sv28]
    refine zwX_pi Ch27 (kd := 4) (bn := 9) (n := 19) (nx := 35) (by decide +kernel) Gh27_0.2.1 Gh27_0.1 ⟨by omega, by omega⟩ ?_
    rintro h30 eh30 Ch30 Qh30
    have Zh30 : yC h30 = (zs (ySlH (yC h) (((yC h) 79 k).toNat)) 87 k (w32 (((ySlH (yC h) (((yC h) 79 k).toNat)) 87 k) + 1))) := by rw [yC_w (a := 87) (A := 3) (j := 9) (k := k) Ch27 f26 rfl pr_h27 eh30, Zh27, Ev29]
    have Xh30 : zXR msx232_z (0) (0) h h30 := Xh27.tr (c2 := 0) (s2 := 0) Qh30 (by decide +kernel) (by decide) (by decide)
    have Gh30_0 : gH h30 r := Gh27_0.x Qh30
    have Gh30_1 : gV h30 v1 := Gh27_1.x Qh30
    have Jh30 : yR h30 := f26.fr Ch27 Qh30 (by decide +kernel)
    have pr_h30 : r = zv h30 3 k ∧ ((k : Nat) : Int) < fld h30 3 2 := zpv Ch27 Qh30 (A := 3) (by decide) (by decide +kernel) pr_h27
    have pv1_h30 : v1 = zv h30 2 (((yC h) 79 k).toNat) ∧ ((((yC h) 79 k).toNat : Nat) : Int) < fld h30 2 2 := zpv Ch27 Qh30 (A := 2) (by decide) (by decide +kernel) pv1_h27
    refine zwW_p [(1, 1, 2), (12, 0, 0)] (q := 37) (ls' := [(2, 1), (2, r), (0, a), (2, v1), (0, v3)]) (st' := [(2, r), (2, r)]) (by decide +kernel) rfl ?_
    refine zwX_gi Ch30 (kd := 4) (bn := 6) (n := 19) (nx := 40) (by decide +kernel) Gh30_0.2.1 Gh30_0.1 rfl ?_
    intro v31 ev31 lv31 uv31
    have sv31 : v31 = (ySlH (yC h) (((yC h) 79 k).toNat)) 84 k := Eq.trans ev31 (Eq.trans (congrArg (fun q => fld h30 q 6) pr_h30.1) (Eq.trans (Eq.symm (yC_f (h := h30) (a := 84) (A := 3) (j := 6) (i := k) rfl pr_h30.2)) (Eq.trans (congrFun (congrFun Zh30 84) k) (Eq.trans (zs_na (by decide) : (zs (ySlH (yC h) (((yC h) 79 k).toNat)) 87 k (w32 (((ySlH (yC h) (((yC h) 79 k).toNat)) 87 k) + 1))) 84 k = (ySlH (yC h) (((yC h) 79 k).toNat)) 84 k) rfl))))
    refine zwW_p [(1, 3, 2)] (q := 41) (ls' := [(2, 1), (2, r), (0, a), (2, v1), (0, v3)]) (st' := [(2, v1), (0, v31), (2, r)]) (by decide +kernel) rfl ?_
    refine zwX_gi Ch30 (kd := 11) (bn := 8) (n := 17) (nx := 44) (by decide +kernel) Gh30_1.2.1 Gh30_1.1 rfl ?_
    intro v32 ev32 lv32 uv32
    have sv32 : v32 = (ySlH (yC h) (((yC h) 79 k).toNat)) 70 (((yC h) 79 k).toNat) := Eq.trans ev32 (Eq.trans (congrArg (fun q => fld h30 q 8) pv1_h30.1) (Eq.trans (Eq.symm (yC_f (h := h30) (a := 70) (A := 2) (j := 8) (i := ((yC h) 79 k).toNat) rfl pv1_h30.2)) (Eq.trans (congrFun (congrFun Zh30 70) (((yC h) 79 k).toNat)) (Eq.trans (zs_na (by decide) : (zs (ySlH (yC h) (((yC h) 79 k).toNat)) 87 k (w32 (((ySlH (yC h) (((yC h) 79 k).toNat)) 87 k) + 1))) 70 (((yC h) 79 k).toNat) = (ySlH (yC h) (((yC h) 79 k).toNat)) 70 (((yC h) 79 k).toNat)) rfl))))
    refine zwW_sbw (nx := 45) (by decide +kernel) ?_
    intro v33 ev33 lv33 uv33
    have Ev33 : v33 = w32 (((ySlH (yC h) (((yC h) 79 k).toNat)) 84 k) - ((ySlH (yC h) (((yC h) 79 k).toNat)) 70 (((yC h) 79 k).toNat))) := by rw [ev33, sv31, sv32]
    refine zwX_pi Ch30 (kd := 4) (bn := 6) (n := 19) (nx := 48) (by decide +kernel) Gh30_0.2.1 Gh30_0.1 ⟨by omega, by omega⟩ ?_
    rintro h34 eh34 Ch34 Qh34
    have Uh34 : yC h34 = (zs (zs (ySlH (yC h) (((yC h) 79 k).toNat)) 87 k (w32 (((ySlH (yC h) (((yC h) 79 k).toNat)) 87 k) + 1))) 84 k (w32 (((ySlH (yC h) (((yC h) 79 k).toNat)) 84 k) - ((ySlH (yC h) (((yC h) 79 k).toNat)) 70 (((yC h) 79 k).toNat))))) := by rw [yC_w (a := 84) (A := 3) (j := 6) (k := k) Ch30 Jh30 rfl pr_h30 eh34, Zh30, Ev33]
    have Zh34 : yC h34 = (zs (zs (ySlH (yC h) (((yC h) 79 k).toNat)) 84 k (w32 (((ySlH (yC h) (((yC h) 79 k).toNat)) 84 k) - ((ySlH (yC h) (((yC h) 79 k).toNat)) 70 (((yC h) 79 k).toNat))))) 87 k (w32 (((ySlH (yC h) (((yC h) 79 k).toNat)) 87 k) + 1))) := by rw [Uh34, zs_sw (a := 87) (b := 84) (by decide)]
    have Xh34 : zXR msx232_z (0) (0) h h34 := Xh30.tr (c2 := 0) (s2 := 0) Qh34 (by decide +kernel) (by decide) (by decide)
    have Gh34_0 : gH h34 r := Gh30_0.x Qh34
    have Gh34_1 : gV h34 v1 := Gh30_1.x Qh34
    have Jh34 : yR h34 := Jh30.fr Ch30 Qh34 (by decide +kernel)
    have pr_h34 : r = zv h34 3 k ∧ ((k : Nat) : Int) < fld h34 3 2 := zpv Ch30 Qh34 (A := 3) (by decide) (by decide +kernel) pr_h30
    have pv1_h34 : v1 = zv h34 2 (((yC h) 79 k).toNat) ∧ ((((yC h) 79 k).toNat : Nat) : Int) < fld h34 2 2 := zpv Ch30 Qh34 (A := 2) (by decide) (by decide +kernel) pv1_h30
    refine zwW_p [(24, 109, 0)] (q := 109) (ls' := [(2, 1), (2, r), (0, a), (2, v1), (0, v3)]) (st' := []) (by decide +kernel) rfl ?_
    refine zwW_retv (nx := 110) (a := 0) (b := 0) (by decide +kernel) ?_
    exact ⟨Ch34, Xh34.le (by decide) (by decide), by refine Eq.trans Zh34 ?_; unfold yByd yBya; (repeat' (first | rw [if_pos (by omega)] | rw [if_neg (by omega)])); all_goals (try simp (disch := decide) only [ySlH_n, ySlM_n]); all_goals (repeat' (first | rfl | omega | apply zs_cg)), by exact Jh34⟩
def msx186_z : Zms := [(1, 1, 1, 2), (17, 17, 0, 13), (18, 18, 0, 400), (1004, 1004, 6, 7), (1004, 1004, 8, 9), (1004, 1004, 9, 10), (1004, 1004, 10, 11), (1011, 1011, 5, 6), (1011, 1011, 6, 7), (1011, 1011, 7, 8), (1011, 1011, 10, 11), (1011, 1011, 13, 14), (1011, 1011, 14, 15)]
-- WheelLand.buyAll()V
theorem x186_z {sc : List Int} (h : Hp) (C : CI h) (q : qT) (J : yR h) (V : zRq q h) (ok : yOK (yC h)) : zwC sc 5 186 [(2, 1)] h (zwRv (fun g => CI g ∧ zXR msx186_z (0) (0) h g ∧ (yC g = yByA q (yC h)) ∧ (yR g))) := by
  refine zwC_of (D := 4) 3 (by decide +kernel) rfl (ls := [(2, 1), (9, 0), (9, 0)]) rfl ?_
  have X : zXR msx186_z 0 0 h h := zXR.rf _ _
  have u0 : yC h 37 0 = fld h 1 0 := rfl
  have u1 : yC h 37 1 = fld h 2 2 := rfl
  have u2 : yC h 37 2 = fld h 3 2 := rfl
  have u64 : yC h 37 64 = fld h 4 2 := rfl
  have u78 : yC h 37 78 = fld h 5 2 := rfl
  have b33 := zLb_3 C
  refine zwW_p [(0, 0, 0), (2, 1, 0)] (q := 2) (ls' := [(2, 1), (0, 0), (9, 0)]) (st' := []) (by decide +kernel) rfl ?_
  have L1 : ∀ (n0 : Nat) (kL1 : Int) (w2L1 : Vl) (hL1 : Hp), n0 = ((1000 - kL1)).toNat → (zRq q hL1) → (fld hL1 3 2 = fld h 3 2 ∧ kL1 ≤ fld h 3 2) → (0 ≤ kL1 ∧ kL1 ≤ 20) → (yC hL1 = (yBys q (yC h) (kL1).toNat)) → (yR hL1) → CI hL1 → zXR msx186_z (0) (0) h hL1 → zwW sc (4) 186 2 [(2, 1), (0, kL1), w2L1] [] hL1 (zwRv (fun g => CI g ∧ zXR msx186_z (0) (0) h g ∧ (yC g = yByA q (yC h)) ∧ (yR g))) := by
    intro n0
    induction n0 using Nat.strongRecOn with
    | ind n0 IHL1 =>
      intro kL1 w2L1 hL1 hnL1 iL1_0 iL1_1 iL1_2 iL1_3 iL1_4 ChL1 XhL1
      refine zwW_p [(1, 1, 0), (1, 0, 2)] (q := 4) (ls' := [(2, 1), (0, kL1), w2L1]) (st' := [(2, 1), (0, kL1)]) (by decide +kernel) rfl ?_
      refine zwW_gc ChL1.1 (kd := 12) (bn := 3) (n := 13) (c := 3) (nx := 7) (by decide +kernel) ?_
      refine zwW_cm ChL1.1 (op := 60) (k' := 96) (n := 0) (kd := 0) (m := 3) (nx := 10) (r := 3) (tl := []) (st' := [(0, kL1)]) (by decide +kernel) rfl (by decide +kernel) rfl (x96_3 ChL1) ?_
      rintro v2 _ ⟨rfl, ev2⟩
      have bv2 := zLb_3 ChL1
      have sv2 : v2 = (yBys q (yC h) (kL1).toNat) 37 2 := Eq.trans ev2 (Eq.trans (Eq.symm (yC_s (h := hL1) (i := 2) rfl)) (Eq.trans (congrFun (congrFun iL1_3 37) 2) rfl))
      refine zwic_ge (q := 58) (nx := 13) (by decide +kernel) (fun c3 => ?_) (fun c3 => ?_)
      · refine zwW_retv (nx := 59) (a := 0) (b := 0) (by decide +kernel) ?_
        exact ⟨ChL1, XhL1.le (by decide) (by decide), by refine Eq.trans iL1_3 ?_; unfold yByA; rw [show (yC h 37 2).toNat = (kL1).toNat by omega], by exact iL1_4⟩
      · refine zwW_p [(1, 0, 2)] (q := 14) (ls' := [(2, 1), (0, kL1), w2L1]) (st' := [(2, 1)]) (by decide +kernel) rfl ?_
        refine zwW_gc ChL1.1 (kd := 12) (bn := 3) (n := 13) (c := 3) (nx := 17) (by decide +kernel) ?_
        refine zwW_p [(1, 1, 0)] (q := 18) (ls' := [(2, 1), (0, kL1), w2L1]) (st' := [(0, kL1), (2, 3)]) (by decide +kernel) rfl ?_
        refine zwW_cm ChL1.1 (op := 60) (k' := 123) (n := 1) (kd := 0) (m := 3) (nx := 21) (r := 3) (tl := [(0, kL1)]) (st' := []) (by decide +kernel) rfl (by decide +kernel) rfl (x123_3 ChL1 (i := kL1) ⟨by omega, by omega⟩) ?_
        rintro v4 _ ⟨rfl, Gv4, ev4⟩
        have lv4 := Gv4.1
        have pv4 : v4 = zv hL1 3 kL1.toNat ∧ ((kL1.toNat : Nat) : Int) < fld hL1 3 2 := ⟨ev4, by omega⟩
        refine zwW_cast (a := 4) (kd := 4) (n := 19) (nx := 24) (by decide +kernel) rfl (Or.inr Gv4.2.1) ?_
        have OK2 : yOK (yC hL1) := by rw [iL1_3]; exact ok.bys _
        have K24 := OK2.ho (k := (kL1).toNat) (by rw [iL1_3]; omega)
        rw [iL1_3] at K24
        refine zwW_p [(2, 2, 2), (1, 0, 2)] (q := 26) (ls' := [(2, 1), (0, kL1), (2, v4)]) (st' := [(2, 1)]) (by decide +kernel) rfl ?_
        refine zwW_gs ChL1.1 (kd := 12) (bn := 0) (n := 13) (t := 0) (lo := 0) (hi := 156) (nx := 29) (by decide +kernel) ?_
        intro v5 ev5 lv5 uv5
        have sv5 : v5 = (yBys q (yC h) (kL1).toNat) 37 0 := Eq.trans ev5 (Eq.trans (Eq.symm (yC_s (h := hL1) (i := 0) rfl)) (Eq.trans (congrFun (congrFun iL1_3 37) 0) rfl))
        refine zwW_p [(1, 2, 2)] (q := 30) (ls' := [(2, 1), (0, kL1), (2, v4)]) (st' := [(2, v4), (0, v5)]) (by decide +kernel) rfl ?_
        refine zwX_gi ChL1 (kd := 4) (bn := 5) (n := 19) (nx := 33) (by decide +kernel) Gv4.2.1 Gv4.1 rfl ?_
        intro v6 ev6 lv6 uv6
        have sv6 : v6 = (yBys q (yC h) (kL1).toNat) 83 kL1.toNat := Eq.trans ev6 (Eq.trans (congrArg (fun q => fld hL1 q 5) pv4.1) (Eq.trans (Eq.symm (yC_f (h := hL1) (a := 83) (A := 3) (j := 5) (i := kL1.toNat) rfl pv4.2)) (Eq.trans (congrFun (congrFun iL1_3 83) kL1.toNat) rfl)))
        refine zwW_add (nx := 34) (by decide +kernel) ⟨by omega, by omega⟩ ?_
        refine zwW_p [(0, 4, 0)] (q := 35) (ls' := [(2, 1), (0, kL1), (2, v4)]) (st' := [(0, 4), (0, (v5 + v6))]) (by decide +kernel) rfl ?_
        refine zwW_rem (nx := 36) (by decide +kernel) (by omega) (by omega) ?_
        refine zwif_ne (q := 52) (nx := 39) (by decide +kernel) (fun c7 => ?_) (fun c7 => ?_)
        · refine zwW_inc (i := 1) (c := 1) (x := kL1) (nx := 55) (by decide +kernel) rfl ⟨by omega, by omega⟩ (ls' := [(2, 1), (0, (kL1 + 1)), (2, v4)]) rfl ?_
          refine zwW_p [(24, 2, 0)] (q := 2) (ls' := [(2, 1), (0, (kL1 + 1)), (2, v4)]) (st' := []) (by decide +kernel) rfl ?_
          exact IHL1 ((1000 - (kL1 + 1))).toNat (by omega) (kL1 + 1) (2, v4) hL1 rfl (iL1_0) (by omega) (by omega) (by rw [show (kL1 + 1).toNat = (kL1).toNat + 1 by omega]; rw [yBys_s]; first | (rw [if_pos (by omega)]; exact iL1_3) | (rw [if_neg (by omega)]; exact iL1_3)) (iL1_4) ChL1 (XhL1.le (by decide) (by decide))
        · refine zwW_p [(1, 0, 2), (1, 2, 2), (1, 0, 2), (1, 2, 2)] (q := 43) (ls' := [(2, 1), (0, kL1), (2, v4)]) (st' := [(2, v4), (2, 1), (2, v4), (2, 1)]) (by decide +kernel) rfl ?_
          refine zwW_get (kd := 4) (bn := 1) (t := 2) (n := 19) (nx := 46) (by decide +kernel) Gv4.2.1 rfl ?_
          obtain ⟨v8, ev8⟩ : ∃ z, z = fld hL1 v4 1 := ⟨_, rfl⟩
          rw [← ev8]
          have Gv8 : gV hL1 v8 := by rw [ev8]; exact Gv4.2.2
          have lv8 := Gv8.1
          have qv8 : yC hL1 79 kL1.toNat = (yBys q (yC h) (kL1).toNat) 79 kL1.toNat := Eq.trans (congrFun (congrFun iL1_3 79) kL1.toNat) rfl
          have wv8 := iL1_4.r (a := 79) (A := 3) (j := 1) (B := 2) (i := kL1.toNat) rfl pv4.2
          rw [qv8] at wv8
          have pv8 : v8 = zv hL1 2 (((yBys q (yC h) (kL1).toNat) 79 kL1.toNat).toNat) ∧ ((((yBys q (yC h) (kL1).toNat) 79 kL1.toNat).toNat : Nat) : Int) < fld hL1 2 2 := ⟨by rw [ev8, pv4.1]; exact wv8.2.2, wv8.2.1⟩
          refine zwW_cm ChL1.1 (op := 60) (k' := 153) (n := 1) (kd := 12) (m := 13) (nx := 49) (r := 1) (tl := [(2, v8)]) (st' := [(2, v4), (2, 1)]) (by decide +kernel) rfl (by decide +kernel) rfl (x153_z hL1 ChL1 v8 q Gv8 iL1_4 (((yBys q (yC h) (kL1).toNat) 79 kL1.toNat).toNat) pv8 iL1_0 OK2) ?_
          rintro v13 h14 ⟨Ch14, Qh14, f9, f10, f11, f12⟩
          have sv13 : v13 = yDut q (yBys q (yC h) (kL1).toNat) (((yBys q (yC h) (kL1).toNat) 79 kL1.toNat).toNat) := by rw [f11, iL1_3]
          have Zh14 : yC h14 = (yBys q (yC h) (kL1).toNat) := (yC_fr ChL1 Qh14 (by decide +kernel) (ChL1.1.b (a1 := 37) (a2 := 37) (j1 := 86) (j2 := 87) (lo := 0) (hi := 6) (by decide +kernel) (r := 37) (j := 86) (by decide) (by decide) (by decide) (by decide)).2).trans iL1_3
          have Xh14 : zXR msx186_z (0) (0) h h14 := XhL1.tr (c2 := 0) (s2 := 0) Qh14 (by decide +kernel) (by decide) (by decide)
          have Gh14_0 : gH h14 v4 := Gv4.x Qh14
          have pv4_h14 : v4 = zv h14 3 kL1.toNat ∧ ((kL1.toNat : Nat) : Int) < fld h14 3 2 := zpv ChL1 Qh14 (A := 3) (by decide) (by decide +kernel) pv4
          have th14_3_2 : fld h14 3 2 = fld hL1 3 2 := Qh14.f (a1 := 3) (a2 := 3) (j1 := 2) (j2 := 3) (by decide +kernel) ⟨by decide, by decide⟩ ⟨by decide, by decide⟩ ⟨by decide, by decide⟩
          have Vh14 : zRq q h14 := iL1_0.fr ChL1 Qh14 (by decide +kernel)
          refine zwW_cmv Ch14.1 (op := 60) (k' := 232) (n := 2) (kd := 12) (m := 13) (nx := 52) (r := 1) (tl := [(2, v4), (0, v13)]) (st' := []) (by decide +kernel) rfl (by decide +kernel) rfl (x232_z h14 Ch14 v4 v13 Gh14_0 (by omega) f12 kL1.toNat pv4_h14) ?_
          rintro h17 ⟨Ch17, Qh17, f15, f16⟩
          have Zh17 : yC h17 = (yByd (yBys q (yC h) (kL1).toNat) kL1.toNat (yDut q (yBys q (yC h) (kL1).toNat) (((yBys q (yC h) (kL1).toNat) 79 kL1.toNat).toNat))) := by rw [f15, Zh14, sv13]
          have Xh17 : zXR msx186_z (0) (0) h h17 := Xh14.tr (c2 := 0) (s2 := 0) Qh17 (by decide +kernel) (by decide) (by decide)
          have Gh17_0 : gH h17 v4 := Gh14_0.x Qh17
          have pv4_h17 : v4 = zv h17 3 kL1.toNat ∧ ((kL1.toNat : Nat) : Int) < fld h17 3 2 := zpv Ch14 Qh17 (A := 3) (by decide) (by decide +kernel) pv4_h14
          have th17_3_2 : fld h17 3 2 = fld h14 3 2 := Qh17.f (a1 := 3) (a2 := 3) (j1 := 2) (j2 := 3) (by decide +kernel) ⟨by decide, by decide⟩ ⟨by decide, by decide⟩ ⟨by decide, by decide⟩
          have Vh17 : zRq q h17 := Vh14.fr Ch14 Qh17 (by decide +kernel)
          refine zwW_inc (i := 1) (c := 1) (x := kL1) (nx := 55) (by decide +kernel) rfl ⟨by omega, by omega⟩ (ls' := [(2, 1), (0, (kL1 + 1)), (2, v4)]) rfl ?_
          refine zwW_p [(24, 2, 0)] (q := 2) (ls' := [(2, 1), (0, (kL1 + 1)), (2, v4)]) (st' := []) (by decide +kernel) rfl ?_
          exact IHL1 ((1000 - (kL1 + 1))).toNat (by omega) (kL1 + 1) (2, v4) h17 rfl (Vh17) (by omega) (by omega) (by rw [show (kL1 + 1).toNat = (kL1).toNat + 1 by omega]; rw [yBys_s]; first | (rw [if_pos (by omega)]; exact Zh17) | (rw [if_neg (by omega)]; exact Zh17)) (f16) Ch17 (Xh17.le (by decide) (by decide))
  exact L1 _ 0 (9, 0) h rfl (V) (by omega) (by omega) (rfl) (J) C (X.le (by decide) (by decide))
def msx188_z : Zms := [(17, 17, 0, 13), (18, 18, 0, 400), (1004, 1004, 15, 16)]
-- WheelLand.raiseDues()V
theorem x188_z {sc : List Int} (h : Hp) (C : CI h) (q : qT) (J : yR h) (V : zRq q h) (ok : yOK (yC h)) : zwC sc 5 188 [(2, 1)] h (zwRv (fun g => CI g ∧ zXR msx188_z (0) (0) h g ∧ (yC g = yDuA q (yC h)) ∧ (yR g))) := by
  refine zwC_of (D := 4) 3 (by decide +kernel) rfl (ls := [(2, 1), (9, 0), (9, 0)]) rfl ?_
  have X : zXR msx188_z 0 0 h h := zXR.rf _ _
  have u0 : yC h 37 0 = fld h 1 0 := rfl
  have u1 : yC h 37 1 = fld h 2 2 := rfl
  have u2 : yC h 37 2 = fld h 3 2 := rfl
  have u64 : yC h 37 64 = fld h 4 2 := rfl
  have u78 : yC h 37 78 = fld h 5 2 := rfl
  have b33 := zLb_3 C
  refine zwW_p [(0, 0, 0), (2, 1, 0)] (q := 2) (ls' := [(2, 1), (0, 0), (9, 0)]) (st' := []) (by decide +kernel) rfl ?_
  have L1 : ∀ (n0 : Nat) (kL1 : Int) (w2L1 : Vl) (hL1 : Hp), n0 = ((1000 - kL1)).toNat → (zRq q hL1) → (fld hL1 3 2 = fld h 3 2 ∧ kL1 ≤ fld h 3 2) → (0 ≤ kL1 ∧ kL1 ≤ 20) → (yC hL1 = (yDus q (yC h) (kL1).toNat)) → (yR hL1) → CI hL1 → zXR msx188_z (0) (0) h hL1 → zwW sc (4) 188 2 [(2, 1), (0, kL1), w2L1] [] hL1 (zwRv (fun g => CI g ∧ zXR msx188_z (0) (0) h g ∧ (yC g = yDuA q (yC h)) ∧ (yR g))) := by
    intro n0
    induction n0 using Nat.strongRecOn with
    | ind n0 IHL1 =>
      intro kL1 w2L1 hL1 hnL1 iL1_0 iL1_1 iL1_2 iL1_3 iL1_4 ChL1 XhL1
      refine zwW_p [(1, 1, 0), (1, 0, 2)] (q := 4) (ls' := [(2, 1), (0, kL1), w2L1]) (st' := [(2, 1), (0, kL1)]) (by decide +kernel) rfl ?_
      refine zwW_gc ChL1.1 (kd := 12) (bn := 3) (n := 13) (c := 3) (nx := 7) (by decide +kernel) ?_
      refine zwW_cm ChL1.1 (op := 60) (k' := 96) (n := 0) (kd := 0) (m := 3) (nx := 10) (r := 3) (tl := []) (st' := [(0, kL1)]) (by decide +kernel) rfl (by decide +kernel) rfl (x96_3 ChL1) ?_
      rintro v2 _ ⟨rfl, ev2⟩
      have bv2 := zLb_3 ChL1
      have sv2 : v2 = (yDus q (yC h) (kL1).toNat) 37 2 := Eq.trans ev2 (Eq.trans (Eq.symm (yC_s (h := hL1) (i := 2) rfl)) (Eq.trans (congrFun (congrFun iL1_3 37) 2) rfl))
      refine zwic_ge (q := 89) (nx := 13) (by decide +kernel) (fun c3 => ?_) (fun c3 => ?_)
      · refine zwW_retv (nx := 90) (a := 0) (b := 0) (by decide +kernel) ?_
        exact ⟨ChL1, XhL1.le (by decide) (by decide), by refine Eq.trans iL1_3 ?_; unfold yDuA; rw [show (yC h 37 2).toNat = (kL1).toNat by omega], by exact iL1_4⟩
      · refine zwW_p [(1, 0, 2)] (q := 14) (ls' := [(2, 1), (0, kL1), w2L1]) (st' := [(2, 1)]) (by decide +kernel) rfl ?_
        refine zwW_gc ChL1.1 (kd := 12) (bn := 3) (n := 13) (c := 3) (nx := 17) (by decide +kernel) ?_
        refine zwW_p [(1, 1, 0)] (q := 18) (ls' := [(2, 1), (0, kL1), w2L1]) (st' := [(0, kL1), (2, 3)]) (by decide +kernel) rfl ?_
        refine zwW_cm ChL1.1 (op := 60) (k' := 123) (n := 1) (kd := 0) (m := 3) (nx := 21) (r := 3) (tl := [(0, kL1)]) (st' := []) (by decide +kernel) rfl (by decide +kernel) rfl (x123_3 ChL1 (i := kL1) ⟨by omega, by omega⟩) ?_
        rintro v4 _ ⟨rfl, Gv4, ev4⟩
        have lv4 := Gv4.1
        have pv4 : v4 = zv hL1 3 kL1.toNat ∧ ((kL1.toNat : Nat) : Int) < fld hL1 3 2 := ⟨ev4, by omega⟩
        refine zwW_cast (a := 4) (kd := 4) (n := 19) (nx := 24) (by decide +kernel) rfl (Or.inr Gv4.2.1) ?_
        have OKT : yOK (yDus q (yC h) (kL1).toNat) := ok.dus _
        refine zwW_p [(2, 2, 2), (1, 2, 2)] (q := 26) (ls' := [(2, 1), (0, kL1), (2, v4)]) (st' := [(2, v4)]) (by decide +kernel) rfl ?_
        refine zwX_gi ChL1 (kd := 4) (bn := 2) (n := 19) (nx := 29) (by decide +kernel) Gv4.2.1 Gv4.1 rfl ?_
        intro v5 ev5 lv5 uv5
        have sv5 : v5 = (yDus q (yC h) (kL1).toNat) 80 kL1.toNat := Eq.trans ev5 (Eq.trans (congrArg (fun q => fld hL1 q 2) pv4.1) (Eq.trans (Eq.symm (yC_f (h := hL1) (a := 80) (A := 3) (j := 2) (i := kL1.toNat) rfl pv4.2)) (Eq.trans (congrFun (congrFun iL1_3 80) kL1.toNat) rfl)))
        refine zwif_le (q := 83) (nx := 32) (by decide +kernel) (fun c6 => ?_) (fun c6 => ?_)
        · refine zwW_inc (i := 1) (c := 1) (x := kL1) (nx := 86) (by decide +kernel) rfl ⟨by omega, by omega⟩ (ls' := [(2, 1), (0, (kL1 + 1)), (2, v4)]) rfl ?_
          refine zwW_p [(24, 2, 0)] (q := 2) (ls' := [(2, 1), (0, (kL1 + 1)), (2, v4)]) (st' := []) (by decide +kernel) rfl ?_
          exact IHL1 ((1000 - (kL1 + 1))).toNat (by omega) (kL1 + 1) (2, v4) hL1 rfl (iL1_0) (by omega) (by omega) (by rw [show (kL1 + 1).toNat = (kL1).toNat + 1 by omega]; show _ = yDu1 q _ _; unfold yDu1; first | (rw [if_neg (by omega)]; exact iL1_3) | (rw [if_pos (by omega)]; unfold yOwe; rw [← A72]; first | exact iL1_3 | exact iL1_3.trans (by congr 1; omega))) (iL1_4) ChL1 (XhL1.le (by decide) (by decide))
        · refine zwW_p [(1, 0, 2)] (q := 33) (ls' := [(2, 1), (0, kL1), (2, v4)]) (st' := [(2, 1)]) (by decide +kernel) rfl ?_
          refine zwW_gc ChL1.1 (kd := 12) (bn := 8) (n := 13) (c := 13) (nx := 36) (by decide +kernel) ?_
          refine zwW_p [(1, 0, 2)] (q := 37) (ls' := [(2, 1), (0, kL1), (2, v4)]) (st' := [(2, 1), (2, 13)]) (by decide +kernel) rfl ?_
          refine zwW_gs ChL1.1 (kd := 12) (bn := 0) (n := 13) (t := 0) (lo := 0) (hi := 156) (nx := 40) (by decide +kernel) ?_
          intro v7 ev7 lv7 uv7
          have sv7 : v7 = (yDus q (yC h) (kL1).toNat) 37 0 := Eq.trans ev7 (Eq.trans (Eq.symm (yC_s (h := hL1) (i := 0) rfl)) (Eq.trans (congrFun (congrFun iL1_3 37) 0) rfl))
          refine zwW_cmv ChL1.1 (op := 60) (k' := 166) (n := 1) (kd := 9) (m := 6) (nx := 43) (r := 13) (tl := [(0, v7)]) (st' := []) (by decide +kernel) rfl (by decide +kernel) rfl (x166_n hL1 ChL1 v7 (by omega) (by omega)) ?_
          rintro h9 ⟨Ch9, Qh9, f8⟩
          have Zh9 : yC h9 = (yDus q (yC h) (kL1).toNat) := (yC_fr ChL1 Qh9 (by decide +kernel) (ChL1.1.b (a1 := 37) (a2 := 37) (j1 := 86) (j2 := 87) (lo := 0) (hi := 6) (by decide +kernel) (r := 37) (j := 86) (by decide) (by decide) (by decide) (by decide)).2).trans iL1_3
          have Xh9 : zXR msx188_z (0) (0) h h9 := XhL1.tr (c2 := 0) (s2 := 0) Qh9 (by decide +kernel) (by decide) (by decide)
          have Gh9_0 : gH h9 v4 := Gv4.x Qh9
          have Jh9 : yR h9 := iL1_4.fr ChL1 Qh9 (by decide +kernel)
          have pv4_h9 : v4 = zv h9 3 kL1.toNat ∧ ((kL1.toNat : Nat) : Int) < fld h9 3 2 := zpv ChL1 Qh9 (A := 3) (by decide) (by decide +kernel) pv4
          have th9_3_2 : fld h9 3 2 = fld hL1 3 2 := Qh9.f (a1 := 3) (a2 := 3) (j1 := 2) (j2 := 3) (by decide +kernel) ⟨by decide, by decide⟩ ⟨by decide, by decide⟩ ⟨by decide, by decide⟩
          have Vh9 : zRq q h9 := iL1_0.fr ChL1 Qh9 (by decide +kernel)
          have G40 : n13 17 h9 (yNm0 ((yDus q (yC h) (kL1).toNat) 37 0)) := f8.cg (by rw [sv7])
          refine zwW_p [(1, 0, 2)] (q := 44) (ls' := [(2, 1), (0, kL1), (2, v4)]) (st' := [(2, 1)]) (by decide +kernel) rfl ?_
          refine zwW_gc Ch9.1 (kd := 12) (bn := 8) (n := 13) (c := 13) (nx := 47) (by decide +kernel) ?_
          refine zwW_p [(1, 2, 2), (1, 0, 2)] (q := 49) (ls' := [(2, 1), (0, kL1), (2, v4)]) (st' := [(2, 1), (2, v4), (2, 13)]) (by decide +kernel) rfl ?_
          refine zwW_gs Ch9.1 (kd := 12) (bn := 0) (n := 13) (t := 0) (lo := 0) (hi := 156) (nx := 52) (by decide +kernel) ?_
          intro v10 ev10 lv10 uv10
          have sv10 : v10 = (yDus q (yC h) (kL1).toNat) 37 0 := Eq.trans ev10 (Eq.trans (Eq.symm (yC_s (h := h9) (i := 0) rfl)) (Eq.trans (congrFun (congrFun Zh9 37) 0) rfl))
          refine zwW_cs (k' := 162) (n := 1) (nx := 55) (as := [(0, v10)]) (st' := [(2, v4), (2, 13)]) (by decide +kernel) rfl (x162 h9 Ch9 v10 (by omega) (by omega)) rfl ?_
          rintro v11 _ ⟨rfl, f12, f13, f14⟩
          have Z55 := Zh9
          refine zwW_cmv Ch9.1 (op := 60) (k' := 167) (n := 2) (kd := 9) (m := 6) (nx := 58) (r := 13) (tl := [(2, v4), (0, v11)]) (st' := []) (by decide +kernel) rfl (by decide +kernel) rfl (x167_z h9 Ch9 v4 v11 (yNm0 ((yDus q (yC h) (kL1).toNat) 37 0)) Gh9_0 (by omega) Jh9 kL1.toNat pv4_h9 (by rw [Zh9]; exact OKT) G40 (by rw [Zh9]; omega)) ?_
          rintro h17 ⟨Ch17, Qh17, f15, f16⟩
          have Zh17 : yC h17 = (yDus q (yC h) (kL1).toNat) := (yC_fr Ch9 Qh17 (by decide +kernel) (Ch9.1.b (a1 := 37) (a2 := 37) (j1 := 86) (j2 := 87) (lo := 0) (hi := 6) (by decide +kernel) (r := 37) (j := 86) (by decide) (by decide) (by decide) (by decide)).2).trans Zh9
          have Xh17 : zXR msx188_z (0) (0) h h17 := Xh9.tr (c2 := 0) (s2 := 0) Qh17 (by decide +kernel) (by decide) (by decide)
          have Gh17_0 : gH h17 v4 := Gh9_0.x Qh17
          have pv4_h17 : v4 = zv h17 3 kL1.toNat ∧ ((kL1.toNat : Nat) : Int) < fld h17 3 2 := zpv Ch9 Qh17 (A := 3) (by decide) (by decide +kernel) pv4_h9
          have th17_3_2 : fld h17 3 2 = fld h9 3 2 := Qh17.f (a1 := 3) (a2 := 3) (j1 := 2) (j2 := 3) (by decide +kernel) ⟨by decide, by decide⟩ ⟨by decide, by decide⟩ ⟨by decide, by decide⟩
          have Vh17 : zRq q h17 := Vh9.fr Ch9 Qh17 (by decide +kernel)
          have G55 : n13 17 h17 (yNmH (yDus q (yC h) (kL1).toNat) (kL1).toNat (yNm0 ((yDus q (yC h) (kL1).toNat) 37 0))) := by
            have z := f15
            rw [Z55] at z
            exact z
          refine zwW_p [(1, 2, 2), (12, 0, 0)] (q := 60) (ls' := [(2, 1), (0, kL1), (2, v4)]) (st' := [(2, v4), (2, v4)]) (by decide +kernel) rfl ?_
          refine zwX_gi Ch17 (kd := 4) (bn := 15) (n := 19) (nx := 63) (by decide +kernel) Gh17_0.2.1 Gh17_0.1 rfl ?_
          intro v18 ev18 lv18 uv18
          have sv18 : v18 = (yDus q (yC h) (kL1).toNat) 93 kL1.toNat := Eq.trans ev18 (Eq.trans (congrArg (fun q => fld h17 q 15) pv4_h17.1) (Eq.trans (Eq.symm (yC_f (h := h17) (a := 93) (A := 3) (j := 15) (i := kL1.toNat) rfl pv4_h17.2)) (Eq.trans (congrFun (congrFun Zh17 93) kL1.toNat) rfl)))
          refine zwW_p [(1, 0, 2)] (q := 64) (ls' := [(2, 1), (0, kL1), (2, v4)]) (st' := [(2, 1), (0, v18), (2, v4)]) (by decide +kernel) rfl ?_
          refine zwW_gc Ch17.1 (kd := 12) (bn := 8) (n := 13) (c := 13) (nx := 67) (by decide +kernel) ?_
          refine zwW_p [(0, 0, 0), (1, 0, 2)] (q := 69) (ls' := [(2, 1), (0, kL1), (2, v4)]) (st' := [(2, 1), (0, 0), (2, 13), (0, v18), (2, v4)]) (by decide +kernel) rfl ?_
          refine zwW_gs Ch17.1 (kd := 12) (bn := 0) (n := 13) (t := 0) (lo := 0) (hi := 156) (nx := 72) (by decide +kernel) ?_
          intro v19 ev19 lv19 uv19
          have sv19 : v19 = (yDus q (yC h) (kL1).toNat) 37 0 := Eq.trans ev19 (Eq.trans (Eq.symm (yC_s (h := h17) (i := 0) rfl)) (Eq.trans (congrFun (congrFun Zh17 37) 0) rfl))
          have Z72 := Zh17
          refine zwW_cm Ch17.1 (op := 60) (k' := 172) (n := 2) (kd := 9) (m := 6) (nx := 75) (r := 13) (tl := [(0, 0), (0, v19)]) (st' := [(0, v18), (2, v4)]) (by decide +kernel) rfl (by decide +kernel) rfl (x172_e h17 Ch17 0 v19 (by omega) (by omega) ⟨by decide, by decide⟩ Vh17.1.1 Vh17.1.2.1 Vh17.1.2.2 (G55.ns (eNs_nmh OKT (eNs_nm0 OKT) (by omega))) Vh17.2.1.1 Vh17.2.1.2) ?_
          rintro v22 h23 ⟨Ch23, Qh23, f20, f21⟩
          have Zh23 : yC h23 = (yDus q (yC h) (kL1).toNat) := (yC_fr Ch17 Qh23 (by decide +kernel) (Ch17.1.b (a1 := 37) (a2 := 37) (j1 := 86) (j2 := 87) (lo := 0) (hi := 6) (by decide +kernel) (r := 37) (j := 86) (by decide) (by decide) (by decide) (by decide)).2).trans Zh17
          have Xh23 : zXR msx188_z (0) (0) h h23 := Xh17.tr (c2 := 0) (s2 := 0) Qh23 (by decide +kernel) (by decide) (by decide)
          have Gh23_0 : gH h23 v4 := Gh17_0.x Qh23
          have Jh23 : yR h23 := f16.fr Ch17 Qh23 (by decide +kernel)
          have pv4_h23 : v4 = zv h23 3 kL1.toNat ∧ ((kL1.toNat : Nat) : Int) < fld h23 3 2 := zpv Ch17 Qh23 (A := 3) (by decide) (by decide +kernel) pv4_h17
          have th23_3_2 : fld h23 3 2 = fld h17 3 2 := Qh23.f (a1 := 3) (a2 := 3) (j1 := 2) (j2 := 3) (by decide +kernel) ⟨by decide, by decide⟩ ⟨by decide, by decide⟩ ⟨by decide, by decide⟩
          have Vh23 : zRq q h23 := Vh17.fr Ch17 Qh23 (by decide +kernel)
          have A72 : v22 = q 0 ((yDus q (yC h) (kL1).toNat) 37 0) (yNmH (yDus q (yC h) (kL1).toNat) (kL1).toNat (yNm0 ((yDus q (yC h) (kL1).toNat) 37 0))) := by
            have z := f21
            rw [z, G55.tl, Vh17.2.2 _ _ _ (by decide) (by decide), sv19]
          refine zwW_p [(0, 0, 0)] (q := 76) (ls' := [(2, 1), (0, kL1), (2, v4)]) (st' := [(0, 0), (0, v22), (0, v18), (2, v4)]) (by decide +kernel) rfl ?_
          refine zwW_max (nx := 79) (by decide +kernel) rfl ?_
          intro v24 ev24
          refine zwW_adw (nx := 80) (by decide +kernel) ?_
          intro v25 ev25 lv25 uv25
          have Ev25 : v25 = w32 (((yDus q (yC h) (kL1).toNat) 93 kL1.toNat) + (max v22 0)) := by rw [ev25, sv18, ev24]
          refine zwX_pi Ch23 (kd := 4) (bn := 15) (n := 19) (nx := 83) (by decide +kernel) Gh23_0.2.1 Gh23_0.1 ⟨by omega, by omega⟩ ?_
          rintro h26 eh26 Ch26 Qh26
          have Zh26 : yC h26 = (zs (yDus q (yC h) (kL1).toNat) 93 kL1.toNat (w32 (((yDus q (yC h) (kL1).toNat) 93 kL1.toNat) + (max v22 0)))) := by rw [yC_w (a := 93) (A := 3) (j := 15) (k := kL1.toNat) Ch23 Jh23 rfl pv4_h23 eh26, Zh23, Ev25]
          have Xh26 : zXR msx188_z (0) (0) h h26 := Xh23.tr (c2 := 0) (s2 := 0) Qh26 (by decide +kernel) (by decide) (by decide)
          have Gh26_0 : gH h26 v4 := Gh23_0.x Qh26
          have Jh26 : yR h26 := Jh23.fr Ch23 Qh26 (by decide +kernel)
          have pv4_h26 : v4 = zv h26 3 kL1.toNat ∧ ((kL1.toNat : Nat) : Int) < fld h26 3 2 := zpv Ch23 Qh26 (A := 3) (by decide) (by decide +kernel) pv4_h23
          have th26_3_2 : fld h26 3 2 = fld h23 3 2 := Qh26.f (a1 := 3) (a2 := 3) (j1 := 2) (j2 := 3) (by decide +kernel) ⟨by decide, by decide⟩ ⟨by decide, by decide⟩ ⟨by decide, by decide⟩
          have Vh26 : zRq q h26 := Vh23.fr Ch23 Qh26 (by decide +kernel)
          refine zwW_inc (i := 1) (c := 1) (x := kL1) (nx := 86) (by decide +kernel) rfl ⟨by omega, by omega⟩ (ls' := [(2, 1), (0, (kL1 + 1)), (2, v4)]) rfl ?_
          refine zwW_p [(24, 2, 0)] (q := 2) (ls' := [(2, 1), (0, (kL1 + 1)), (2, v4)]) (st' := []) (by decide +kernel) rfl ?_
          exact IHL1 ((1000 - (kL1 + 1))).toNat (by omega) (kL1 + 1) (2, v4) h26 rfl (Vh26) (by omega) (by omega) (by rw [show (kL1 + 1).toNat = (kL1).toNat + 1 by omega]; show _ = yDu1 q _ _; unfold yDu1; first | (rw [if_neg (by omega)]; exact Zh26) | (rw [if_pos (by omega)]; unfold yOwe; rw [← A72]; first | exact Zh26 | exact Zh26.trans (by congr 1; omega))) (Jh26) Ch26 (Xh26.le (by decide) (by decide))
  exact L1 _ 0 (9, 0) h rfl (V) (by omega) (by omega) (rfl) (J) C (X.le (by decide) (by decide))
def msx234_z : Zms := [(1011, 1011, 9, 10), (1011, 1011, 14, 15), (1011, 1011, 15, 16)]
-- WheelLand$Village.endSeason()V
theorem x234_z {sc : List Int} (h : Hp) (C : CI h) (r : Int) (G_r : gV h r) (J : yR h) (k : Nat) (P_r : r = zv h 2 k ∧ (k : Int) < fld h 2 2) (ok : yOK (yC h)) : zwC sc 1 234 [(2, r)] h (zwRv (fun g => CI g ∧ zXR msx234_z (0) (0) h g ∧ (yC g = yMl1 (yC h) k) ∧ (yR g))) := by
  refine zwC_of (D := 0) 1 (by decide +kernel) rfl (ls := [(2, r)]) rfl ?_
  have lw_r := G_r.1
  have X : zXR msx234_z 0 0 h h := zXR.rf _ _
  have u0 : yC h 37 0 = fld h 1 0 := rfl
  have u1 : yC h 37 1 = fld h 2 2 := rfl
  have u2 : yC h 37 2 = fld h 3 2 := rfl
  have u64 : yC h 37 64 = fld h 4 2 := rfl
  have u78 : yC h 37 78 = fld h 5 2 := rfl
  have B234 := (ok.vi (v := k) (by have := P_r.2; omega)).1
  refine zwW_p [(1, 0, 2), (1, 0, 2)] (q := 2) (ls' := [(2, r)]) (st' := [(2, r), (2, r)]) (by decide +kernel) rfl ?_
  refine zwX_gi C (kd := 11) (bn := 14) (n := 17) (nx := 5) (by decide +kernel) G_r.2.1 G_r.1 rfl ?_
  intro v1 ev1 lv1 uv1
  have sv1 : v1 = (yC h) 77 k := Eq.trans ev1 (Eq.trans (congrArg (fun q => fld h q 14) P_r.1) (Eq.trans (Eq.symm (yC_f (h := h) (a := 77) (A := 2) (j := 14) (i := k) rfl P_r.2)) (Eq.trans (congrFun (congrFun (rfl : yC h = yC h) 77) k) rfl)))
  refine zwW_p [(1, 0, 2)] (q := 6) (ls' := [(2, r)]) (st' := [(2, r), (0, v1), (2, r)]) (by decide +kernel) rfl ?_
  refine zwX_gi C (kd := 11) (bn := 15) (n := 17) (nx := 9) (by decide +kernel) G_r.2.1 G_r.1 rfl ?_
  intro v2 ev2 lv2 uv2
  have sv2 : v2 = (yC h) 78 k := Eq.trans ev2 (Eq.trans (congrArg (fun q => fld h q 15) P_r.1) (Eq.trans (Eq.symm (yC_f (h := h) (a := 78) (A := 2) (j := 15) (i := k) rfl P_r.2)) (Eq.trans (congrFun (congrFun (rfl : yC h = yC h) 78) k) rfl)))
  refine zwic_ge (q := 25) (nx := 12) (by decide +kernel) (fun c3 => ?_) (fun c3 => ?_)
  · refine zwW_p [(1, 0, 2)] (q := 26) (ls' := [(2, r)]) (st' := [(2, r), (2, r)]) (by decide +kernel) rfl ?_
    refine zwX_gi C (kd := 11) (bn := 9) (n := 17) (nx := 29) (by decide +kernel) G_r.2.1 G_r.1 rfl ?_
    intro v4 ev4 lv4 uv4
    have sv4 : v4 = (yC h) 71 k := Eq.trans ev4 (Eq.trans (congrArg (fun q => fld h q 9) P_r.1) (Eq.trans (Eq.symm (yC_f (h := h) (a := 71) (A := 2) (j := 9) (i := k) rfl P_r.2)) (Eq.trans (congrFun (congrFun (rfl : yC h = yC h) 71) k) rfl)))
    refine zwW_p [(0, 1, 0)] (q := 30) (ls' := [(2, r)]) (st' := [(0, 1), (0, v4), (2, r)]) (by decide +kernel) rfl ?_
    refine zwW_add (nx := 31) (by decide +kernel) ⟨by omega, by omega⟩ ?_
    refine zwW_p [(0, 99, 0)] (q := 33) (ls' := [(2, r)]) (st' := [(0, 99), (0, (v4 + 1)), (2, r)]) (by decide +kernel) rfl ?_
    refine zwW_min (nx := 36) (by decide +kernel) rfl ?_
    intro v5 ev5
    have Ev5 : v5 = min (((yC h) 71 k) + 1) 99 := by rw [ev5, sv4]
    refine zwX_pi C (kd := 11) (bn := 9) (n := 17) (nx := 39) (by decide +kernel) G_r.2.1 G_r.1 ⟨by omega, by omega⟩ ?_
    rintro h6 eh6 Ch6 Qh6
    have Zh6 : yC h6 = (zs (yC h) 71 k (min (((yC h) 71 k) + 1) 99)) := by rw [yC_w (a := 71) (A := 2) (j := 9) (k := k) C J rfl P_r eh6, Ev5]
    have Xh6 : zXR msx234_z (0) (0) h h6 := X.tr (c2 := 0) (s2 := 0) Qh6 (by decide +kernel) (by decide) (by decide)
    have Gh6_0 : gV h6 r := G_r.x Qh6
    have Jh6 : yR h6 := J.fr C Qh6 (by decide +kernel)
    have pr_h6 : r = zv h6 2 k ∧ ((k : Nat) : Int) < fld h6 2 2 := zpv C Qh6 (A := 2) (by decide) (by decide +kernel) P_r
    refine zwW_p [(1, 0, 2), (1, 0, 2)] (q := 41) (ls' := [(2, r)]) (st' := [(2, r), (2, r)]) (by decide +kernel) rfl ?_
    refine zwX_gi Ch6 (kd := 11) (bn := 14) (n := 17) (nx := 44) (by decide +kernel) Gh6_0.2.1 Gh6_0.1 rfl ?_
    intro v7 ev7 lv7 uv7
    have sv7 : v7 = (yC h) 77 k := Eq.trans ev7 (Eq.trans (congrArg (fun q => fld h6 q 14) pr_h6.1) (Eq.trans (Eq.symm (yC_f (h := h6) (a := 77) (A := 2) (j := 14) (i := k) rfl pr_h6.2)) (Eq.trans (congrFun (congrFun Zh6 77) k) (Eq.trans (zs_na (by decide) : (zs (yC h) 71 k (min (((yC h) 71 k) + 1) 99)) 77 k = (yC h) 77 k) rfl))))
    refine zwX_pi Ch6 (kd := 11) (bn := 15) (n := 17) (nx := 47) (by decide +kernel) Gh6_0.2.1 Gh6_0.1 ⟨by omega, by omega⟩ ?_
    rintro h8 eh8 Ch8 Qh8
    have Zh8 : yC h8 = (zs (zs (yC h) 71 k (min (((yC h) 71 k) + 1) 99)) 78 k ((yC h) 77 k)) := by rw [yC_w (a := 78) (A := 2) (j := 15) (k := k) Ch6 Jh6 rfl pr_h6 eh8, Zh6, sv7]
    have Xh8 : zXR msx234_z (0) (0) h h8 := Xh6.tr (c2 := 0) (s2 := 0) Qh8 (by decide +kernel) (by decide) (by decide)
    have Gh8_0 : gV h8 r := Gh6_0.x Qh8
    have Jh8 : yR h8 := Jh6.fr Ch6 Qh8 (by decide +kernel)
    have pr_h8 : r = zv h8 2 k ∧ ((k : Nat) : Int) < fld h8 2 2 := zpv Ch6 Qh8 (A := 2) (by decide) (by decide +kernel) pr_h6
    refine zwW_p [(1, 0, 2), (0, 0, 0)] (q := 49) (ls' := [(2, r)]) (st' := [(0, 0), (2, r)]) (by decide +kernel) rfl ?_
    refine zwX_pi Ch8 (kd := 11) (bn := 14) (n := 17) (nx := 52) (by decide +kernel) Gh8_0.2.1 Gh8_0.1 ⟨by decide, by decide⟩ ?_
    rintro h9 eh9 Ch9 Qh9
    have Uh9 : yC h9 = (zs (zs (zs (yC h) 71 k (min (((yC h) 71 k) + 1) 99)) 78 k ((yC h) 77 k)) 77 k 0) := by rw [yC_w (a := 77) (A := 2) (j := 14) (k := k) Ch8 Jh8 rfl pr_h8 eh9, Zh8]
    have Zh9 : yC h9 = (zs (zs (zs (yC h) 71 k (min (((yC h) 71 k) + 1) 99)) 77 k 0) 78 k ((yC h) 77 k)) := by rw [Uh9, zs_sw (a := 78) (b := 77) (by decide)]
    have Xh9 : zXR msx234_z (0) (0) h h9 := Xh8.tr (c2 := 0) (s2 := 0) Qh9 (by decide +kernel) (by decide) (by decide)
    have Gh9_0 : gV h9 r := Gh8_0.x Qh9
    have Jh9 : yR h9 := Jh8.fr Ch8 Qh9 (by decide +kernel)
    have pr_h9 : r = zv h9 2 k ∧ ((k : Nat) : Int) < fld h9 2 2 := zpv Ch8 Qh9 (A := 2) (by decide) (by decide +kernel) pr_h8
    refine zwW_retv (nx := 53) (a := 0) (b := 0) (by decide +kernel) ?_
    exact ⟨Ch9, Xh9.le (by decide) (by decide), by refine Eq.trans Zh9 ?_; unfold yMl1; (repeat' (first | rw [if_pos (by omega)] | rw [if_neg (by omega)])); all_goals (repeat' (first | rfl | omega | apply zs_cg)), by exact Jh9⟩
  · refine zwW_p [(1, 0, 2)] (q := 13) (ls' := [(2, r)]) (st' := [(2, r), (2, r)]) (by decide +kernel) rfl ?_
    refine zwX_gi C (kd := 11) (bn := 9) (n := 17) (nx := 16) (by decide +kernel) G_r.2.1 G_r.1 rfl ?_
    intro v10 ev10 lv10 uv10
    have sv10 : v10 = (yC h) 71 k := Eq.trans ev10 (Eq.trans (congrArg (fun q => fld h q 9) P_r.1) (Eq.trans (Eq.symm (yC_f (h := h) (a := 71) (A := 2) (j := 9) (i := k) rfl P_r.2)) (Eq.trans (congrFun (congrFun (rfl : yC h = yC h) 71) k) rfl)))
    refine zwW_p [(0, 1, 0)] (q := 17) (ls' := [(2, r)]) (st' := [(0, 1), (0, v10), (2, r)]) (by decide +kernel) rfl ?_
    refine zwW_sub (nx := 18) (by decide +kernel) ⟨by omega, by omega⟩ ?_
    refine zwW_p [(0, 1, 0)] (q := 19) (ls' := [(2, r)]) (st' := [(0, 1), (0, (v10 - 1)), (2, r)]) (by decide +kernel) rfl ?_
    refine zwW_max (nx := 22) (by decide +kernel) rfl ?_
    intro v11 ev11
    have Ev11 : v11 = max (((yC h) 71 k) - 1) 1 := by rw [ev11, sv10]
    refine zwW_p [(24, 36, 0)] (q := 36) (ls' := [(2, r)]) (st' := [(0, v11), (2, r)]) (by decide +kernel) rfl ?_
    refine zwX_pi C (kd := 11) (bn := 9) (n := 17) (nx := 39) (by decide +kernel) G_r.2.1 G_r.1 ⟨by omega, by omega⟩ ?_
    rintro h12 eh12 Ch12 Qh12
    have Zh12 : yC h12 = (zs (yC h) 71 k (max (((yC h) 71 k) - 1) 1)) := by rw [yC_w (a := 71) (A := 2) (j := 9) (k := k) C J rfl P_r eh12, Ev11]
    have Xh12 : zXR msx234_z (0) (0) h h12 := X.tr (c2 := 0) (s2 := 0) Qh12 (by decide +kernel) (by decide) (by decide)
    have Gh12_0 : gV h12 r := G_r.x Qh12
    have Jh12 : yR h12 := J.fr C Qh12 (by decide +kernel)
    have pr_h12 : r = zv h12 2 k ∧ ((k : Nat) : Int) < fld h12 2 2 := zpv C Qh12 (A := 2) (by decide) (by decide +kernel) P_r
    refine zwW_p [(1, 0, 2), (1, 0, 2)] (q := 41) (ls' := [(2, r)]) (st' := [(2, r), (2, r)]) (by decide +kernel) rfl ?_
    refine zwX_gi Ch12 (kd := 11) (bn := 14) (n := 17) (nx := 44) (by decide +kernel) Gh12_0.2.1 Gh12_0.1 rfl ?_
    intro v13 ev13 lv13 uv13
    have sv13 : v13 = (yC h) 77 k := Eq.trans ev13 (Eq.trans (congrArg (fun q => fld h12 q 14) pr_h12.1) (Eq.trans (Eq.symm (yC_f (h := h12) (a := 77) (A := 2) (j := 14) (i := k) rfl pr_h12.2)) (Eq.trans (congrFun (congrFun Zh12 77) k) (Eq.trans (zs_na (by decide) : (zs (yC h) 71 k (max (((yC h) 71 k) - 1) 1)) 77 k = (yC h) 77 k) rfl))))
    refine zwX_pi Ch12 (kd := 11) (bn := 15) (n := 17) (nx := 47) (by decide +kernel) Gh12_0.2.1 Gh12_0.1 ⟨by omega, by omega⟩ ?_
    rintro h14 eh14 Ch14 Qh14
    have Zh14 : yC h14 = (zs (zs (yC h) 71 k (max (((yC h) 71 k) - 1) 1)) 78 k ((yC h) 77 k)) := by rw [yC_w (a := 78) (A := 2) (j := 15) (k := k) Ch12 Jh12 rfl pr_h12 eh14, Zh12, sv13]
    have Xh14 : zXR msx234_z (0) (0) h h14 := Xh12.tr (c2 := 0) (s2 := 0) Qh14 (by decide +kernel) (by decide) (by decide)
    have Gh14_0 : gV h14 r := Gh12_0.x Qh14
    have Jh14 : yR h14 := Jh12.fr Ch12 Qh14 (by decide +kernel)
    have pr_h14 : r = zv h14 2 k ∧ ((k : Nat) : Int) < fld h14 2 2 := zpv Ch12 Qh14 (A := 2) (by decide) (by decide +kernel) pr_h12
    refine zwW_p [(1, 0, 2), (0, 0, 0)] (q := 49) (ls' := [(2, r)]) (st' := [(0, 0), (2, r)]) (by decide +kernel) rfl ?_
    refine zwX_pi Ch14 (kd := 11) (bn := 14) (n := 17) (nx := 52) (by decide +kernel) Gh14_0.2.1 Gh14_0.1 ⟨by decide, by decide⟩ ?_
    rintro h15 eh15 Ch15 Qh15
    have Uh15 : yC h15 = (zs (zs (zs (yC h) 71 k (max (((yC h) 71 k) - 1) 1)) 78 k ((yC h) 77 k)) 77 k 0) := by rw [yC_w (a := 77) (A := 2) (j := 14) (k := k) Ch14 Jh14 rfl pr_h14 eh15, Zh14]
    have Zh15 : yC h15 = (zs (zs (zs (yC h) 71 k (max (((yC h) 71 k) - 1) 1)) 77 k 0) 78 k ((yC h) 77 k)) := by rw [Uh15, zs_sw (a := 78) (b := 77) (by decide)]
    have Xh15 : zXR msx234_z (0) (0) h h15 := Xh14.tr (c2 := 0) (s2 := 0) Qh15 (by decide +kernel) (by decide) (by decide)
    have Gh15_0 : gV h15 r := Gh14_0.x Qh15
    have Jh15 : yR h15 := Jh14.fr Ch14 Qh15 (by decide +kernel)
    have pr_h15 : r = zv h15 2 k ∧ ((k : Nat) : Int) < fld h15 2 2 := zpv Ch14 Qh15 (A := 2) (by decide) (by decide +kernel) pr_h14
    refine zwW_retv (nx := 53) (a := 0) (b := 0) (by decide +kernel) ?_
    exact ⟨Ch15, Xh15.le (by decide) (by decide), by refine Eq.trans Zh15 ?_; unfold yMl1; (repeat' (first | rw [if_pos (by omega)] | rw [if_neg (by omega)])); all_goals (repeat' (first | rfl | omega | apply zs_cg)), by exact Jh15⟩
def msx189_z : Zms := [(1011, 1011, 9, 10), (1011, 1011, 14, 15), (1011, 1011, 15, 16)]
-- WheelLand.moveMillPrices()V
theorem x189_z {sc : List Int} (h : Hp) (C : CI h) (J : yR h) (ok : yOK (yC h)) : zwC sc 5 189 [(2, 1)] h (zwRv (fun g => CI g ∧ zXR msx189_z (0) (0) h g ∧ (yC g = yMlA (yC h)) ∧ (yR g))) := by
  refine zwC_of (D := 4) 2 (by decide +kernel) rfl (ls := [(2, 1), (9, 0)]) rfl ?_
  have X : zXR msx189_z 0 0 h h := zXR.rf _ _
  have u0 : yC h 37 0 = fld h 1 0 := rfl
  have u1 : yC h 37 1 = fld h 2 2 := rfl
  have u2 : yC h 37 2 = fld h 3 2 := rfl
  have u64 : yC h 37 64 = fld h 4 2 := rfl
  have u78 : yC h 37 78 = fld h 5 2 := rfl
  have b22 := zLb_2 C
  refine zwW_p [(0, 0, 0), (2, 1, 0)] (q := 2) (ls' := [(2, 1), (0, 0)]) (st' := []) (by decide +kernel) rfl ?_
  have L1 : ∀ (n0 : Nat) (kL1 : Int) (hL1 : Hp), n0 = ((1000 - kL1)).toNat → (fld hL1 2 2 = fld h 2 2 ∧ kL1 ≤ fld h 2 2) → (0 ≤ kL1 ∧ kL1 ≤ 8) → (yC hL1 = (yMls (yC h) (kL1).toNat)) → (yR hL1) → CI hL1 → zXR msx189_z (0) (0) h hL1 → zwW sc (4) 189 2 [(2, 1), (0, kL1)] [] hL1 (zwRv (fun g => CI g ∧ zXR msx189_z (0) (0) h g ∧ (yC g = yMlA (yC h)) ∧ (yR g))) := by
    intro n0
    induction n0 using Nat.strongRecOn with
    | ind n0 IHL1 =>
      intro kL1 hL1 hnL1 iL1_0 iL1_1 iL1_2 iL1_3 ChL1 XhL1
      refine zwW_p [(1, 1, 0), (1, 0, 2)] (q := 4) (ls' := [(2, 1), (0, kL1)]) (st' := [(2, 1), (0, kL1)]) (by decide +kernel) rfl ?_
      refine zwW_gc ChL1.1 (kd := 12) (bn := 2) (n := 13) (c := 2) (nx := 7) (by decide +kernel) ?_
      refine zwW_cm ChL1.1 (op := 60) (k' := 96) (n := 0) (kd := 0) (m := 3) (nx := 10) (r := 2) (tl := []) (st' := [(0, kL1)]) (by decide +kernel) rfl (by decide +kernel) rfl (x96_2 ChL1) ?_
      rintro v2 _ ⟨rfl, ev2⟩
      have bv2 := zLb_2 ChL1
      have sv2 : v2 = (yMls (yC h) (kL1).toNat) 37 1 := Eq.trans ev2 (Eq.trans (Eq.symm (yC_s (h := hL1) (i := 1) rfl)) (Eq.trans (congrFun (congrFun iL1_2 37) 1) rfl))
      refine zwic_ge (q := 33) (nx := 13) (by decide +kernel) (fun c3 => ?_) (fun c3 => ?_)
      · refine zwW_retv (nx := 34) (a := 0) (b := 0) (by decide +kernel) ?_
        exact ⟨ChL1, XhL1.le (by decide) (by decide), by refine Eq.trans iL1_2 ?_; unfold yMlA; rw [show (yC h 37 1).toNat = (kL1).toNat by omega], by exact iL1_3⟩
      · refine zwW_p [(1, 0, 2)] (q := 14) (ls' := [(2, 1), (0, kL1)]) (st' := [(2, 1)]) (by decide +kernel) rfl ?_
        refine zwW_gc ChL1.1 (kd := 12) (bn := 2) (n := 13) (c := 2) (nx := 17) (by decide +kernel) ?_
        refine zwW_p [(1, 1, 0)] (q := 18) (ls' := [(2, 1), (0, kL1)]) (st' := [(0, kL1), (2, 2)]) (by decide +kernel) rfl ?_
        refine zwW_cm ChL1.1 (op := 60) (k' := 123) (n := 1) (kd := 0) (m := 3) (nx := 21) (r := 2) (tl := [(0, kL1)]) (st' := []) (by decide +kernel) rfl (by decide +kernel) rfl (x123_2 ChL1 (i := kL1) ⟨by omega, by omega⟩) ?_
        rintro v4 _ ⟨rfl, Gv4, ev4⟩
        have lv4 := Gv4.1
        have pv4 : v4 = zv hL1 2 kL1.toNat ∧ ((kL1.toNat : Nat) : Int) < fld hL1 2 2 := ⟨ev4, by omega⟩
        refine zwW_cast (a := 11) (kd := 11) (n := 17) (nx := 24) (by decide +kernel) rfl (Or.inr Gv4.2.1) ?_
        have OKT : yOK (yMls (yC h) (kL1).toNat) := ok.mls _ (by omega)
        refine zwW_cvv (op := 60) (k' := 234) (n := 0) (kd := 11) (m := 17) (nx := 27) (r := v4) (tl := []) (st' := []) (by decide +kernel) rfl (by decide +kernel) Gv4.2.1 (x234_z hL1 ChL1 v4 Gv4 iL1_3 kL1.toNat pv4 (by rw [iL1_2]; exact OKT)) rfl ?_
        rintro h7 ⟨Ch7, Qh7, f5, f6⟩
        have Zh7 : yC h7 = (yMl1 (yMls (yC h) (kL1).toNat) kL1.toNat) := by rw [f5, iL1_2]
        have Xh7 : zXR msx189_z (0) (0) h h7 := XhL1.tr (c2 := 0) (s2 := 0) Qh7 (by decide +kernel) (by decide) (by decide)
        have th7_2_2 : fld h7 2 2 = fld hL1 2 2 := Qh7.f (a1 := 2) (a2 := 2) (j1 := 2) (j2 := 3) (by decide +kernel) ⟨by decide, by decide⟩ ⟨by decide, by decide⟩ ⟨by decide, by decide⟩
        refine zwW_inc (i := 1) (c := 1) (x := kL1) (nx := 30) (by decide +kernel) rfl ⟨by omega, by omega⟩ (ls' := [(2, 1), (0, (kL1 + 1))]) rfl ?_
        refine zwW_p [(24, 2, 0)] (q := 2) (ls' := [(2, 1), (0, (kL1 + 1))]) (st' := []) (by decide +kernel) rfl ?_
        exact IHL1 ((1000 - (kL1 + 1))).toNat (by omega) (kL1 + 1) h7 rfl (by omega) (by omega) (by rw [show (kL1 + 1).toNat = (kL1).toNat + 1 by omega]; exact Zh7) (f6) Ch7 (Xh7.le (by decide) (by decide))
  exact L1 _ 0 h rfl (by omega) (by omega) (rfl) (J) C (X.le (by decide) (by decide))
def msx61_z : Zms := [(17, 17, 0, 13), (18, 18, 0, 400)]
-- WheelLand.likes(I)I
theorem x61_z {sc : List Int} (h : Hp) (C : CI h) (a : Int) (q : qT) (q_a : -2147483648 ≤ a ∧ a ≤ 2147483647) (J : yR h) (V : zRq q h) (ok : yOK (yC h)) : zwC sc 6 61 [(2, 1), (0, a)] h (zwRt 0 (fun x g => CI g ∧ zXR msx61_z (0) (0) h g ∧ (-2147483648 ≤ x ∧ x ≤ 2147483647) ∧ (x = yLikA q (yC h) a) ∧ (yR g))) := by
  refine zwC_of (D := 5) 3 (by decide +kernel) rfl (ls := [(2, 1), (0, a), (9, 0)]) rfl ?_
  have X : zXR msx61_z 0 0 h h := zXR.rf _ _
  have u0 : yC h 37 0 = fld h 1 0 := rfl
  have u1 : yC h 37 1 = fld h 2 2 := rfl
  have u2 : yC h 37 2 = fld h 3 2 := rfl
  have u64 : yC h 37 64 = fld h 4 2 := rfl
  have u78 : yC h 37 78 = fld h 5 2 := rfl
  refine zwW_p [(1, 0, 2), (1, 1, 0)] (q := 2) (ls' := [(2, 1), (0, a), (9, 0)]) (st' := [(0, a), (2, 1)]) (by decide +kernel) rfl ?_
  refine zwW_cm C.1 (op := 60) (k' := 109) (n := 1) (kd := 12) (m := 13) (nx := 5) (r := 1) (tl := [(0, a)]) (st' := []) (by decide +kernel) rfl (by decide +kernel) rfl (x109 h C a (by omega)) ?_
  rintro v2 _ ⟨rfl, ⟨rfl, c1⟩ | ⟨Gv2, c1⟩⟩
  · refine zwW_p [(2, 2, 2), (1, 2, 2)] (q := 7) (ls' := [(2, 1), (0, a), (2, 0)]) (st' := [(2, 0)]) (by decide +kernel) rfl ?_
    refine zwnu_ne (q := 12) (nx := 10) (by decide +kernel) (by decide) (fun c3 => ?_) (fun c3 => ?_)
    · exfalso; omega
    · refine zwW_p [(0, -1, 0)] (q := 11) (ls' := [(2, 1), (0, a), (2, 0)]) (st' := [(0, -1)]) (by decide +kernel) rfl ?_
      refine zwW_ret (nx := 12) (a := 0) (b := 0) (by decide +kernel) rfl (Or.inl rfl) ?_
      exact ⟨C, X.le (by decide) (by decide), by omega, by unfold yLikA; (repeat' (first | rw [if_pos (by omega)] | rw [if_neg (by omega)])); all_goals (first | rfl | omega), by exact J⟩
  · have lv2 := Gv2.1
    have ev2 := c1.2.2
    have pv2 : v2 = zv h 3 a.toNat ∧ ((a.toNat : Nat) : Int) < fld h 3 2 := ⟨ev2, by omega⟩
    refine zwW_p [(2, 2, 2), (1, 2, 2)] (q := 7) (ls' := [(2, 1), (0, a), (2, v2)]) (st' := [(2, v2)]) (by decide +kernel) rfl ?_
    refine zwnu_ne (q := 12) (nx := 10) (by decide +kernel) (by omega) (fun c4 => ?_) (fun c4 => ?_)
    · refine zwW_p [(1, 2, 2)] (q := 13) (ls' := [(2, 1), (0, a), (2, v2)]) (st' := [(2, v2)]) (by decide +kernel) rfl ?_
      refine zwW_get (kd := 4) (bn := 1) (t := 2) (n := 19) (nx := 16) (by decide +kernel) Gv2.2.1 rfl ?_
      obtain ⟨v5, ev5⟩ : ∃ z, z = fld h v2 1 := ⟨_, rfl⟩
      rw [← ev5]
      have Gv5 : gV h v5 := by rw [ev5]; exact Gv2.2.2
      have lv5 := Gv5.1
      have qv5 : yC h 79 a.toNat = (yC h) 79 a.toNat := Eq.trans (congrFun (congrFun (rfl : yC h = yC h) 79) a.toNat) rfl
      have wv5 := J.r (a := 79) (A := 3) (j := 1) (B := 2) (i := a.toNat) rfl pv2.2
      rw [qv5] at wv5
      have pv5 : v5 = zv h 2 (((yC h) 79 a.toNat).toNat) ∧ ((((yC h) 79 a.toNat).toNat : Nat) : Int) < fld h 2 2 := ⟨by rw [ev5, pv2.1]; exact wv5.2.2, wv5.2.1⟩
      refine zwW_p [(1, 2, 2)] (q := 17) (ls' := [(2, 1), (0, a), (2, v2)]) (st' := [(2, v2), (2, v5)]) (by decide +kernel) rfl ?_
      refine zwX_gi C (kd := 4) (bn := 6) (n := 19) (nx := 20) (by decide +kernel) Gv2.2.1 Gv2.1 rfl ?_
      intro v6 ev6 lv6 uv6
      have sv6 : v6 = (yC h) 84 a.toNat := Eq.trans ev6 (Eq.trans (congrArg (fun q => fld h q 6) pv2.1) (Eq.trans (Eq.symm (yC_f (h := h) (a := 84) (A := 3) (j := 6) (i := a.toNat) rfl pv2.2)) (Eq.trans (congrFun (congrFun (rfl : yC h = yC h) 84) a.toNat) rfl)))
      refine zwW_p [(1, 0, 2), (1, 2, 2)] (q := 22) (ls' := [(2, 1), (0, a), (2, v2)]) (st' := [(2, v2), (2, 1), (0, v6), (2, v5)]) (by decide +kernel) rfl ?_
      refine zwW_get (kd := 4) (bn := 1) (t := 2) (n := 19) (nx := 25) (by decide +kernel) Gv2.2.1 rfl ?_
      rw [← ev5]
      refine zwW_cm C.1 (op := 60) (k' := 153) (n := 1) (kd := 12) (m := 13) (nx := 28) (r := 1) (tl := [(2, v5)]) (st' := [(0, v6), (2, v5)]) (by decide +kernel) rfl (by decide +kernel) rfl (x153_z h C v5 q Gv5 J (((yC h) 79 a.toNat).toNat) pv5 V ok) ?_
      rintro v12 h13 ⟨Ch13, Qh13, f8, f9, f10, f11⟩
      have sv12 : v12 = yDut q (yC h) (((yC h) 79 a.toNat).toNat) := by rw [f10]
      have Zh13 : yC h13 = (yC h) := (yC_fr C Qh13 (by decide +kernel) (C.1.b (a1 := 37) (a2 := 37) (j1 := 86) (j2 := 87) (lo := 0) (hi := 6) (by decide +kernel) (r := 37) (j := 86) (by decide) (by decide) (by decide) (by decide)).2).trans (rfl : yC h = yC h)
      have Xh13 : zXR msx61_z (0) (0) h h13 := X.tr (c2 := 0) (s2 := 0) Qh13 (by decide +kernel) (by decide) (by decide)
      have Gh13_0 : gH h13 v2 := Gv2.x Qh13
      have Gh13_1 : gV h13 v5 := Gv5.x Qh13
      have pv2_h13 : v2 = zv h13 3 a.toNat ∧ ((a.toNat : Nat) : Int) < fld h13 3 2 := zpv C Qh13 (A := 3) (by decide) (by decide +kernel) pv2
      have pv5_h13 : v5 = zv h13 2 (((yC h) 79 a.toNat).toNat) ∧ ((((yC h) 79 a.toNat).toNat : Nat) : Int) < fld h13 2 2 := zpv C Qh13 (A := 2) (by decide) (by decide +kernel) pv5
      have Vh13 : zRq q h13 := V.fr C Qh13 (by decide +kernel)
      refine zwW_cv (op := 60) (k' := 154) (n := 2) (kd := 11) (m := 17) (nx := 31) (r := v5) (tl := [(0, v6), (0, v12)]) (st' := []) (by decide +kernel) rfl (by decide +kernel) Gh13_1.2.1 (x154_z h13 Ch13 v5 v6 v12 Gh13_1 (by omega) (by omega) f11 (((yC h) 79 a.toNat).toNat) pv5_h13) rfl ?_
      rintro v14 _ ⟨rfl, f15, f16⟩
      have sv14 : v14 = yCho (yC h) (((yC h) 79 a.toNat).toNat) ((yC h) 84 a.toNat) (yDut q (yC h) (((yC h) 79 a.toNat).toNat)) := by rw [f16, Zh13, sv6, sv12]
      refine zwW_ret (nx := 32) (a := 0) (b := 0) (by decide +kernel) rfl (Or.inl rfl) ?_
      exact ⟨Ch13, Xh13.le (by decide) (by decide), by omega, by unfold yLikA; (repeat' (first | rw [if_pos (by omega)] | rw [if_neg (by omega)])); all_goals (first | rfl | omega), by exact f11⟩
    · exfalso; omega
-- WheelLand$Roads.joins(II)Z
theorem x233_z {sc : List Int} (h : Hp) (C : CI h) (a b : Int) (q_a : -2147483648 ≤ a ∧ a ≤ 2147483647) (q_b : -2147483648 ≤ b ∧ b ≤ 2147483647) (W : zLw h) (pa : 0 ≤ a ∧ a < 8) (pb : 0 ≤ b ∧ b < 8) : zwC sc 2 233 [(2, 6), (0, a), (0, b)] h (zwRt 0 (fun x g => h = g ∧ ((x = 1 ∧ (0 < yC h 48 (8 * a.toNat + b.toNat))) ∨ (x = 0 ∧ (yC h 48 (8 * a.toNat + b.toNat) ≤ 0))))) := by
  refine zwC_of (D := 1) 3 (by decide +kernel) rfl (ls := [(2, 6), (0, a), (0, b)]) rfl ?_
  have K48 := W.yc (a := a.toNat) (b := b.toNat) (by omega) (by omega)
  refine zwW_p [(1, 1, 0), (1, 2, 0)] (q := 2) (ls' := [(2, 6), (0, a), (0, b)]) (st' := [(0, b), (0, a)]) (by decide +kernel) rfl ?_
  refine zwic_eq (q := 39) (nx := 5) (by decide +kernel) (fun c1 => ?_) (fun c1 => ?_)
  · refine zwW_p [(0, 0, 0)] (q := 40) (ls' := [(2, 6), (0, a), (0, b)]) (st' := [(0, 0)]) (by decide +kernel) rfl ?_
    refine zwW_ret (nx := 41) (a := 1) (b := 0) (by decide +kernel) rfl (Or.inr (Or.inl ⟨rfl, by omega⟩)) ?_
    exact ⟨rfl, Or.inr ⟨rfl, by omega⟩⟩
  · refine zwW_p [(1, 1, 0)] (q := 6) (ls' := [(2, 6), (0, a), (0, b)]) (st' := [(0, a)]) (by decide +kernel) rfl ?_
    refine zwW_cs (k' := 182) (n := 1) (nx := 9) (as := [(0, a)]) (st' := []) (by decide +kernel) rfl (x182 h C a (by omega)) rfl ?_
    rintro x _ ⟨rfl, ⟨rfl, c2⟩ | ⟨rfl, c2⟩⟩
    · refine zwif_eq (q := 39) (nx := 12) (by decide +kernel) (fun c3 => ?_) (fun c3 => ?_)
      · exfalso; omega
      · refine zwW_p [(1, 2, 0)] (q := 13) (ls' := [(2, 6), (0, a), (0, b)]) (st' := [(0, b)]) (by decide +kernel) rfl ?_
        refine zwW_cs (k' := 182) (n := 1) (nx := 16) (as := [(0, b)]) (st' := []) (by decide +kernel) rfl (x182 h C b (by omega)) rfl ?_
        rintro x _ ⟨rfl, ⟨rfl, c4⟩ | ⟨rfl, c4⟩⟩
        · refine zwif_eq (q := 39) (nx := 19) (by decide +kernel) (fun c5 => ?_) (fun c5 => ?_)
          · exfalso; omega
          · refine zwW_p [(1, 0, 2)] (q := 20) (ls' := [(2, 6), (0, a), (0, b)]) (st' := [(2, 6)]) (by decide +kernel) rfl ?_
            refine zwW_gc C.1 (kd := 8) (bn := 0) (n := 2) (c := 7) (nx := 23) (by decide +kernel) ?_
            refine zwW_p [(1, 1, 0), (0, 8, 0)] (q := 26) (ls' := [(2, 6), (0, a), (0, b)]) (st' := [(0, 8), (0, a), (2, 7)]) (by decide +kernel) rfl ?_
            refine zwW_mul (nx := 27) (by decide +kernel) ⟨by omega, by omega⟩ ?_
            refine zwW_p [(1, 2, 0)] (q := 28) (ls' := [(2, 6), (0, a), (0, b)]) (st' := [(0, b), (0, (a * 8)), (2, 7)]) (by decide +kernel) rfl ?_
            refine zwW_add (nx := 29) (by decide +kernel) ⟨by omega, by omega⟩ ?_
            refine zwW_al C.1 (a1 := 7) (a2 := 7) (kd := 20) (n := 64) (t := 0) (lo := -2147483648) (hi := 2147483647) (nx := 30) (by decide +kernel) ⟨by decide, by decide⟩ ⟨by omega, by omega⟩ ?_
            intro v6 ev6 lv6 uv6
            have I30 : v6 = fld h 7 (8 * a.toNat + b.toNat) := by rw [ev6]; congr 1; omega
            refine zwW_p [(0, 1000000, 0)] (q := 32) (ls' := [(2, 6), (0, a), (0, b)]) (st' := [(0, 1000000), (0, v6)]) (by decide +kernel) rfl ?_
            refine zwic_ge (q := 39) (nx := 35) (by decide +kernel) (fun c7 => ?_) (fun c7 => ?_)
            · refine zwW_p [(0, 0, 0)] (q := 40) (ls' := [(2, 6), (0, a), (0, b)]) (st' := [(0, 0)]) (by decide +kernel) rfl ?_
              refine zwW_ret (nx := 41) (a := 1) (b := 0) (by decide +kernel) rfl (Or.inr (Or.inl ⟨rfl, by omega⟩)) ?_
              exact ⟨rfl, Or.inr ⟨rfl, by omega⟩⟩
            · refine zwW_p [(0, 1, 0), (24, 40, 0)] (q := 40) (ls' := [(2, 6), (0, a), (0, b)]) (st' := [(0, 1)]) (by decide +kernel) rfl ?_
              refine zwW_ret (nx := 41) (a := 1) (b := 0) (by decide +kernel) rfl (Or.inr (Or.inl ⟨rfl, by omega⟩)) ?_
              exact ⟨rfl, Or.inl ⟨rfl, by omega⟩⟩
        · refine zwif_eq (q := 39) (nx := 19) (by decide +kernel) (fun c8 => ?_) (fun c8 => ?_)
          · refine zwW_p [(0, 0, 0)] (q := 40) (ls' := [(2, 6), (0, a), (0, b)]) (st' := [(0, 0)]) (by decide +kernel) rfl ?_
            refine zwW_ret (nx := 41) (a := 1) (b := 0) (by decide +kernel) rfl (Or.inr (Or.inl ⟨rfl, by omega⟩)) ?_
            exact ⟨rfl, Or.inr ⟨rfl, by omega⟩⟩
          · exfalso; omega
    · refine zwif_eq (q := 39) (nx := 12) (by decide +kernel) (fun c9 => ?_) (fun c9 => ?_)
      · refine zwW_p [(0, 0, 0)] (q := 40) (ls' := [(2, 6), (0, a), (0, b)]) (st' := [(0, 0)]) (by decide +kernel) rfl ?_
        refine zwW_ret (nx := 41) (a := 1) (b := 0) (by decide +kernel) rfl (Or.inr (Or.inl ⟨rfl, by omega⟩)) ?_
        exact ⟨rfl, Or.inr ⟨rfl, by omega⟩⟩
      · exfalso; omega
def msx187_z : Zms := [(36, 36, 0, 8), (1011, 1011, 4, 5)]
-- WheelLand.spreadWord()V
theorem x187_z {sc : List Int} (h : Hp) (C : CI h) (J : yR h) (W : zLw h) : zwC sc 5 187 [(2, 1)] h (zwRv (fun g => CI g ∧ zXR msx187_z (0) (0) h g ∧ (yC g = yWrA (yC h)) ∧ (yR g))) := by
  refine zwC_of (D := 4) 5 (by decide +kernel) rfl (ls := [(2, 1), (9, 0), (9, 0), (9, 0), (9, 0)]) rfl ?_
  have X : zXR msx187_z 0 0 h h := zXR.rf _ _
  have u0 : yC h 37 0 = fld h 1 0 := rfl
  have u1 : yC h 37 1 = fld h 2 2 := rfl
  have u2 : yC h 37 2 = fld h 3 2 := rfl
  have u64 : yC h 37 64 = fld h 4 2 := rfl
  have u78 : yC h 37 78 = fld h 5 2 := rfl
  have b22 := zLb_2 C
  refine zwW_p [(1, 0, 2)] (q := 1) (ls' := [(2, 1), (9, 0), (9, 0), (9, 0), (9, 0)]) (st' := [(2, 1)]) (by decide +kernel) rfl ?_
  refine zwW_gc C.1 (kd := 12) (bn := 2) (n := 13) (c := 2) (nx := 4) (by decide +kernel) ?_
  refine zwW_cm C.1 (op := 60) (k' := 96) (n := 0) (kd := 0) (m := 3) (nx := 7) (r := 2) (tl := []) (st' := []) (by decide +kernel) rfl (by decide +kernel) rfl (x96_2 C) ?_
  rintro v1 _ ⟨rfl, ev1⟩
  have bv1 := zLb_2 C
  have sv1 : v1 = (yC h) 37 1 := Eq.trans ev1 (Eq.trans (Eq.symm (yC_s (h := h) (i := 1) rfl)) (Eq.trans (congrFun (congrFun (rfl : yC h = yC h) 37) 1) rfl))
  refine zwW_p [(1, 0, 2)] (q := 8) (ls' := [(2, 1), (9, 0), (9, 0), (9, 0), (9, 0)]) (st' := [(2, 1), (0, v1)]) (by decide +kernel) rfl ?_
  refine zwW_gc C.1 (kd := 12) (bn := 12) (n := 13) (c := 36) (nx := 11) (by decide +kernel) ?_
  refine zwW_len (kd := 20) (n := 8) (nx := 12) (by decide +kernel) (C.1.s (a1 := 36) (a2 := 36) (by decide +kernel) (by omega) (by omega)) rfl ?_
  refine zwW_min (nx := 15) (by decide +kernel) rfl ?_
  intro v2 ev2
  have Ev2 : v2 = min ((yC h) 37 1) 8 := by first | (rw [ev2, sv1]; done) | (rw [ev2, sv1]; rfl)
  refine zwW_p [(2, 1, 0), (0, 0, 0), (2, 2, 0)] (q := 18) (ls' := [(2, 1), (0, v2), (0, 0), (9, 0), (9, 0)]) (st' := []) (by decide +kernel) rfl ?_
  have L3 : ∀ (n0 : Nat) (kL3 : Int) (hL3 : Hp), n0 = ((1000 - kL3)).toNat → (zLw hL3) → (∀ j : Nat, (j : Int) < kL3 → fld hL3 36 j = (yC h) 72 j) → (kL3 ≤ v2 ∧ fld hL3 2 2 = fld h 2 2) → (0 ≤ kL3 ∧ kL3 ≤ 8) → (yC hL3 = (yC h)) → (yR hL3) → CI hL3 → zXR msx187_z (0) (0) h hL3 → zwW sc (4) 187 18 [(2, 1), (0, v2), (0, kL3), (9, 0), (9, 0)] [] hL3 (zwRv (fun g => CI g ∧ zXR msx187_z (0) (0) h g ∧ (yC g = yWrA (yC h)) ∧ (yR g))) := by
    intro n0
    induction n0 using Nat.strongRecOn with
    | ind n0 IHL3 =>
      intro kL3 hL3 hnL3 iL3_0 iL3_1 iL3_2 iL3_3 iL3_4 iL3_5 ChL3 XhL3
      refine zwW_p [(1, 2, 0), (1, 1, 0)] (q := 20) (ls' := [(2, 1), (0, v2), (0, kL3), (9, 0), (9, 0)]) (st' := [(0, v2), (0, kL3)]) (by decide +kernel) rfl ?_
      refine zwic_ge (q := 49) (nx := 23) (by decide +kernel) (fun c4 => ?_) (fun c4 => ?_)
      · refine zwW_p [(0, 0, 0), (2, 2, 0)] (q := 51) (ls' := [(2, 1), (0, v2), (0, 0), (9, 0), (9, 0)]) (st' := []) (by decide +kernel) rfl ?_
        have L5 : ∀ (n0 : Nat) (vL5 : Int) (w3L5 w4L5 : Vl) (hL5 : Hp), n0 = ((1000 - vL5)).toNat → (zLw hL5) → (∀ j : Nat, (j : Int) < v2 → fld hL5 36 j = (yC h) 72 j) → (vL5 ≤ v2 ∧ fld hL5 2 2 = fld h 2 2) → (0 ≤ vL5 ∧ vL5 ≤ 8) → (yC hL5 = (yWds (yC h) (v2).toNat (vL5).toNat)) → (yR hL5) → CI hL5 → zXR msx187_z (0) (0) h hL5 → zwW sc (4) 187 51 [(2, 1), (0, v2), (0, vL5), w3L5, w4L5] [] hL5 (zwRv (fun g => CI g ∧ zXR msx187_z (0) (0) h g ∧ (yC g = yWrA (yC h)) ∧ (yR g))) := by
          intro n0
          induction n0 using Nat.strongRecOn with
          | ind n0 IHL5 =>
            intro vL5 w3L5 w4L5 hL5 hnL5 iL5_0 iL5_1 iL5_2 iL5_3 iL5_4 iL5_5 ChL5 XhL5
            refine zwW_p [(1, 2, 0), (1, 1, 0)] (q := 53) (ls' := [(2, 1), (0, v2), (0, vL5), w3L5, w4L5]) (st' := [(0, v2), (0, vL5)]) (by decide +kernel) rfl ?_
            refine zwic_ge (q := 132) (nx := 56) (by decide +kernel) (fun c6 => ?_) (fun c6 => ?_)
            · refine zwW_retv (nx := 133) (a := 0) (b := 0) (by decide +kernel) ?_
              exact ⟨ChL5, XhL5.le (by decide) (by decide), by refine Eq.trans iL5_4 ?_; unfold yWrA; rw [show (yC h 37 1).toNat = (v2).toNat by omega, show (vL5).toNat = (v2).toNat by omega], by exact iL5_5⟩
            · refine zwW_p [(1, 0, 2)] (q := 57) (ls' := [(2, 1), (0, v2), (0, vL5), w3L5, w4L5]) (st' := [(2, 1)]) (by decide +kernel) rfl ?_
              refine zwW_gc ChL5.1 (kd := 12) (bn := 12) (n := 13) (c := 36) (nx := 60) (by decide +kernel) ?_
              refine zwW_p [(1, 2, 0)] (q := 61) (ls' := [(2, 1), (0, v2), (0, vL5), w3L5, w4L5]) (st' := [(0, vL5), (2, 36)]) (by decide +kernel) rfl ?_
              refine zwW_al ChL5.1 (a1 := 36) (a2 := 36) (kd := 20) (n := 8) (t := 0) (lo := -2147483648) (hi := 2147483647) (nx := 62) (by decide +kernel) ⟨by decide, by decide⟩ ⟨by omega, by omega⟩ ?_
              intro v7 ev7 lv7 uv7
              have I62 : v7 = (yC h) 72 (vL5).toNat := ev7.trans (iL5_1 _ (by omega))
              refine zwW_p [(0, 1, 0)] (q := 63) (ls' := [(2, 1), (0, v2), (0, vL5), w3L5, w4L5]) (st' := [(0, 1), (0, v7)]) (by decide +kernel) rfl ?_
              refine zwW_sbw (nx := 64) (by decide +kernel) ?_
              intro v8 ev8 lv8 uv8
              have I64 : v8 = w32 ((yC h) 72 (vL5).toNat - 1) := by rw [ev8, I62]
              refine zwW_p [(0, 0, 0)] (q := 65) (ls' := [(2, 1), (0, v2), (0, vL5), w3L5, w4L5]) (st' := [(0, 0), (0, v8)]) (by decide +kernel) rfl ?_
              refine zwW_max (nx := 68) (by decide +kernel) rfl ?_
              intro v9 ev9
              have Ev9 : v9 = max (w32 (v7 - 1)) 0 := by first | (rw [ev9, ev8]; done) | (rw [ev9, ev8]; rfl)
              refine zwW_p [(2, 3, 0), (0, 0, 0), (2, 4, 0)] (q := 72) (ls' := [(2, 1), (0, v2), (0, vL5), (0, v9), (0, 0)]) (st' := []) (by decide +kernel) rfl ?_
              have L10 : ∀ (n0 : Nat) (mL10 uL10 : Int), n0 = ((1000 - uL10)).toNat → (mL10 = yWm (yC h) (vL5).toNat (uL10).toNat) → (uL10 ≤ v2) → (-2147483648 ≤ mL10 ∧ mL10 ≤ 2147483647) → (0 ≤ uL10 ∧ uL10 ≤ 8) → zwW sc (4) 187 72 [(2, 1), (0, v2), (0, vL5), (0, mL10), (0, uL10)] [] hL5 (zwRv (fun g => CI g ∧ zXR msx187_z (0) (0) h g ∧ (yC g = yWrA (yC h)) ∧ (yR g))) := by
                intro n0
                induction n0 using Nat.strongRecOn with
                | ind n0 IHL10 =>
                  intro mL10 uL10 hnL10 iL10_0 iL10_1 iL10_2 iL10_3
                  refine zwW_p [(1, 4, 0), (1, 1, 0)] (q := 75) (ls' := [(2, 1), (0, v2), (0, vL5), (0, mL10), (0, uL10)]) (st' := [(0, v2), (0, uL10)]) (by decide +kernel) rfl ?_
                  refine zwic_ge (q := 111) (nx := 78) (by decide +kernel) (fun c11 => ?_) (fun c11 => ?_)
                  · refine zwW_p [(1, 0, 2)] (q := 112) (ls' := [(2, 1), (0, v2), (0, vL5), (0, mL10), (0, uL10)]) (st' := [(2, 1)]) (by decide +kernel) rfl ?_
                    refine zwW_gc ChL5.1 (kd := 12) (bn := 2) (n := 13) (c := 2) (nx := 115) (by decide +kernel) ?_
                    refine zwW_p [(1, 2, 0)] (q := 116) (ls' := [(2, 1), (0, v2), (0, vL5), (0, mL10), (0, uL10)]) (st' := [(0, vL5), (2, 2)]) (by decide +kernel) rfl ?_
                    refine zwW_cm ChL5.1 (op := 60) (k' := 123) (n := 1) (kd := 0) (m := 3) (nx := 119) (r := 2) (tl := [(0, vL5)]) (st' := []) (by decide +kernel) rfl (by decide +kernel) rfl (x123_2 ChL5 (i := vL5) ⟨by omega, by omega⟩) ?_
                    rintro v12 _ ⟨rfl, Gv12, ev12⟩
                    have lv12 := Gv12.1
                    have pv12 : v12 = zv hL5 2 vL5.toNat ∧ ((vL5.toNat : Nat) : Int) < fld hL5 2 2 := ⟨ev12, by omega⟩
                    refine zwW_cast (a := 11) (kd := 11) (n := 17) (nx := 122) (by decide +kernel) rfl (Or.inr Gv12.2.1) ?_
                    refine zwW_p [(1, 3, 0)] (q := 123) (ls' := [(2, 1), (0, v2), (0, vL5), (0, mL10), (0, uL10)]) (st' := [(0, mL10), (2, v12)]) (by decide +kernel) rfl ?_
                    refine zwX_pi ChL5 (kd := 11) (bn := 4) (n := 17) (nx := 126) (by decide +kernel) Gv12.2.1 Gv12.1 ⟨by omega, by omega⟩ ?_
                    rintro h13 eh13 Ch13 Qh13
                    have Zh13 : yC h13 = (zs (yWds (yC h) (v2).toNat (vL5).toNat) 72 vL5.toNat mL10) := by rw [yC_w (a := 72) (A := 2) (j := 4) (k := vL5.toNat) ChL5 iL5_5 rfl pv12 eh13, iL5_4]
                    have Xh13 : zXR msx187_z (0) (0) h h13 := XhL5.tr (c2 := 0) (s2 := 0) Qh13 (by decide +kernel) (by decide) (by decide)
                    have Jh13 : yR h13 := iL5_5.fr ChL5 Qh13 (by decide +kernel)
                    have th13_2_2 : fld h13 2 2 = fld hL5 2 2 := Qh13.f (a1 := 2) (a2 := 2) (j1 := 2) (j2 := 3) (by decide +kernel) ⟨by decide, by decide⟩ ⟨by decide, by decide⟩ ⟨by decide, by decide⟩
                    have Wh13 : zLw h13 := iL5_0.fr Qh13 (by decide +kernel)
                    refine zwW_inc (i := 2) (c := 1) (x := vL5) (nx := 129) (by decide +kernel) rfl ⟨by omega, by omega⟩ (ls' := [(2, 1), (0, v2), (0, (vL5 + 1)), (0, mL10), (0, uL10)]) rfl ?_
                    refine zwW_p [(24, 51, 0)] (q := 51) (ls' := [(2, 1), (0, v2), (0, (vL5 + 1)), (0, mL10), (0, uL10)]) (st' := []) (by decide +kernel) rfl ?_
                    exact IHL5 ((1000 - (vL5 + 1))).toNat (by omega) (vL5 + 1) (0, mL10) (0, uL10) h13 rfl (Wh13) (fun j hj => by rw [congrFun (show fld h13 36 = fld hL5 36 from Qh13.fa (a := 36) (by decide +kernel) (by decide)) j]; exact iL5_1 j hj) (by omega) (by omega) (by rw [show (vL5 + 1).toNat = (vL5).toNat + 1 by omega, yWds_s]; exact Zh13.trans (zs_cg rfl rfl (by rw [iL10_0, show (uL10).toNat = (v2).toNat by omega]))) (Jh13) Ch13 (Xh13.le (by decide) (by decide))
                  · refine zwW_p [(1, 0, 2)] (q := 79) (ls' := [(2, 1), (0, v2), (0, vL5), (0, mL10), (0, uL10)]) (st' := [(2, 1)]) (by decide +kernel) rfl ?_
                    refine zwW_gc ChL5.1 (kd := 12) (bn := 6) (n := 13) (c := 6) (nx := 82) (by decide +kernel) ?_
                    refine zwW_p [(1, 2, 0), (1, 4, 0)] (q := 85) (ls' := [(2, 1), (0, v2), (0, vL5), (0, mL10), (0, uL10)]) (st' := [(0, uL10), (0, vL5), (2, 6)]) (by decide +kernel) rfl ?_
                    have J85 : yC hL5 48 (8 * (vL5).toNat + (uL10).toNat) = (yC h) 48 (8 * (vL5).toNat + (uL10).toNat) := by rw [iL5_4]; exact yWds_n (by decide) _
                    refine zwW_cm ChL5.1 (op := 60) (k' := 233) (n := 2) (kd := 8) (m := 2) (nx := 88) (r := 6) (tl := [(0, vL5), (0, uL10)]) (st' := []) (by decide +kernel) rfl (by decide +kernel) rfl (x233_z hL5 ChL5 vL5 uL10 (by omega) (by omega) iL5_0 ⟨by omega, by omega⟩ ⟨by omega, by omega⟩) ?_
                    rintro x _ ⟨rfl, ⟨rfl, c14⟩ | ⟨rfl, c14⟩⟩
                    · refine zwif_eq (q := 105) (nx := 91) (by decide +kernel) (fun c15 => ?_) (fun c15 => ?_)
                      · exfalso; omega
                      · refine zwW_p [(1, 3, 0), (1, 0, 2)] (q := 93) (ls' := [(2, 1), (0, v2), (0, vL5), (0, mL10), (0, uL10)]) (st' := [(2, 1), (0, mL10)]) (by decide +kernel) rfl ?_
                        refine zwW_gc ChL5.1 (kd := 12) (bn := 12) (n := 13) (c := 36) (nx := 96) (by decide +kernel) ?_
                        refine zwW_p [(1, 4, 0)] (q := 98) (ls' := [(2, 1), (0, v2), (0, vL5), (0, mL10), (0, uL10)]) (st' := [(0, uL10), (2, 36), (0, mL10)]) (by decide +kernel) rfl ?_
                        refine zwW_al ChL5.1 (a1 := 36) (a2 := 36) (kd := 20) (n := 8) (t := 0) (lo := -2147483648) (hi := 2147483647) (nx := 99) (by decide +kernel) ⟨by decide, by decide⟩ ⟨by omega, by omega⟩ ?_
                        intro v16 ev16 lv16 uv16
                        have I99 : v16 = (yC h) 72 (uL10).toNat := ev16.trans (iL5_1 _ (by omega))
                        refine zwW_p [(0, 2, 0)] (q := 100) (ls' := [(2, 1), (0, v2), (0, vL5), (0, mL10), (0, uL10)]) (st' := [(0, 2), (0, v16), (0, mL10)]) (by decide +kernel) rfl ?_
                        refine zwW_sbw (nx := 101) (by decide +kernel) ?_
                        intro v17 ev17 lv17 uv17
                        have I101 : v17 = w32 ((yC h) 72 (uL10).toNat - 2) := by rw [ev17, I99]
                        refine zwW_max (nx := 104) (by decide +kernel) rfl ?_
                        intro v18 ev18
                        have Ev18 : v18 = max mL10 (w32 (v16 - 2)) := by first | (rw [ev18, ev17]; done) | (rw [ev18, ev17]; rfl)
                        refine zwW_p [(2, 3, 0)] (q := 105) (ls' := [(2, 1), (0, v2), (0, vL5), (0, v18), (0, uL10)]) (st' := []) (by decide +kernel) rfl ?_
                        refine zwW_inc (i := 4) (c := 1) (x := uL10) (nx := 108) (by decide +kernel) rfl ⟨by omega, by omega⟩ (ls' := [(2, 1), (0, v2), (0, vL5), (0, v18), (0, (uL10 + 1))]) rfl ?_
                        refine zwW_p [(24, 72, 0)] (q := 72) (ls' := [(2, 1), (0, v2), (0, vL5), (0, v18), (0, (uL10 + 1))]) (st' := []) (by decide +kernel) rfl ?_
                        exact IHL10 ((1000 - (uL10 + 1))).toNat (by omega) v18 (uL10 + 1) rfl (by rw [show (uL10 + 1).toNat = (uL10).toNat + 1 by omega, yWm_s]; first | (rw [if_pos (by omega), ← iL10_0, ← I101]; omega) | (rw [if_neg (by omega)]; exact iL10_0)) (by omega) (by omega) (by omega)
                    · refine zwif_eq (q := 105) (nx := 91) (by decide +kernel) (fun c19 => ?_) (fun c19 => ?_)
                      · refine zwW_inc (i := 4) (c := 1) (x := uL10) (nx := 108) (by decide +kernel) rfl ⟨by omega, by omega⟩ (ls' := [(2, 1), (0, v2), (0, vL5), (0, mL10), (0, (uL10 + 1))]) rfl ?_
                        refine zwW_p [(24, 72, 0)] (q := 72) (ls' := [(2, 1), (0, v2), (0, vL5), (0, mL10), (0, (uL10 + 1))]) (st' := []) (by decide +kernel) rfl ?_
                        exact IHL10 ((1000 - (uL10 + 1))).toNat (by omega) mL10 (uL10 + 1) rfl (by rw [show (uL10 + 1).toNat = (uL10).toNat + 1 by omega, yWm_s]; first | (rw [if_pos (by omega), ← iL10_0, ← I101]; omega) | (rw [if_neg (by omega)]; exact iL10_0)) (by omega) (by omega) (by omega)
                      · exfalso; omega
              exact L10 _ v9 0 rfl (by show _ = max _ _; rw [← I64]; omega) (by omega) (by omega) (by omega)
        exact L5 _ 0 (9, 0) (9, 0) hL3 rfl (iL3_0) (fun j hj => iL3_1 j (by omega)) (by omega) (by omega) (iL3_4) (iL3_5) ChL3 (XhL3.le (by decide) (by decide))
      · refine zwW_p [(1, 0, 2)] (q := 24) (ls' := [(2, 1), (0, v2), (0, kL3), (9, 0), (9, 0)]) (st' := [(2, 1)]) (by decide +kernel) rfl ?_
        refine zwW_gc ChL3.1 (kd := 12) (bn := 12) (n := 13) (c := 36) (nx := 27) (by decide +kernel) ?_
        refine zwW_p [(1, 2, 0), (1, 0, 2)] (q := 29) (ls' := [(2, 1), (0, v2), (0, kL3), (9, 0), (9, 0)]) (st' := [(2, 1), (0, kL3), (2, 36)]) (by decide +kernel) rfl ?_
        refine zwW_gc ChL3.1 (kd := 12) (bn := 2) (n := 13) (c := 2) (nx := 32) (by decide +kernel) ?_
        refine zwW_p [(1, 2, 0)] (q := 33) (ls' := [(2, 1), (0, v2), (0, kL3), (9, 0), (9, 0)]) (st' := [(0, kL3), (2, 2), (0, kL3), (2, 36)]) (by decide +kernel) rfl ?_
        refine zwW_cm ChL3.1 (op := 60) (k' := 123) (n := 1) (kd := 0) (m := 3) (nx := 36) (r := 2) (tl := [(0, kL3)]) (st' := [(0, kL3), (2, 36)]) (by decide +kernel) rfl (by decide +kernel) rfl (x123_2 ChL3 (i := kL3) ⟨by omega, by omega⟩) ?_
        rintro v20 _ ⟨rfl, Gv20, ev20⟩
        have lv20 := Gv20.1
        have pv20 : v20 = zv hL3 2 kL3.toNat ∧ ((kL3.toNat : Nat) : Int) < fld hL3 2 2 := ⟨ev20, by omega⟩
        refine zwW_cast (a := 11) (kd := 11) (n := 17) (nx := 39) (by decide +kernel) rfl (Or.inr Gv20.2.1) ?_
        refine zwX_gi ChL3 (kd := 11) (bn := 4) (n := 17) (nx := 42) (by decide +kernel) Gv20.2.1 Gv20.1 rfl ?_
        intro v21 ev21 lv21 uv21
        have sv21 : v21 = (yC h) 72 kL3.toNat := Eq.trans ev21 (Eq.trans (congrArg (fun q => fld hL3 q 4) pv20.1) (Eq.trans (Eq.symm (yC_f (h := hL3) (a := 72) (A := 2) (j := 4) (i := kL3.toNat) rfl pv20.2)) (Eq.trans (congrFun (congrFun iL3_4 72) kL3.toNat) rfl)))
        refine zwW_as ChL3.1 (a1 := 36) (a2 := 36) (n := 8) (lo := -2147483648) (hi := 2147483647) (nx := 43) (by decide +kernel) ⟨by decide, by decide⟩ ⟨by omega, by omega⟩ ⟨by omega, by omega⟩ ?_
        intro h22 eh22 Ih22
        have Ch22 : CI h22 := ChL3.wc eh22 Ih22 (by decide) (by decide)
        have Qh22 : zXR [(36, 36, 0, 8)] 0 0 hL3 h22 := zXR.wc eh22 rfl ⟨by decide, by decide, Or.inl (by decide)⟩ ⟨by omega, by omega⟩
        have W42 := rw_w iL3_1 eh22 (ChL3.1.s (a1 := 36) (a2 := 36) (k := 20) (n := 8) (by decide +kernel) (by decide) (by decide)) ⟨by omega, by omega⟩ sv21
        have Xh22 : zXR msx187_z (0) (0) h h22 := XhL3.tr (c2 := 0) (s2 := 0) Qh22 (by decide +kernel) (by decide) (by decide)
        have Zh22 : yC h22 = (yC h) := (yC_fr ChL3 Qh22 (by decide +kernel) (ChL3.1.b (a1 := 37) (a2 := 37) (j1 := 86) (j2 := 87) (lo := 0) (hi := 6) (by decide +kernel) (r := 37) (j := 86) (by decide) (by decide) (by decide) (by decide)).2).trans iL3_4
        have Jh22 : yR h22 := iL3_5.fr ChL3 Qh22 (by decide +kernel)
        have th22_2_2 : fld h22 2 2 = fld hL3 2 2 := Qh22.f (a1 := 2) (a2 := 2) (j1 := 2) (j2 := 3) (by decide +kernel) ⟨by decide, by decide⟩ ⟨by decide, by decide⟩ ⟨by decide, by decide⟩
        have Wh22 : zLw h22 := iL3_0.fr Qh22 (by decide +kernel)
        refine zwW_inc (i := 2) (c := 1) (x := kL3) (nx := 46) (by decide +kernel) rfl ⟨by omega, by omega⟩ (ls' := [(2, 1), (0, v2), (0, (kL3 + 1)), (9, 0), (9, 0)]) rfl ?_
        refine zwW_p [(24, 18, 0)] (q := 18) (ls' := [(2, 1), (0, v2), (0, (kL3 + 1)), (9, 0), (9, 0)]) (st' := []) (by decide +kernel) rfl ?_
        exact IHL3 ((1000 - (kL3 + 1))).toNat (by omega) (kL3 + 1) h22 rfl (Wh22) (W42) (by omega) (by omega) (Zh22) (Jh22) Ch22 (Xh22.le (by decide) (by decide))
  exact L3 _ 0 h rfl (W) (fun j hj => by omega) (by omega) (by omega) ((rfl : yC h = yC h)) (J) C (X.le (by decide) (by decide))
-- WheelLand.cottonOfAll()I
theorem x190_z {sc : List Int} (h : Hp) (C : CI h) (J : yR h) : zwC sc 5 190 [(2, 1)] h (zwRt 0 (fun x g => h = g ∧ (-2147483648 ≤ x ∧ x ≤ 2147483647) ∧ (x = ySmCA (yC h)))) := by
  refine zwC_of (D := 4) 3 (by decide +kernel) rfl (ls := [(2, 1), (9, 0), (9, 0)]) rfl ?_
  have u0 : yC h 37 0 = fld h 1 0 := rfl
  have u1 : yC h 37 1 = fld h 2 2 := rfl
  have u2 : yC h 37 2 = fld h 3 2 := rfl
  have u64 : yC h 37 64 = fld h 4 2 := rfl
  have u78 : yC h 37 78 = fld h 5 2 := rfl
  have b0 := zLb_2 C
  refine zwW_p [(0, 0, 0), (2, 1, 0), (0, 0, 0), (2, 2, 0)] (q := 4) (ls' := [(2, 1), (0, 0), (0, 0)]) (st' := []) (by decide +kernel) rfl ?_
  have L1 : ∀ (n0 : Nat) (tL1 vL1 : Int), n0 = ((1000 - vL1)).toNat → (tL1 = ySmC (yC h) (vL1).toNat) → (vL1 ≤ fld h 2 2) → (-2147483648 ≤ tL1 ∧ tL1 ≤ 2147483647) → (0 ≤ vL1 ∧ vL1 ≤ 8) → zwW sc (4) 190 4 [(2, 1), (0, tL1), (0, vL1)] [] h (zwRt 0 (fun x g => h = g ∧ (-2147483648 ≤ x ∧ x ≤ 2147483647) ∧ (x = ySmCA (yC h)))) := by
    intro n0
    induction n0 using Nat.strongRecOn with
    | ind n0 IHL1 =>
      intro tL1 vL1 hnL1 iL1_0 iL1_1 iL1_2 iL1_3
      refine zwW_p [(1, 2, 0), (1, 0, 2)] (q := 6) (ls' := [(2, 1), (0, tL1), (0, vL1)]) (st' := [(2, 1), (0, vL1)]) (by decide +kernel) rfl ?_
      refine zwW_gc C.1 (kd := 12) (bn := 2) (n := 13) (c := 2) (nx := 9) (by decide +kernel) ?_
      refine zwW_cm C.1 (op := 60) (k' := 96) (n := 0) (kd := 0) (m := 3) (nx := 12) (r := 2) (tl := []) (st' := [(0, vL1)]) (by decide +kernel) rfl (by decide +kernel) rfl (x96_2 C) ?_
      rintro v2 _ ⟨rfl, ev2⟩
      have bv2 := zLb_2 C
      have sv2 : v2 = (yC h) 37 1 := Eq.trans ev2 (Eq.trans (Eq.symm (yC_s (h := h) (i := 1) rfl)) (Eq.trans (congrFun (congrFun (rfl : yC h = yC h) 37) 1) rfl))
      refine zwic_ge (q := 38) (nx := 15) (by decide +kernel) (fun c3 => ?_) (fun c3 => ?_)
      · refine zwW_p [(1, 1, 0)] (q := 39) (ls' := [(2, 1), (0, tL1), (0, vL1)]) (st' := [(0, tL1)]) (by decide +kernel) rfl ?_
        refine zwW_ret (nx := 40) (a := 0) (b := 0) (by decide +kernel) rfl (Or.inl rfl) ?_
        exact ⟨rfl, by omega, by unfold ySmCA; rw [show (yC h 37 1).toNat = (vL1).toNat by omega]; exact iL1_0⟩
      · refine zwW_p [(1, 1, 0), (1, 0, 2)] (q := 17) (ls' := [(2, 1), (0, tL1), (0, vL1)]) (st' := [(2, 1), (0, tL1)]) (by decide +kernel) rfl ?_
        refine zwW_gc C.1 (kd := 12) (bn := 2) (n := 13) (c := 2) (nx := 20) (by decide +kernel) ?_
        refine zwW_p [(1, 2, 0)] (q := 21) (ls' := [(2, 1), (0, tL1), (0, vL1)]) (st' := [(0, vL1), (2, 2), (0, tL1)]) (by decide +kernel) rfl ?_
        refine zwW_cm C.1 (op := 60) (k' := 123) (n := 1) (kd := 0) (m := 3) (nx := 24) (r := 2) (tl := [(0, vL1)]) (st' := [(0, tL1)]) (by decide +kernel) rfl (by decide +kernel) rfl (x123_2 C (i := vL1) ⟨by omega, by omega⟩) ?_
        rintro v4 _ ⟨rfl, Gv4, ev4⟩
        have lv4 := Gv4.1
        have pv4 : v4 = zv h 2 vL1.toNat ∧ ((vL1.toNat : Nat) : Int) < fld h 2 2 := ⟨ev4, by omega⟩
        refine zwW_cast (a := 11) (kd := 11) (n := 17) (nx := 27) (by decide +kernel) rfl (Or.inr Gv4.2.1) ?_
        refine zwX_gi C (kd := 11) (bn := 3) (n := 17) (nx := 30) (by decide +kernel) Gv4.2.1 Gv4.1 rfl ?_
        intro v5 ev5 lv5 uv5
        have sv5 : v5 = (yC h) 66 vL1.toNat := Eq.trans ev5 (Eq.trans (congrArg (fun q => fld h q 3) pv4.1) (Eq.trans (Eq.symm (yC_f (h := h) (a := 66) (A := 2) (j := 3) (i := vL1.toNat) rfl pv4.2)) (Eq.trans (congrFun (congrFun (rfl : yC h = yC h) 66) vL1.toNat) rfl)))
        refine zwW_adw (nx := 31) (by decide +kernel) ?_
        intro v6 ev6 lv6 uv6
        have Ev6 : v6 = w32 (tL1 + ((yC h) 66 vL1.toNat)) := by rw [ev6, sv5]
        refine zwW_p [(2, 1, 0)] (q := 32) (ls' := [(2, 1), (0, v6), (0, vL1)]) (st' := []) (by decide +kernel) rfl ?_
        refine zwW_inc (i := 2) (c := 1) (x := vL1) (nx := 35) (by decide +kernel) rfl ⟨by omega, by omega⟩ (ls' := [(2, 1), (0, v6), (0, (vL1 + 1))]) rfl ?_
        refine zwW_p [(24, 4, 0)] (q := 4) (ls' := [(2, 1), (0, v6), (0, (vL1 + 1))]) (st' := []) (by decide +kernel) rfl ?_
        exact IHL1 ((1000 - (vL1 + 1))).toNat (by omega) v6 (vL1 + 1) rfl (by rw [show (vL1 + 1).toNat = (vL1).toNat + 1 by omega, ySmC_s, ← iL1_0, ← sv5]; assumption) (by omega) (by omega) (by omega)
  exact L1 _ 0 0 rfl (rfl) (by omega) (by omega) (by omega)
-- WheelLand.leftOfAll()I
theorem x191_z {sc : List Int} (h : Hp) (C : CI h) (J : yR h) : zwC sc 5 191 [(2, 1)] h (zwRt 0 (fun x g => h = g ∧ (-2147483648 ≤ x ∧ x ≤ 2147483647) ∧ (x = ySmLA (yC h)))) := by
  refine zwC_of (D := 4) 3 (by decide +kernel) rfl (ls := [(2, 1), (9, 0), (9, 0)]) rfl ?_
  have u0 : yC h 37 0 = fld h 1 0 := rfl
  have u1 : yC h 37 1 = fld h 2 2 := rfl
  have u2 : yC h 37 2 = fld h 3 2 := rfl
  have u64 : yC h 37 64 = fld h 4 2 := rfl
  have u78 : yC h 37 78 = fld h 5 2 := rfl
  have b0 := zLb_4 C
  refine zwW_p [(0, 0, 0), (2, 1, 0), (0, 0, 0), (2, 2, 0)] (q := 4) (ls' := [(2, 1), (0, 0), (0, 0)]) (st' := []) (by decide +kernel) rfl ?_
  have L1 : ∀ (n0 : Nat) (tL1 vL1 : Int), n0 = ((1000 - vL1)).toNat → (tL1 = ySmL (yC h) (vL1).toNat) → (vL1 ≤ fld h 4 2) → (-2147483648 ≤ tL1 ∧ tL1 ≤ 2147483647) → (0 ≤ vL1 ∧ vL1 ≤ 300) → zwW sc (4) 191 4 [(2, 1), (0, tL1), (0, vL1)] [] h (zwRt 0 (fun x g => h = g ∧ (-2147483648 ≤ x ∧ x ≤ 2147483647) ∧ (x = ySmLA (yC h)))) := by
    intro n0
    induction n0 using Nat.strongRecOn with
    | ind n0 IHL1 =>
      intro tL1 vL1 hnL1 iL1_0 iL1_1 iL1_2 iL1_3
      refine zwW_p [(1, 2, 0), (1, 0, 2)] (q := 6) (ls' := [(2, 1), (0, tL1), (0, vL1)]) (st' := [(2, 1), (0, vL1)]) (by decide +kernel) rfl ?_
      refine zwW_gc C.1 (kd := 12) (bn := 4) (n := 13) (c := 4) (nx := 9) (by decide +kernel) ?_
      refine zwW_cm C.1 (op := 60) (k' := 96) (n := 0) (kd := 0) (m := 3) (nx := 12) (r := 4) (tl := []) (st' := [(0, vL1)]) (by decide +kernel) rfl (by decide +kernel) rfl (x96_4 C) ?_
      rintro v2 _ ⟨rfl, ev2⟩
      have bv2 := zLb_4 C
      have sv2 : v2 = (yC h) 37 64 := Eq.trans ev2 (Eq.trans (Eq.symm (yC_s (h := h) (i := 64) rfl)) (Eq.trans (congrFun (congrFun (rfl : yC h = yC h) 37) 64) rfl))
      refine zwic_ge (q := 38) (nx := 15) (by decide +kernel) (fun c3 => ?_) (fun c3 => ?_)
      · refine zwW_p [(1, 1, 0)] (q := 39) (ls' := [(2, 1), (0, tL1), (0, vL1)]) (st' := [(0, tL1)]) (by decide +kernel) rfl ?_
        refine zwW_ret (nx := 40) (a := 0) (b := 0) (by decide +kernel) rfl (Or.inl rfl) ?_
        exact ⟨rfl, by omega, by unfold ySmLA; rw [show (yC h 37 64).toNat = (vL1).toNat by omega]; exact iL1_0⟩
      · refine zwW_p [(1, 1, 0), (1, 0, 2)] (q := 17) (ls' := [(2, 1), (0, tL1), (0, vL1)]) (st' := [(2, 1), (0, tL1)]) (by decide +kernel) rfl ?_
        refine zwW_gc C.1 (kd := 12) (bn := 4) (n := 13) (c := 4) (nx := 20) (by decide +kernel) ?_
        refine zwW_p [(1, 2, 0)] (q := 21) (ls' := [(2, 1), (0, tL1), (0, vL1)]) (st' := [(0, vL1), (2, 4), (0, tL1)]) (by decide +kernel) rfl ?_
        refine zwW_cm C.1 (op := 60) (k' := 123) (n := 1) (kd := 0) (m := 3) (nx := 24) (r := 4) (tl := [(0, vL1)]) (st' := [(0, tL1)]) (by decide +kernel) rfl (by decide +kernel) rfl (x123_4 C (i := vL1) ⟨by omega, by omega⟩) ?_
        rintro v4 _ ⟨rfl, Gv4, ev4⟩
        have lv4 := Gv4.1
        have pv4 : v4 = zv h 4 vL1.toNat ∧ ((vL1.toNat : Nat) : Int) < fld h 4 2 := ⟨ev4, by omega⟩
        refine zwW_cast (a := 6) (kd := 6) (n := 7) (nx := 27) (by decide +kernel) rfl (Or.inr Gv4.2.1) ?_
        refine zwX_gi C (kd := 6) (bn := 6) (n := 7) (nx := 30) (by decide +kernel) Gv4.2.1 Gv4.1 rfl ?_
        intro v5 ev5 lv5 uv5
        have sv5 : v5 = (yC h) 175 vL1.toNat := Eq.trans ev5 (Eq.trans (congrArg (fun q => fld h q 6) pv4.1) (Eq.trans (Eq.symm (yC_f (h := h) (a := 175) (A := 4) (j := 6) (i := vL1.toNat) rfl pv4.2)) (Eq.trans (congrFun (congrFun (rfl : yC h = yC h) 175) vL1.toNat) rfl)))
        refine zwW_adw (nx := 31) (by decide +kernel) ?_
        intro v6 ev6 lv6 uv6
        have Ev6 : v6 = w32 (tL1 + ((yC h) 175 vL1.toNat)) := by rw [ev6, sv5]
        refine zwW_p [(2, 1, 0)] (q := 32) (ls' := [(2, 1), (0, v6), (0, vL1)]) (st' := []) (by decide +kernel) rfl ?_
        refine zwW_inc (i := 2) (c := 1) (x := vL1) (nx := 35) (by decide +kernel) rfl ⟨by omega, by omega⟩ (ls' := [(2, 1), (0, v6), (0, (vL1 + 1))]) rfl ?_
        refine zwW_p [(24, 4, 0)] (q := 4) (ls' := [(2, 1), (0, v6), (0, (vL1 + 1))]) (st' := []) (by decide +kernel) rfl ?_
        exact IHL1 ((1000 - (vL1 + 1))).toNat (by omega) v6 (vL1 + 1) rfl (by rw [show (vL1 + 1).toNat = (vL1).toNat + 1 by omega, ySmL_s, ← iL1_0, ← sv5]; assumption) (by omega) (by omega) (by omega)
  exact L1 _ 0 0 rfl (rfl) (by omega) (by omega) (by omega)
def msx192_z : Zms := [(34, 34, 2, 3), (35, 35, 0, 936)]
-- WheelLand$Ledger.close(IIII)V
theorem x192_z {sc : List Int} (h : Hp) (C : CI h) (a b c d : Int) (q_a : -2147483648 ≤ a ∧ a ≤ 2147483647) (q_b : -2147483648 ≤ b ∧ b ≤ 2147483647) (q_c : -2147483648 ≤ c ∧ c ≤ 2147483647) (q_d : -2147483648 ≤ d ∧ d ≤ 2147483647) (J : yR h) (p1 : 0 ≤ a ∧ a ≤ 155) : zwC sc 1 192 [(2, 34), (0, a), (0, b), (0, c), (0, d)] h (zwRv (fun g => CI g ∧ zXR msx192_z (0) (0) h g ∧ (yC g = yClo (yC h) a.toNat b c d) ∧ (yR g))) := by
  refine zwC_of (D := 0) 6 (by decide +kernel) rfl (ls := [(2, 34), (0, a), (0, b), (0, c), (0, d), (9, 0)]) rfl ?_
  have X : zXR msx192_z 0 0 h h := zXR.rf _ _
  have u0 : yC h 37 0 = fld h 1 0 := rfl
  have u1 : yC h 37 1 = fld h 2 2 := rfl
  have u2 : yC h 37 2 = fld h 3 2 := rfl
  have u64 : yC h 37 64 = fld h 4 2 := rfl
  have u78 : yC h 37 78 = fld h 5 2 := rfl
  refine zwW_p [(1, 0, 2), (12, 0, 0)] (q := 2) (ls' := [(2, 34), (0, a), (0, b), (0, c), (0, d), (9, 0)]) (st' := [(2, 34), (2, 34)]) (by decide +kernel) rfl ?_
  refine zwW_gs C.1 (kd := 5) (bn := 2) (n := 4) (t := 0) (lo := -2147483648) (hi := 2147483647) (nx := 5) (by decide +kernel) ?_
  intro v1 ev1 lv1 uv1
  have sv1 : v1 = (yC h) 37 71 := Eq.trans ev1 (Eq.trans (Eq.symm (yC_s (h := h) (i := 71) rfl)) (Eq.trans (congrFun (congrFun (rfl : yC h = yC h) 37) 71) rfl))
  refine zwW_p [(1, 3, 0)] (q := 6) (ls' := [(2, 34), (0, a), (0, b), (0, c), (0, d), (9, 0)]) (st' := [(0, c), (0, v1), (2, 34)]) (by decide +kernel) rfl ?_
  refine zwW_adw (nx := 7) (by decide +kernel) ?_
  intro v2 ev2 lv2 uv2
  have Ev2 : v2 = w32 (((yC h) 37 71) + c) := by rw [ev2, sv1]
  refine zwW_ps C.1 (kd := 5) (bn := 2) (n := 4) (lo := -2147483648) (hi := 2147483647) (nx := 10) (by decide +kernel) ⟨by omega, by omega⟩ ?_
  intro h3 eh3 Ih3
  have Ch3 : CI h3 := C.wc eh3 Ih3 (by decide) (by decide)
  have Qh3 : zXR [(34, 34, 2, 3)] 0 0 h h3 := zXR.wc eh3 rfl ⟨by decide, by decide, Or.inl (by decide)⟩ ⟨by decide, by decide⟩
  have Zh3 : yC h3 = (zs (yC h) 37 71 (w32 (((yC h) 37 71) + c))) := by rw [yC_ws (q := 71) (r := 34) (j := 2) (kd := 5) (n := 4) rfl (C.1.s (a1 := 34) (a2 := 34) (by decide +kernel) (by decide) (by decide)) (by decide) C eh3, Ev2]
  have Xh3 : zXR msx192_z (0) (0) h h3 := X.tr (c2 := 0) (s2 := 0) Qh3 (by decide +kernel) (by decide) (by decide)
  have Jh3 : yR h3 := J.fr C Qh3 (by decide +kernel)
  refine zwW_p [(1, 1, 0), (0, 6, 0)] (q := 13) (ls' := [(2, 34), (0, a), (0, b), (0, c), (0, d), (9, 0)]) (st' := [(0, 6), (0, a)]) (by decide +kernel) rfl ?_
  refine zwW_mul (nx := 14) (by decide +kernel) ⟨by omega, by omega⟩ ?_
  refine zwW_p [(2, 5, 0), (1, 1, 0)] (q := 17) (ls' := [(2, 34), (0, a), (0, b), (0, c), (0, d), (0, (a * 6))]) (st' := [(0, a)]) (by decide +kernel) rfl ?_
  refine zwif_lt (q := 95) (nx := 20) (by decide +kernel) (fun c4 => ?_) (fun c4 => ?_)
  · exfalso; omega
  · refine zwW_p [(1, 1, 0), (0, 156, 0)] (q := 24) (ls' := [(2, 34), (0, a), (0, b), (0, c), (0, d), (0, (a * 6))]) (st' := [(0, 156), (0, a)]) (by decide +kernel) rfl ?_
    refine zwic_ge (q := 95) (nx := 27) (by decide +kernel) (fun c5 => ?_) (fun c5 => ?_)
    · exfalso; omega
    · refine zwW_p [(1, 0, 2)] (q := 28) (ls' := [(2, 34), (0, a), (0, b), (0, c), (0, d), (0, (a * 6))]) (st' := [(2, 34)]) (by decide +kernel) rfl ?_
      refine zwW_gc Ch3.1 (kd := 5) (bn := 3) (n := 4) (c := 35) (nx := 31) (by decide +kernel) ?_
      refine zwW_p [(1, 5, 0), (1, 2, 0)] (q := 34) (ls' := [(2, 34), (0, a), (0, b), (0, c), (0, d), (0, (a * 6))]) (st' := [(0, b), (0, (a * 6)), (2, 35)]) (by decide +kernel) rfl ?_
      refine zwW_as Ch3.1 (a1 := 35) (a2 := 35) (n := 936) (lo := -2147483648) (hi := 2147483647) (nx := 35) (by decide +kernel) ⟨by decide, by decide⟩ ⟨by omega, by omega⟩ ⟨by omega, by omega⟩ ?_
      intro h6 eh6 Ih6
      have Ch6 : CI h6 := Ch3.wc eh6 Ih6 (by decide) (by decide)
      have Qh6 : zXR [(35, 35, 0, 936)] 0 0 h3 h6 := zXR.wc eh6 rfl ⟨by decide, by decide, Or.inl (by decide)⟩ ⟨by omega, by omega⟩
      have Uh6 : yC h6 = (zs (zs (yC h) 37 71 (w32 (((yC h) 37 71) + c))) 206 ((a * 6).toNat) b) := by rw [yC_wx (a := 206) (r := 35) (n := 936) (i := (a * 6).toNat) (kd := 20) rfl (Ch3.1.s (a1 := 35) (a2 := 35) (by decide +kernel) (by decide) (by decide)) (by omega) Ch3 eh6, Zh3]
      have Zh6 : yC h6 = (zs (zs (yC h) 206 ((a * 6).toNat) b) 37 71 (w32 (((yC h) 37 71) + c))) := by rw [Uh6, zs_sw (a := 37) (b := 206) (by decide)]
      have Xh6 : zXR msx192_z (0) (0) h h6 := Xh3.tr (c2 := 0) (s2 := 0) Qh6 (by decide +kernel) (by decide) (by decide)
      have Jh6 : yR h6 := Jh3.fr Ch3 Qh6 (by decide +kernel)
      refine zwW_p [(1, 0, 2)] (q := 36) (ls' := [(2, 34), (0, a), (0, b), (0, c), (0, d), (0, (a * 6))]) (st' := [(2, 34)]) (by decide +kernel) rfl ?_
      refine zwW_gc Ch6.1 (kd := 5) (bn := 3) (n := 4) (c := 35) (nx := 39) (by decide +kernel) ?_
      refine zwW_p [(1, 5, 0), (0, 1, 0)] (q := 42) (ls' := [(2, 34), (0, a), (0, b), (0, c), (0, d), (0, (a * 6))]) (st' := [(0, 1), (0, (a * 6)), (2, 35)]) (by decide +kernel) rfl ?_
      refine zwW_add (nx := 43) (by decide +kernel) ⟨by omega, by omega⟩ ?_
      refine zwW_p [(1, 3, 0)] (q := 44) (ls' := [(2, 34), (0, a), (0, b), (0, c), (0, d), (0, (a * 6))]) (st' := [(0, c), (0, ((a * 6) + 1)), (2, 35)]) (by decide +kernel) rfl ?_
      refine zwW_as Ch6.1 (a1 := 35) (a2 := 35) (n := 936) (lo := -2147483648) (hi := 2147483647) (nx := 45) (by decide +kernel) ⟨by decide, by decide⟩ ⟨by omega, by omega⟩ ⟨by omega, by omega⟩ ?_
      intro h7 eh7 Ih7
      have Ch7 : CI h7 := Ch6.wc eh7 Ih7 (by decide) (by decide)
      have Qh7 : zXR [(35, 35, 0, 936)] 0 0 h6 h7 := zXR.wc eh7 rfl ⟨by decide, by decide, Or.inl (by decide)⟩ ⟨by omega, by omega⟩
      have Uh7 : yC h7 = (zs (zs (zs (yC h) 206 ((a * 6).toNat) b) 37 71 (w32 (((yC h) 37 71) + c))) 206 (((a * 6) + 1).toNat) c) := by rw [yC_wx (a := 206) (r := 35) (n := 936) (i := ((a * 6) + 1).toNat) (kd := 20) rfl (Ch6.1.s (a1 := 35) (a2 := 35) (by decide +kernel) (by decide) (by decide)) (by omega) Ch6 eh7, Zh6]
      have Zh7 : yC h7 = (zs (zs (zs (yC h) 206 ((a * 6).toNat) b) 206 (((a * 6) + 1).toNat) c) 37 71 (w32 (((yC h) 37 71) + c))) := by rw [Uh7, zs_sw (a := 37) (b := 206) (by decide)]
      have Xh7 : zXR msx192_z (0) (0) h h7 := Xh6.tr (c2 := 0) (s2 := 0) Qh7 (by decide +kernel) (by decide) (by decide)
      have Jh7 : yR h7 := Jh6.fr Ch6 Qh7 (by decide +kernel)
      refine zwW_p [(1, 0, 2)] (q := 46) (ls' := [(2, 34), (0, a), (0, b), (0, c), (0, d), (0, (a * 6))]) (st' := [(2, 34)]) (by decide +kernel) rfl ?_
      refine zwW_gc Ch7.1 (kd := 5) (bn := 3) (n := 4) (c := 35) (nx := 49) (by decide +kernel) ?_
      refine zwW_p [(1, 5, 0), (0, 2, 0)] (q := 52) (ls' := [(2, 34), (0, a), (0, b), (0, c), (0, d), (0, (a * 6))]) (st' := [(0, 2), (0, (a * 6)), (2, 35)]) (by decide +kernel) rfl ?_
      refine zwW_add (nx := 53) (by decide +kernel) ⟨by omega, by omega⟩ ?_
      refine zwW_p [(1, 4, 0)] (q := 55) (ls' := [(2, 34), (0, a), (0, b), (0, c), (0, d), (0, (a * 6))]) (st' := [(0, d), (0, ((a * 6) + 2)), (2, 35)]) (by decide +kernel) rfl ?_
      refine zwW_as Ch7.1 (a1 := 35) (a2 := 35) (n := 936) (lo := -2147483648) (hi := 2147483647) (nx := 56) (by decide +kernel) ⟨by decide, by decide⟩ ⟨by omega, by omega⟩ ⟨by omega, by omega⟩ ?_
      intro h8 eh8 Ih8
      have Ch8 : CI h8 := Ch7.wc eh8 Ih8 (by decide) (by decide)
      have Qh8 : zXR [(35, 35, 0, 936)] 0 0 h7 h8 := zXR.wc eh8 rfl ⟨by decide, by decide, Or.inl (by decide)⟩ ⟨by omega, by omega⟩
      have Uh8 : yC h8 = (zs (zs (zs (zs (yC h) 206 ((a * 6).toNat) b) 206 (((a * 6) + 1).toNat) c) 37 71 (w32 (((yC h) 37 71) + c))) 206 (((a * 6) + 2).toNat) d) := by rw [yC_wx (a := 206) (r := 35) (n := 936) (i := ((a * 6) + 2).toNat) (kd := 20) rfl (Ch7.1.s (a1 := 35) (a2 := 35) (by decide +kernel) (by decide) (by decide)) (by omega) Ch7 eh8, Zh7]
      have Zh8 : yC h8 = (zs (zs (zs (zs (yC h) 206 ((a * 6).toNat) b) 206 (((a * 6) + 1).toNat) c) 206 (((a * 6) + 2).toNat) d) 37 71 (w32 (((yC h) 37 71) + c))) := by rw [Uh8, zs_sw (a := 37) (b := 206) (by decide)]
      have Xh8 : zXR msx192_z (0) (0) h h8 := Xh7.tr (c2 := 0) (s2 := 0) Qh8 (by decide +kernel) (by decide) (by decide)
      have Jh8 : yR h8 := Jh7.fr Ch7 Qh8 (by decide +kernel)
      refine zwW_p [(1, 0, 2)] (q := 57) (ls' := [(2, 34), (0, a), (0, b), (0, c), (0, d), (0, (a * 6))]) (st' := [(2, 34)]) (by decide +kernel) rfl ?_
      refine zwW_gc Ch8.1 (kd := 5) (bn := 3) (n := 4) (c := 35) (nx := 60) (by decide +kernel) ?_
      refine zwW_p [(1, 5, 0), (0, 3, 0)] (q := 63) (ls' := [(2, 34), (0, a), (0, b), (0, c), (0, d), (0, (a * 6))]) (st' := [(0, 3), (0, (a * 6)), (2, 35)]) (by decide +kernel) rfl ?_
      refine zwW_add (nx := 64) (by decide +kernel) ⟨by omega, by omega⟩ ?_
      refine zwW_p [(1, 0, 2)] (q := 65) (ls' := [(2, 34), (0, a), (0, b), (0, c), (0, d), (0, (a * 6))]) (st' := [(2, 34), (0, ((a * 6) + 3)), (2, 35)]) (by decide +kernel) rfl ?_
      refine zwW_gs Ch8.1 (kd := 5) (bn := 0) (n := 4) (t := 0) (lo := -2147483648) (hi := 2147483647) (nx := 68) (by decide +kernel) ?_
      intro v9 ev9 lv9 uv9
      have sv9 : v9 = (yC h) 37 69 := Eq.trans ev9 (Eq.trans (Eq.symm (yC_s (h := h8) (i := 69) rfl)) (Eq.trans (congrFun (congrFun Zh8 37) 69) (Eq.trans (zs_ni (by decide) : (zs (zs (zs (zs (yC h) 206 ((a * 6).toNat) b) 206 (((a * 6) + 1).toNat) c) 206 (((a * 6) + 2).toNat) d) 37 71 (w32 (((yC h) 37 71) + c))) 37 69 = (zs (zs (zs (yC h) 206 ((a * 6).toNat) b) 206 (((a * 6) + 1).toNat) c) 206 (((a * 6) + 2).toNat) d) 37 69) (Eq.trans (zs_na (by decide) : (zs (zs (zs (yC h) 206 ((a * 6).toNat) b) 206 (((a * 6) + 1).toNat) c) 206 (((a * 6) + 2).toNat) d) 37 69 = (zs (zs (yC h) 206 ((a * 6).toNat) b) 206 (((a * 6) + 1).toNat) c) 37 69) (Eq.trans (zs_na (by decide) : (zs (zs (yC h) 206 ((a * 6).toNat) b) 206 (((a * 6) + 1).toNat) c) 37 69 = (zs (yC h) 206 ((a * 6).toNat) b) 37 69) (Eq.trans (zs_na (by decide) : (zs (yC h) 206 ((a * 6).toNat) b) 37 69 = (yC h) 37 69) rfl))))))
      refine zwW_as Ch8.1 (a1 := 35) (a2 := 35) (n := 936) (lo := -2147483648) (hi := 2147483647) (nx := 69) (by decide +kernel) ⟨by decide, by decide⟩ ⟨by omega, by omega⟩ ⟨by omega, by omega⟩ ?_
      intro h10 eh10 Ih10
      have Ch10 : CI h10 := Ch8.wc eh10 Ih10 (by decide) (by decide)
      have Qh10 : zXR [(35, 35, 0, 936)] 0 0 h8 h10 := zXR.wc eh10 rfl ⟨by decide, by decide, Or.inl (by decide)⟩ ⟨by omega, by omega⟩
      have Uh10 : yC h10 = (zs (zs (zs (zs (zs (yC h) 206 ((a * 6).toNat) b) 206 (((a * 6) + 1).toNat) c) 206 (((a * 6) + 2).toNat) d) 37 71 (w32 (((yC h) 37 71) + c))) 206 (((a * 6) + 3).toNat) ((yC h) 37 69)) := by rw [yC_wx (a := 206) (r := 35) (n := 936) (i := ((a * 6) + 3).toNat) (kd := 20) rfl (Ch8.1.s (a1 := 35) (a2 := 35) (by decide +kernel) (by decide) (by decide)) (by omega) Ch8 eh10, Zh8, sv9]
      have Zh10 : yC h10 = (zs (zs (zs (zs (zs (yC h) 206 ((a * 6).toNat) b) 206 (((a * 6) + 1).toNat) c) 206 (((a * 6) + 2).toNat) d) 206 (((a * 6) + 3).toNat) ((yC h) 37 69)) 37 71 (w32 (((yC h) 37 71) + c))) := by rw [Uh10, zs_sw (a := 37) (b := 206) (by decide)]
      have Xh10 : zXR msx192_z (0) (0) h h10 := Xh8.tr (c2 := 0) (s2 := 0) Qh10 (by decide +kernel) (by decide) (by decide)
      have Jh10 : yR h10 := Jh8.fr Ch8 Qh10 (by decide +kernel)
      refine zwW_p [(1, 0, 2)] (q := 70) (ls' := [(2, 34), (0, a), (0, b), (0, c), (0, d), (0, (a * 6))]) (st' := [(2, 34)]) (by decide +kernel) rfl ?_
      refine zwW_gc Ch10.1 (kd := 5) (bn := 3) (n := 4) (c := 35) (nx := 73) (by decide +kernel) ?_
      refine zwW_p [(1, 5, 0), (0, 4, 0)] (q := 76) (ls' := [(2, 34), (0, a), (0, b), (0, c), (0, d), (0, (a * 6))]) (st' := [(0, 4), (0, (a * 6)), (2, 35)]) (by decide +kernel) rfl ?_
      refine zwW_add (nx := 77) (by decide +kernel) ⟨by omega, by omega⟩ ?_
      refine zwW_p [(1, 0, 2)] (q := 78) (ls' := [(2, 34), (0, a), (0, b), (0, c), (0, d), (0, (a * 6))]) (st' := [(2, 34), (0, ((a * 6) + 4)), (2, 35)]) (by decide +kernel) rfl ?_
      refine zwW_gs Ch10.1 (kd := 5) (bn := 1) (n := 4) (t := 0) (lo := -2147483648) (hi := 2147483647) (nx := 81) (by decide +kernel) ?_
      intro v11 ev11 lv11 uv11
      have sv11 : v11 = (yC h) 37 70 := Eq.trans ev11 (Eq.trans (Eq.symm (yC_s (h := h10) (i := 70) rfl)) (Eq.trans (congrFun (congrFun Zh10 37) 70) (Eq.trans (zs_ni (by decide) : (zs (zs (zs (zs (zs (yC h) 206 ((a * 6).toNat) b) 206 (((a * 6) + 1).toNat) c) 206 (((a * 6) + 2).toNat) d) 206 (((a * 6) + 3).toNat) ((yC h) 37 69)) 37 71 (w32 (((yC h) 37 71) + c))) 37 70 = (zs (zs (zs (zs (yC h) 206 ((a * 6).toNat) b) 206 (((a * 6) + 1).toNat) c) 206 (((a * 6) + 2).toNat) d) 206 (((a * 6) + 3).toNat) ((yC h) 37 69)) 37 70) (Eq.trans (zs_na (by decide) : (zs (zs (zs (zs (yC h) 206 ((a * 6).toNat) b) 206 (((a * 6) + 1).toNat) c) 206 (((a * 6) + 2).toNat) d) 206 (((a * 6) + 3).toNat) ((yC h) 37 69)) 37 70 = (zs (zs (zs (yC h) 206 ((a * 6).toNat) b) 206 (((a * 6) + 1).toNat) c) 206 (((a * 6) + 2).toNat) d) 37 70) (Eq.trans (zs_na (by decide) : (zs (zs (zs (yC h) 206 ((a * 6).toNat) b) 206 (((a * 6) + 1).toNat) c) 206 (((a * 6) + 2).toNat) d) 37 70 = (zs (zs (yC h) 206 ((a * 6).toNat) b) 206 (((a * 6) + 1).toNat) c) 37 70) (Eq.trans (zs_na (by decide) : (zs (zs (yC h) 206 ((a * 6).toNat) b) 206 (((a * 6) + 1).toNat) c) 37 70 = (zs (yC h) 206 ((a * 6).toNat) b) 37 70) (Eq.trans (zs_na (by decide) : (zs (yC h) 206 ((a * 6).toNat) b) 37 70 = (yC h) 37 70) rfl)))))))
      refine zwW_as Ch10.1 (a1 := 35) (a2 := 35) (n := 936) (lo := -2147483648) (hi := 2147483647) (nx := 82) (by decide +kernel) ⟨by decide, by decide⟩ ⟨by omega, by omega⟩ ⟨by omega, by omega⟩ ?_
      intro h12 eh12 Ih12
      have Ch12 : CI h12 := Ch10.wc eh12 Ih12 (by decide) (by decide)
      have Qh12 : zXR [(35, 35, 0, 936)] 0 0 h10 h12 := zXR.wc eh12 rfl ⟨by decide, by decide, Or.inl (by decide)⟩ ⟨by omega, by omega⟩
      have Uh12 : yC h12 = (zs (zs (zs (zs (zs (zs (yC h) 206 ((a * 6).toNat) b) 206 (((a * 6) + 1).toNat) c) 206 (((a * 6) + 2).toNat) d) 206 (((a * 6) + 3).toNat) ((yC h) 37 69)) 37 71 (w32 (((yC h) 37 71) + c))) 206 (((a * 6) + 4).toNat) ((yC h) 37 70)) := by rw [yC_wx (a := 206) (r := 35) (n := 936) (i := ((a * 6) + 4).toNat) (kd := 20) rfl (Ch10.1.s (a1 := 35) (a2 := 35) (by decide +kernel) (by decide) (by decide)) (by omega) Ch10 eh12, Zh10, sv11]
      have Zh12 : yC h12 = (zs (zs (zs (zs (zs (zs (yC h) 206 ((a * 6).toNat) b) 206 (((a * 6) + 1).toNat) c) 206 (((a * 6) + 2).toNat) d) 206 (((a * 6) + 3).toNat) ((yC h) 37 69)) 206 (((a * 6) + 4).toNat) ((yC h) 37 70)) 37 71 (w32 (((yC h) 37 71) + c))) := by rw [Uh12, zs_sw (a := 37) (b := 206) (by decide)]
      have Xh12 : zXR msx192_z (0) (0) h h12 := Xh10.tr (c2 := 0) (s2 := 0) Qh12 (by decide +kernel) (by decide) (by decide)
      have Jh12 : yR h12 := Jh10.fr Ch10 Qh12 (by decide +kernel)
      refine zwW_p [(1, 0, 2)] (q := 83) (ls' := [(2, 34), (0, a), (0, b), (0, c), (0, d), (0, (a * 6))]) (st' := [(2, 34)]) (by decide +kernel) rfl ?_
      refine zwW_gc Ch12.1 (kd := 5) (bn := 3) (n := 4) (c := 35) (nx := 86) (by decide +kernel) ?_
      refine zwW_p [(1, 5, 0), (0, 5, 0)] (q := 89) (ls' := [(2, 34), (0, a), (0, b), (0, c), (0, d), (0, (a * 6))]) (st' := [(0, 5), (0, (a * 6)), (2, 35)]) (by decide +kernel) rfl ?_
      refine zwW_add (nx := 90) (by decide +kernel) ⟨by omega, by omega⟩ ?_
      refine zwW_p [(1, 0, 2)] (q := 91) (ls' := [(2, 34), (0, a), (0, b), (0, c), (0, d), (0, (a * 6))]) (st' := [(2, 34), (0, ((a * 6) + 5)), (2, 35)]) (by decide +kernel) rfl ?_
      refine zwW_gs Ch12.1 (kd := 5) (bn := 2) (n := 4) (t := 0) (lo := -2147483648) (hi := 2147483647) (nx := 94) (by decide +kernel) ?_
      intro v13 ev13 lv13 uv13
      have sv13 : v13 = (w32 (((yC h) 37 71) + c)) := Eq.trans ev13 (Eq.trans (Eq.symm (yC_s (h := h12) (i := 71) rfl)) (Eq.trans (congrFun (congrFun Zh12 37) 71) (zs_eq : (zs (zs (zs (zs (zs (zs (yC h) 206 ((a * 6).toNat) b) 206 (((a * 6) + 1).toNat) c) 206 (((a * 6) + 2).toNat) d) 206 (((a * 6) + 3).toNat) ((yC h) 37 69)) 206 (((a * 6) + 4).toNat) ((yC h) 37 70)) 37 71 (w32 (((yC h) 37 71) + c))) 37 71 = (w32 (((yC h) 37 71) + c)))))
      refine zwW_as Ch12.1 (a1 := 35) (a2 := 35) (n := 936) (lo := -2147483648) (hi := 2147483647) (nx := 95) (by decide +kernel) ⟨by decide, by decide⟩ ⟨by omega, by omega⟩ ⟨by omega, by omega⟩ ?_
      intro h14 eh14 Ih14
      have Ch14 : CI h14 := Ch12.wc eh14 Ih14 (by decide) (by decide)
      have Qh14 : zXR [(35, 35, 0, 936)] 0 0 h12 h14 := zXR.wc eh14 rfl ⟨by decide, by decide, Or.inl (by decide)⟩ ⟨by omega, by omega⟩
      have Uh14 : yC h14 = (zs (zs (zs (zs (zs (zs (zs (yC h) 206 ((a * 6).toNat) b) 206 (((a * 6) + 1).toNat) c) 206 (((a * 6) + 2).toNat) d) 206 (((a * 6) + 3).toNat) ((yC h) 37 69)) 206 (((a * 6) + 4).toNat) ((yC h) 37 70)) 37 71 (w32 (((yC h) 37 71) + c))) 206 (((a * 6) + 5).toNat) (w32 (((yC h) 37 71) + c))) := by rw [yC_wx (a := 206) (r := 35) (n := 936) (i := ((a * 6) + 5).toNat) (kd := 20) rfl (Ch12.1.s (a1 := 35) (a2 := 35) (by decide +kernel) (by decide) (by decide)) (by omega) Ch12 eh14, Zh12, sv13]
      have Zh14 : yC h14 = (zs (zs (zs (zs (zs (zs (zs (yC h) 206 ((a * 6).toNat) b) 206 (((a * 6) + 1).toNat) c) 206 (((a * 6) + 2).toNat) d) 206 (((a * 6) + 3).toNat) ((yC h) 37 69)) 206 (((a * 6) + 4).toNat) ((yC h) 37 70)) 206 (((a * 6) + 5).toNat) (w32 (((yC h) 37 71) + c))) 37 71 (w32 (((yC h) 37 71) + c))) := by rw [Uh14, zs_sw (a := 37) (b := 206) (by decide)]
      have Xh14 : zXR msx192_z (0) (0) h h14 := Xh12.tr (c2 := 0) (s2 := 0) Qh14 (by decide +kernel) (by decide) (by decide)
      have Jh14 : yR h14 := Jh12.fr Ch12 Qh14 (by decide +kernel)
      refine zwW_retv (nx := 96) (a := 0) (b := 0) (by decide +kernel) ?_
      exact ⟨Ch14, Xh14.le (by decide) (by decide), by refine Eq.trans Zh14 ?_; unfold yClo; (repeat' (first | rw [if_pos (by omega)] | rw [if_neg (by omega)])); all_goals (repeat' (first | rfl | omega | apply zs_cg)), by exact Jh14⟩
