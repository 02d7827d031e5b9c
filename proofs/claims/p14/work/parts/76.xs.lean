/-! contracts of the class -/
-- WheelLand$Village.idleIn(I)I
theorem x222_s {sc : List Int} (h : Hp) (C : CI h) (r a : Int) (G_r : gV h r) (q_a : -2147483648 ≤ a ∧ a ≤ 2147483647) (pi : 0 ≤ fld h r 1) (pa : 0 ≤ a ∧ a ≤ 3) (pj : 0 ≤ zid (fld h r 1) a.toNat ∧ zid (fld h r 1) a.toNat ≤ 40) : zwC sc 1 222 [(2, r), (0, a)] h (zwRt 0 (fun x g => h = g ∧ (-2147483648 ≤ x ∧ x ≤ 2147483647) ∧ (x = zid (fld h r 1) a.toNat ∧ 0 ≤ x ∧ x ≤ 40))) := by
  refine zwC_of (D := 0) 2 (by decide +kernel) rfl (ls := [(2, r), (0, a)]) rfl ?_
  have lw_r := G_r.1
  refine zwW_p [(1, 1, 0)] (q := 1) (ls' := [(2, r), (0, a)]) (st' := [(0, a)]) (by decide +kernel) rfl ?_
  refine zwW_sw (d := 59) (os := [0, 28, 1, 36, 2, 48]) (by decide +kernel) ?_
  refine ⟨fun c1 => ?_, fun c1 => ?_⟩
  · show zwW _ _ _ 28 _ _ _ _
    refine zwW_p [(1, 0, 2)] (q := 29) (ls' := [(2, r), (0, a)]) (st' := [(2, r)]) (by decide +kernel) rfl ?_
    refine zwX_gi C (kd := 11) (bn := 1) (n := 17) (nx := 32) (by decide +kernel) G_r.2.1 G_r.1 rfl ?_
    intro v2 ev2 lv2 uv2
    refine zwW_p [(0, 1000000, 0)] (q := 34) (ls' := [(2, r), (0, a)]) (st' := [(0, 1000000), (0, v2)]) (by decide +kernel) rfl ?_
    refine zwW_div (nx := 35) (by decide +kernel) (by omega) (by omega) (by omega) ?_
    refine zwW_ret (nx := 36) (a := 0) (b := 0) (by decide +kernel) rfl (Or.inl rfl) ?_
    exact ⟨rfl, by omega, by have q0 : (v2 / 1000000) = zid (fld h r 1) a.toNat := (by unfold zid; first | (rw [if_pos (by omega)]; omega) | (rw [if_neg (by omega), if_pos (by omega)]; omega) | (rw [if_neg (by omega), if_neg (by omega), if_pos (by omega)]; omega) | (rw [if_neg (by omega), if_neg (by omega), if_neg (by omega)]; omega)); exact ⟨q0, by omega, by omega⟩⟩
  refine ⟨fun c3 => ?_, fun c3 => ?_⟩
  · show zwW _ _ _ 36 _ _ _ _
    refine zwW_p [(1, 0, 2)] (q := 37) (ls' := [(2, r), (0, a)]) (st' := [(2, r)]) (by decide +kernel) rfl ?_
    refine zwX_gi C (kd := 11) (bn := 1) (n := 17) (nx := 40) (by decide +kernel) G_r.2.1 G_r.1 rfl ?_
    intro v4 ev4 lv4 uv4
    refine zwW_p [(0, 10000, 0)] (q := 43) (ls' := [(2, r), (0, a)]) (st' := [(0, 10000), (0, v4)]) (by decide +kernel) rfl ?_
    refine zwW_div (nx := 44) (by decide +kernel) (by omega) (by omega) (by omega) ?_
    refine zwW_p [(0, 100, 0)] (q := 46) (ls' := [(2, r), (0, a)]) (st' := [(0, 100), (0, (v4 / 10000))]) (by decide +kernel) rfl ?_
    refine zwW_rem (nx := 47) (by decide +kernel) (by omega) (by omega) ?_
    refine zwW_ret (nx := 48) (a := 0) (b := 0) (by decide +kernel) rfl (Or.inl rfl) ?_
    exact ⟨rfl, by omega, by have q0 : ((v4 / 10000) % 100) = zid (fld h r 1) a.toNat := (by unfold zid; first | (rw [if_pos (by omega)]; omega) | (rw [if_neg (by omega), if_pos (by omega)]; omega) | (rw [if_neg (by omega), if_neg (by omega), if_pos (by omega)]; omega) | (rw [if_neg (by omega), if_neg (by omega), if_neg (by omega)]; omega)); exact ⟨q0, by omega, by omega⟩⟩
  refine ⟨fun c5 => ?_, fun c5 => ?_⟩
  · show zwW _ _ _ 48 _ _ _ _
    refine zwW_p [(1, 0, 2)] (q := 49) (ls' := [(2, r), (0, a)]) (st' := [(2, r)]) (by decide +kernel) rfl ?_
    refine zwX_gi C (kd := 11) (bn := 1) (n := 17) (nx := 52) (by decide +kernel) G_r.2.1 G_r.1 rfl ?_
    intro v6 ev6 lv6 uv6
    refine zwW_p [(0, 100, 0)] (q := 54) (ls' := [(2, r), (0, a)]) (st' := [(0, 100), (0, v6)]) (by decide +kernel) rfl ?_
    refine zwW_div (nx := 55) (by decide +kernel) (by omega) (by omega) (by omega) ?_
    refine zwW_p [(0, 100, 0)] (q := 57) (ls' := [(2, r), (0, a)]) (st' := [(0, 100), (0, (v6 / 100))]) (by decide +kernel) rfl ?_
    refine zwW_rem (nx := 58) (by decide +kernel) (by omega) (by omega) ?_
    refine zwW_ret (nx := 59) (a := 0) (b := 0) (by decide +kernel) rfl (Or.inl rfl) ?_
    exact ⟨rfl, by omega, by have q0 : ((v6 / 100) % 100) = zid (fld h r 1) a.toNat := (by unfold zid; first | (rw [if_pos (by omega)]; omega) | (rw [if_neg (by omega), if_pos (by omega)]; omega) | (rw [if_neg (by omega), if_neg (by omega), if_pos (by omega)]; omega) | (rw [if_neg (by omega), if_neg (by omega), if_neg (by omega)]; omega)); exact ⟨q0, by omega, by omega⟩⟩
  show zwW _ _ _ 59 _ _ _ _
  refine zwW_p [(1, 0, 2)] (q := 60) (ls' := [(2, r), (0, a)]) (st' := [(2, r)]) (by decide +kernel) rfl ?_
  refine zwX_gi C (kd := 11) (bn := 1) (n := 17) (nx := 63) (by decide +kernel) G_r.2.1 G_r.1 rfl ?_
  intro v7 ev7 lv7 uv7
  refine zwW_p [(0, 100, 0)] (q := 65) (ls' := [(2, r), (0, a)]) (st' := [(0, 100), (0, v7)]) (by decide +kernel) rfl ?_
  refine zwW_rem (nx := 66) (by decide +kernel) (by omega) (by omega) ?_
  refine zwW_ret (nx := 67) (a := 0) (b := 0) (by decide +kernel) rfl (Or.inl rfl) ?_
  exact ⟨rfl, by omega, by have q0 : (v7 % 100) = zid (fld h r 1) a.toNat := (by unfold zid; first | (rw [if_pos (by omega)]; omega) | (rw [if_neg (by omega), if_pos (by omega)]; omega) | (rw [if_neg (by omega), if_neg (by omega), if_pos (by omega)]; omega) | (rw [if_neg (by omega), if_neg (by omega), if_neg (by omega)]; omega)); exact ⟨q0, by omega, by omega⟩⟩
-- WheelLand.cut(II)I
theorem x173_s {sc : List Int} (h : Hp) (C : CI h) (a b : Int) (q_a : -2147483648 ≤ a ∧ a ≤ 2147483647) (q_b : -2147483648 ≤ b ∧ b ≤ 2147483647) (pa : 0 ≤ a) (pb : 1 ≤ b) : zwC sc 1 173 [(0, a), (0, b)] h (zwRt 0 (fun x g => h = g ∧ (-2147483648 ≤ x ∧ x ≤ 2147483647) ∧ (x = a / b ∧ 0 ≤ x ∧ x ≤ a))) := by
  refine zwC_of (D := 0) 2 (by decide +kernel) rfl (ls := [(0, a), (0, b)]) rfl ?_
  refine zwW_p [(1, 1, 0)] (q := 1) (ls' := [(0, a), (0, b)]) (st' := [(0, b)]) (by decide +kernel) rfl ?_
  refine zwif_ne (q := 8) (nx := 4) (by decide +kernel) (fun c1 => ?_) (fun c1 => ?_)
  · refine zwW_p [(1, 0, 0), (1, 1, 0)] (q := 10) (ls' := [(0, a), (0, b)]) (st' := [(0, b), (0, a)]) (by decide +kernel) rfl ?_
    refine zwW_div (nx := 11) (by decide +kernel) (by omega) (by omega) (by omega) ?_
    obtain ⟨v2, ev2⟩ : ∃ z, z = a / b := ⟨_, rfl⟩
    rw [← ev2]
    refine zwW_ret (nx := 12) (a := 0) (b := 0) (by decide +kernel) rfl (Or.inl rfl) ?_
    exact ⟨rfl, by first | omega | (have := Int.ediv_nonneg (a := a) (b := b) pa (by omega); have := Int.ediv_le_self b pa; omega), by first | omega | exact ⟨(by first | rfl | exact ev2), by rw [ev2]; exact Int.ediv_nonneg pa (by omega), by rw [ev2]; exact Int.ediv_le_self _ pa⟩⟩
  · exfalso; omega
-- WheelLand.cutUp(II)I
theorem x151_s {sc : List Int} (h : Hp) (C : CI h) (a b : Int) (q_a : -2147483648 ≤ a ∧ a ≤ 2147483647) (q_b : -2147483648 ≤ b ∧ b ≤ 2147483647) (pa : 0 ≤ a ∧ a ≤ 1000000) (pb : 1 ≤ b ∧ b ≤ 1000) : zwC sc 1 151 [(0, a), (0, b)] h (zwRt 0 (fun x g => h = g ∧ (-2147483648 ≤ x ∧ x ≤ 2147483647) ∧ (x = (a + b - 1) / b ∧ 0 ≤ x ∧ x ≤ a + b))) := by
  refine zwC_of (D := 0) 2 (by decide +kernel) rfl (ls := [(0, a), (0, b)]) rfl ?_
  refine zwW_p [(1, 1, 0)] (q := 1) (ls' := [(0, a), (0, b)]) (st' := [(0, b)]) (by decide +kernel) rfl ?_
  refine zwif_ne (q := 8) (nx := 4) (by decide +kernel) (fun c1 => ?_) (fun c1 => ?_)
  · refine zwW_p [(1, 0, 0), (1, 1, 0)] (q := 10) (ls' := [(0, a), (0, b)]) (st' := [(0, b), (0, a)]) (by decide +kernel) rfl ?_
    refine zwW_add (nx := 11) (by decide +kernel) ⟨by omega, by omega⟩ ?_
    refine zwW_p [(0, 1, 0)] (q := 12) (ls' := [(0, a), (0, b)]) (st' := [(0, 1), (0, (a + b))]) (by decide +kernel) rfl ?_
    refine zwW_sub (nx := 13) (by decide +kernel) ⟨by omega, by omega⟩ ?_
    refine zwW_p [(1, 1, 0)] (q := 14) (ls' := [(0, a), (0, b)]) (st' := [(0, b), (0, ((a + b) - 1))]) (by decide +kernel) rfl ?_
    refine zwW_div (nx := 15) (by decide +kernel) (by omega) (by omega) (by omega) ?_
    obtain ⟨v2, ev2⟩ : ∃ z, z = ((a + b) - 1) / b := ⟨_, rfl⟩
    rw [← ev2]
    refine zwW_ret (nx := 16) (a := 0) (b := 0) (by decide +kernel) rfl (Or.inl rfl) ?_
    exact ⟨rfl, by first | omega | (have d1 : 0 ≤ (a + b - 1) / b := Int.ediv_nonneg (by omega) (by omega); have d2 : (a + b - 1) / b ≤ a + b - 1 := Int.ediv_le_self _ (by omega); have d3 : v2 = (a + b - 1) / b := ev2; omega), by first | omega | (have d1 : 0 ≤ (a + b - 1) / b := Int.ediv_nonneg (by omega) (by omega); have d2 : (a + b - 1) / b ≤ a + b - 1 := Int.ediv_le_self _ (by omega); have d3 : v2 = (a + b - 1) / b := ev2; exact ⟨(by first | rfl | exact d3), by omega, by omega⟩)⟩
  · exfalso; omega
-- WheelLand.hanksOf(IIII)I
theorem x223_s {sc : List Int} (h : Hp) (C : CI h) (a b c d : Int) (q_a : -2147483648 ≤ a ∧ a ≤ 2147483647) (q_b : -2147483648 ≤ b ∧ b ≤ 2147483647) (q_c : -2147483648 ≤ c ∧ c ≤ 2147483647) (q_d : -2147483648 ≤ d ∧ d ≤ 2147483647) (pa : 0 ≤ a ∧ a ≤ 200) (pb : 0 ≤ b ∧ b ≤ 9) (pc : 4 ≤ c ∧ c ≤ 60) (pd : 0 ≤ d ∧ d ≤ 9999) : zwC sc 2 223 [(0, a), (0, b), (0, c), (0, d)] h (zwRt 0 (fun x g => h = g ∧ (-2147483648 ≤ x ∧ x ≤ 2147483647) ∧ (x = min (a * (10 + b) / (c + 20)) (d * c)))) := by
  refine zwC_of (D := 1) 4 (by decide +kernel) rfl (ls := [(0, a), (0, b), (0, c), (0, d)]) rfl ?_
  refine zwW_p [(1, 0, 0), (0, 10, 0), (1, 1, 0)] (q := 4) (ls' := [(0, a), (0, b), (0, c), (0, d)]) (st' := [(0, b), (0, 10), (0, a)]) (by decide +kernel) rfl ?_
  refine zwW_add (nx := 5) (by decide +kernel) ⟨by omega, by omega⟩ ?_
  refine zwW_mulp (A := 200) (B := 19) (nx := 6) (by decide +kernel) ⟨by omega, by omega⟩ ⟨by omega, by omega⟩ (by decide) ?_
  intro v1 ev1 lv1 uv1
  refine zwW_p [(1, 2, 0), (0, 20, 0)] (q := 9) (ls' := [(0, a), (0, b), (0, c), (0, d)]) (st' := [(0, 20), (0, c), (0, v1)]) (by decide +kernel) rfl ?_
  refine zwW_add (nx := 10) (by decide +kernel) ⟨by omega, by omega⟩ ?_
  refine zwW_cs (k' := 173) (n := 2) (nx := 13) (as := [(0, v1), (0, (c + 20))]) (st' := []) (by decide +kernel) rfl (x173_s h C v1 (c + 20) (by omega) (by omega) (by omega) (by omega)) rfl ?_
  rintro v2 _ ⟨rfl, f3, f4⟩
  refine zwW_p [(1, 3, 0), (1, 2, 0)] (q := 15) (ls' := [(0, a), (0, b), (0, c), (0, d)]) (st' := [(0, c), (0, d), (0, v2)]) (by decide +kernel) rfl ?_
  refine zwW_mulp (A := 9999) (B := 60) (nx := 16) (by decide +kernel) ⟨by omega, by omega⟩ ⟨by omega, by omega⟩ (by decide) ?_
  intro v5 ev5 lv5 uv5
  refine zwW_min (nx := 19) (by decide +kernel) rfl ?_
  intro v6 ev6
  refine zwW_ret (nx := 20) (a := 0) (b := 0) (by decide +kernel) rfl (Or.inl rfl) ?_
  exact ⟨rfl, by omega, by obtain ⟨q1, q2, q3⟩ := f4; subst_vars; rfl⟩
-- WheelLand.wouldSpin(LWheelLand$House;)I
theorem x170_s {sc : List Int} (h : Hp) (C : CI h) (r : Int) (S : zT) (k : Nat) (G_r : gH h r) (X0 : zX h S) (B0 : zBs S) (pk : (k : Int) < S 37 2) (pr : r = zv h 3 k) : zwC sc 3 170 [(2, 1), (2, r)] h (zwRt 0 (fun x g => h = g ∧ (-2147483648 ≤ x ∧ x ≤ 2147483647) ∧ (x ≤ 0 ∨ fld h 4 2 < 300) ∧ (x = yX S (yEp S) k ∧ 0 ≤ x ∧ x ≤ 3800))) := by
  refine zwC_of (D := 2) 3 (by decide +kernel) rfl (ls := [(2, 1), (2, r), (9, 0)]) rfl ?_
  have lw_r := G_r.1
  obtain ⟨x1, x2, x3, x4⟩ := X0.2.2.1 k pk
  rw [← pr] at x1 x2 x3 x4
  obtain ⟨b1, b2, b3, b4⟩ := B0.1 k pk
  obtain ⟨y0, y1, y2, y3⟩ := X0.2.1 (S 79 k).toNat (by omega)
  rw [← x4] at y0 y1 y2 y3
  have bc := B0.2.1 (S 79 k).toNat (by omega)
  have z1 := X0.1
  have zn := B0.2.2.2.1
  have bx := yX_b B0 (yEp_4 (S := S)) pk
  refine zwW_p [(1, 0, 2)] (q := 1) (ls' := [(2, 1), (2, r), (9, 0)]) (st' := [(2, 1)]) (by decide +kernel) rfl ?_
  refine zwW_gc C.1 (kd := 12) (bn := 4) (n := 13) (c := 4) (nx := 4) (by decide +kernel) ?_
  refine zwW_cm C.1 (op := 60) (k' := 96) (n := 0) (kd := 0) (m := 3) (nx := 7) (r := 4) (tl := []) (st' := []) (by decide +kernel) rfl (by decide +kernel) rfl (x96_4 C) ?_
  rintro v1 _ ⟨rfl, ev1⟩
  have bv1 := zLb_4 C
  refine zwW_p [(0, 300, 0)] (q := 10) (ls' := [(2, 1), (2, r), (9, 0)]) (st' := [(0, 300), (0, v1)]) (by decide +kernel) rfl ?_
  refine zwic_lt (q := 15) (nx := 13) (by decide +kernel) (fun c2 => ?_) (fun c2 => ?_)
  · refine zwW_p [(1, 1, 2)] (q := 16) (ls' := [(2, 1), (2, r), (9, 0)]) (st' := [(2, r)]) (by decide +kernel) rfl ?_
    refine zwX_gi C (kd := 4) (bn := 2) (n := 19) (nx := 19) (by decide +kernel) G_r.2.1 G_r.1 rfl ?_
    intro v3 ev3 lv3 uv3
    refine zwW_p [(1, 1, 2)] (q := 20) (ls' := [(2, 1), (2, r), (9, 0)]) (st' := [(2, r), (0, v3)]) (by decide +kernel) rfl ?_
    refine zwW_get (kd := 4) (bn := 1) (t := 2) (n := 19) (nx := 23) (by decide +kernel) G_r.2.1 rfl ?_
    obtain ⟨v4, ev4⟩ : ∃ z, z = fld h r 1 := ⟨_, rfl⟩
    rw [← ev4]
    have Gv4 : gV h v4 := by rw [ev4]; exact G_r.2.2
    have lv4 := Gv4.1
    rw [← ev4] at y1 y2 y3
    refine zwW_p [(1, 0, 2)] (q := 24) (ls' := [(2, 1), (2, r), (9, 0)]) (st' := [(2, 1), (2, v4), (0, v3)]) (by decide +kernel) rfl ?_
    refine zwW_gs C.1 (kd := 12) (bn := 0) (n := 13) (t := 0) (lo := 0) (hi := 156) (nx := 27) (by decide +kernel) ?_
    intro v5 ev5 lv5 uv5
    refine zwW_cs (k' := 162) (n := 1) (nx := 30) (as := [(0, v5)]) (st' := [(2, v4), (0, v3)]) (by decide +kernel) rfl (x162 h C v5 (by omega) (by omega)) rfl ?_
    rintro v6 _ ⟨rfl, f7, f8, f9⟩
    have y4 := y3 (v6).toNat (by omega)
    have b6 := bc.2 (v6).toNat (by omega)
    have q1 : (v6).toNat = yEp S := by unfold yEp; omega
    refine zwW_cv (op := 60) (k' := 222) (n := 1) (kd := 11) (m := 17) (nx := 33) (r := v4) (tl := [(0, v6)]) (st' := [(0, v3)]) (by decide +kernel) rfl (by decide +kernel) Gv4.2.1 (x222_s h C v4 v6 Gv4 (by omega) (by omega) (by omega) (by omega)) rfl ?_
    rintro v10 _ ⟨rfl, f11, f12⟩
    refine zwW_mulp (A := 5) (B := 40) (nx := 34) (by decide +kernel) ⟨by omega, by omega⟩ ⟨by omega, by omega⟩ (by decide) ?_
    intro v13 ev13 lv13 uv13
    have Ev13 : v13 = (fld h r 2) * v10 := by rw [ev13, ev3]
    refine zwW_p [(2, 2, 0), (1, 2, 0), (1, 1, 2)] (q := 37) (ls' := [(2, 1), (2, r), (0, v13)]) (st' := [(2, r), (0, v13)]) (by decide +kernel) rfl ?_
    refine zwX_gi C (kd := 4) (bn := 3) (n := 19) (nx := 40) (by decide +kernel) G_r.2.1 G_r.1 rfl ?_
    intro v14 ev14 lv14 uv14
    refine zwW_p [(1, 1, 2)] (q := 41) (ls' := [(2, 1), (2, r), (0, v13)]) (st' := [(2, r), (0, v14), (0, v13)]) (by decide +kernel) rfl ?_
    refine zwX_gi C (kd := 4) (bn := 7) (n := 19) (nx := 44) (by decide +kernel) G_r.2.1 G_r.1 rfl ?_
    intro v15 ev15 lv15 uv15
    refine zwW_p [(1, 1, 2)] (q := 45) (ls' := [(2, 1), (2, r), (0, v13)]) (st' := [(2, r), (0, v15), (0, v14), (0, v13)]) (by decide +kernel) rfl ?_
    refine zwW_get (kd := 4) (bn := 1) (t := 2) (n := 19) (nx := 48) (by decide +kernel) G_r.2.1 rfl ?_
    rw [← ev4]
    refine zwX_gi C (kd := 11) (bn := 3) (n := 17) (nx := 51) (by decide +kernel) Gv4.2.1 Gv4.1 rfl ?_
    intro v17 ev17 lv17 uv17
    refine zwW_cs (k' := 223) (n := 4) (nx := 54) (as := [(0, v13), (0, v14), (0, v15), (0, v17)]) (st' := []) (by decide +kernel) rfl (x223_s h C v13 v14 v15 v17 (by omega) (by omega) (by omega) (by omega) (by omega) (by omega) (by omega) (by omega)) rfl ?_
    rintro v18 _ ⟨rfl, f19, f20⟩
    have QX : v18 = yX S (yEp S) k := by
      obtain ⟨i1, -, -⟩ := f12
      unfold yX yHk
      rw [if_neg (by omega), ← q1, ← y4, ← x1, ← x2, ← x3, ← y1, f20]
      subst_vars
      rfl
    refine zwW_ret (nx := 55) (a := 0) (b := 0) (by decide +kernel) rfl (Or.inl rfl) ?_
    exact ⟨rfl, by omega, by omega, by exact ⟨QX, by omega, by omega⟩⟩
  · refine zwW_p [(0, 0, 0)] (q := 14) (ls' := [(2, 1), (2, r), (9, 0)]) (st' := [(0, 0)]) (by decide +kernel) rfl ?_
    have QX : (0 : Int) = yX S (yEp S) k := by
      unfold yX
      rw [if_pos (by omega)]
    refine zwW_ret (nx := 15) (a := 0) (b := 0) (by decide +kernel) rfl (Or.inl rfl) ?_
    exact ⟨rfl, by omega, by omega, by exact ⟨QX, by omega, by omega⟩⟩
def msx185_s : Zms := [(4, 4, 0, 3), (1004, 1004, 18, 19), (1011, 1011, 3, 4)]
-- WheelLand.spinAll()I
theorem x185_s {sc : List Int} (h : Hp) (C : CI h) (S : zT) (X0 : zX h S) (B0 : zBs S) (hl : h.length ≤ 999930000) : zwC sc 7 185 [(2, 1)] h (zwRt 0 (fun x g => CI g ∧ zXR msx185_s (0) (0) h g ∧ (-2147483648 ≤ x ∧ x ≤ 2147483647) ∧ (zX g (ySN S (yEp S) (S 37 2).toNat) ∧ x = yTo S (yEp S) (S 37 2).toNat ∧ zPf h g))) := by
  refine zwC_of (D := 6) 6 (by decide +kernel) rfl (ls := [(2, 1), (9, 0), (9, 0), (9, 0), (9, 0), (9, 0)]) rfl ?_
  have X : zXR msx185_s 0 0 h h := zXR.rf _ _
  have E4 := yEp_4 (S := S)
  have nb := B0.2.2.2.2.2
  refine zwW_p [(1, 0, 2)] (q := 1) (ls' := [(2, 1), (9, 0), (9, 0), (9, 0), (9, 0), (9, 0)]) (st' := [(2, 1)]) (by decide +kernel) rfl ?_
  refine zwW_gs C.1 (kd := 12) (bn := 0) (n := 13) (t := 0) (lo := 0) (hi := 156) (nx := 4) (by decide +kernel) ?_
  intro v1 ev1 lv1 uv1
  refine zwW_cs (k' := 162) (n := 1) (nx := 7) (as := [(0, v1)]) (st' := []) (by decide +kernel) rfl (x162 h C v1 (by omega) (by omega)) rfl ?_
  rintro v2 _ ⟨rfl, f3, f4, f5⟩
  refine zwW_p [(2, 1, 0), (0, 0, 0), (2, 2, 0), (0, 0, 0), (2, 3, 0)] (q := 12) (ls' := [(2, 1), (0, v2), (0, 0), (0, 0), (9, 0), (9, 0)]) (st' := []) (by decide +kernel) rfl ?_
  have L6 : ∀ (n : Nat) (tL6 kL6 : Int) (w4L6 w5L6 : Vl) (hL6 : Hp), n = ((1000 - kL6)).toNat → (zX hL6 (ySN S (yEp S) (kL6).toNat)) → (tL6 = yTo S (yEp S) (kL6).toNat) → (kL6 ≤ S 37 2) → (zPf h hL6) → (0 ≤ tL6 ∧ tL6 ≤ 76000) → (0 ≤ kL6 ∧ kL6 ≤ 20) → CI hL6 → zXR msx185_s (0) (0) h hL6 → zwW sc (6) 185 12 [(2, 1), (0, v2), (0, tL6), (0, kL6), w4L6, w5L6] [] hL6 (zwRt 0 (fun x g => CI g ∧ zXR msx185_s (0) (0) h g ∧ (-2147483648 ≤ x ∧ x ≤ 2147483647) ∧ (zX g (ySN S (yEp S) (S 37 2).toNat) ∧ x = yTo S (yEp S) (S 37 2).toNat ∧ zPf h g))) := by
    intro n
    induction n using Nat.strongRecOn with
    | ind n IHL6 =>
      intro tL6 kL6 w4L6 w5L6 hL6 hnL6 iL6_0 iL6_1 iL6_2 iL6_3 iL6_4 iL6_5 ChL6 XhL6
      refine zwW_p [(1, 3, 0), (1, 0, 2)] (q := 14) (ls' := [(2, 1), (0, v2), (0, tL6), (0, kL6), w4L6, w5L6]) (st' := [(2, 1), (0, kL6)]) (by decide +kernel) rfl ?_
      refine zwW_gc ChL6.1 (kd := 12) (bn := 3) (n := 13) (c := 3) (nx := 17) (by decide +kernel) ?_
      refine zwW_cm ChL6.1 (op := 60) (k' := 96) (n := 0) (kd := 0) (m := 3) (nx := 20) (r := 3) (tl := []) (st' := [(0, kL6)]) (by decide +kernel) rfl (by decide +kernel) rfl (x96_3 ChL6) ?_
      rintro v7 _ ⟨rfl, ev7⟩
      have bv7 := zLb_3 ChL6
      refine zwic_ge (q := 129) (nx := 23) (by decide +kernel) (fun c8 => ?_) (fun c8 => ?_)
      · refine zwW_p [(1, 2, 0)] (q := 130) (ls' := [(2, 1), (0, v2), (0, tL6), (0, kL6), w4L6, w5L6]) (st' := [(0, tL6)]) (by decide +kernel) rfl ?_
        refine zwW_ret (nx := 131) (a := 0) (b := 0) (by decide +kernel) rfl (Or.inl rfl) ?_
        exact ⟨ChL6, XhL6.le (by decide) (by decide), by omega, by have q := iL6_0.1.2.1; have r : ySN S (yEp S) (kL6).toNat 37 2 = S 37 2 := ySN_ne (by decide) (Or.inr (by decide)) _; rw [show (S 37 2).toNat = (kL6).toNat by omega]; exact ⟨iL6_0, iL6_1, iL6_3⟩⟩
      · refine zwW_p [(1, 0, 2)] (q := 24) (ls' := [(2, 1), (0, v2), (0, tL6), (0, kL6), w4L6, w5L6]) (st' := [(2, 1)]) (by decide +kernel) rfl ?_
        refine zwW_gc ChL6.1 (kd := 12) (bn := 3) (n := 13) (c := 3) (nx := 27) (by decide +kernel) ?_
        refine zwW_p [(1, 3, 0)] (q := 28) (ls' := [(2, 1), (0, v2), (0, tL6), (0, kL6), w4L6, w5L6]) (st' := [(0, kL6), (2, 3)]) (by decide +kernel) rfl ?_
        refine zwW_cm ChL6.1 (op := 60) (k' := 123) (n := 1) (kd := 0) (m := 3) (nx := 31) (r := 3) (tl := [(0, kL6)]) (st' := []) (by decide +kernel) rfl (by decide +kernel) rfl (x123_3 ChL6 (i := kL6) ⟨by omega, by omega⟩) ?_
        rintro v9 _ ⟨rfl, Gv9, ev9⟩
        have lv9 := Gv9.1
        refine zwW_cast (a := 4) (kd := 4) (n := 19) (nx := 34) (by decide +kernel) rfl (Or.inr Gv9.2.1) ?_
        refine zwW_p [(2, 4, 2)] (q := 36) (ls' := [(2, 1), (0, v2), (0, tL6), (0, kL6), (2, v9), w5L6]) (st' := []) (by decide +kernel) rfl ?_
        have q36 := iL6_0.1.2.1
        have r36 : ySN S (yEp S) (kL6).toNat 37 2 = S 37 2 := ySN_ne (by decide) (Or.inr (by decide)) _
        have BT := B0.sn E4 (kL6).toNat (by omega)
        have KT : (((kL6).toNat : Nat) : Int) < ySN S (yEp S) (kL6).toNat 37 2 := by omega
        have P36 : v9 = zv hL6 3 (kL6).toNat := ev9
        have ET : yEp (ySN S (yEp S) (kL6).toNat) = yEp S := by unfold yEp; rw [ySN_ne (by decide) (Or.inr (by decide))]
        have UB := yX_b BT E4 KT
        have YT : yTo S (yEp S) ((kL6).toNat + 1) = yTo S (yEp S) (kL6).toNat + yX (ySN S (yEp S) (kL6).toNat) (yEp S) (kL6).toNat := rfl
        have TB := yTo_b B0 E4 ((kL6).toNat + 1) (by omega)
        refine zwW_p [(1, 4, 2), (12, 0, 0)] (q := 39) (ls' := [(2, 1), (0, v2), (0, tL6), (0, kL6), (2, v9), w5L6]) (st' := [(2, v9), (2, v9)]) (by decide +kernel) rfl ?_
        refine zwX_gi ChL6 (kd := 4) (bn := 18) (n := 19) (nx := 42) (by decide +kernel) Gv9.2.1 Gv9.1 rfl ?_
        intro v10 ev10 lv10 uv10
        refine zwW_p [(1, 4, 2), (1, 1, 0)] (q := 45) (ls' := [(2, 1), (0, v2), (0, tL6), (0, kL6), (2, v9), w5L6]) (st' := [(0, v2), (2, v9), (0, v10), (2, v9)]) (by decide +kernel) rfl ?_
        refine zwW_cv (op := 60) (k' := 230) (n := 1) (kd := 4) (m := 19) (nx := 48) (r := v9) (tl := [(0, v2)]) (st' := [(0, v10), (2, v9)]) (by decide +kernel) rfl (by decide +kernel) Gv9.2.1 (x230 hL6 ChL6 v9 v2 Gv9 (by omega)) rfl ?_
        rintro v11 _ ⟨rfl, f12⟩
        refine zwW_adw (nx := 49) (by decide +kernel) ?_
        intro v13 ev13 lv13 uv13
        have Ev13 : v13 = w32 ((fld hL6 v9 18) + v11) := by rw [ev13, ev10]
        refine zwX_pi ChL6 (kd := 4) (bn := 18) (n := 19) (nx := 52) (by decide +kernel) Gv9.2.1 Gv9.1 ⟨by omega, by omega⟩ ?_
        rintro h14 eh14 Ch14 Qh14
        have Xh14 : zXR msx185_s (0) (0) h h14 := XhL6.tr (c2 := 0) (s2 := 0) Qh14 (by decide +kernel) (by decide) (by decide)
        have Gh14_0 : gH h14 v9 := Gv9.x Qh14
        have th14_4_2 : fld h14 4 2 = fld hL6 4 2 := Qh14.f (a1 := 4) (a2 := 4) (j1 := 2) (j2 := 3) (by decide +kernel) ⟨by decide, by decide⟩ ⟨by decide, by decide⟩ ⟨by decide, by decide⟩
        have XKh14 : zX h14 (ySN S (yEp S) (kL6).toNat) := iL6_0.kq BT.v.1 BT.v.2 ChL6 Qh14 (by decide +kernel)
        have XPh14 : zPf h h14 := iL6_3.kp ChL6 Qh14 (by decide +kernel)
        have P52 : v9 = zv h14 3 (kL6).toNat := P36.trans (Qh14.v ChL6 (A := 3) (by decide) (by decide +kernel) (show (((kL6).toNat : Nat) : Int) < fld hL6 3 2 by omega)).symm
        refine zwW_p [(1, 0, 2), (1, 4, 2)] (q := 55) (ls' := [(2, 1), (0, v2), (0, tL6), (0, kL6), (2, v9), w5L6]) (st' := [(2, v9), (2, 1)]) (by decide +kernel) rfl ?_
        refine zwW_cm Ch14.1 (op := 60) (k' := 170) (n := 1) (kd := 12) (m := 13) (nx := 58) (r := 1) (tl := [(2, v9)]) (st' := []) (by decide +kernel) rfl (by decide +kernel) rfl (x170_s h14 Ch14 v9 (ySN S (yEp S) (kL6).toNat) (kL6).toNat Gh14_0 XKh14 BT KT P52) ?_
        rintro v15 _ ⟨rfl, f16, f17, f18⟩
        have U58 := f18.1
        rw [ET] at U58
        refine zwW_p [(2, 5, 0), (1, 5, 0)] (q := 62) (ls' := [(2, 1), (0, v2), (0, tL6), (0, kL6), (2, v9), (0, v15)]) (st' := [(0, v15)]) (by decide +kernel) rfl ?_
        refine zwif_le (q := 123) (nx := 65) (by decide +kernel) (fun c19 => ?_) (fun c19 => ?_)
        · have Z126 : zX h14 (ySN S (yEp S) (kL6 + 1).toNat) := by
            rw [show (kL6 + 1).toNat = (kL6).toNat + 1 by omega]
            show zX h14 (yS1 (ySN S (yEp S) (kL6).toNat) (yEp S) (kL6).toNat)
            first
            | (rw [yS1_0 (by omega)]; exact XKh14)
            | (rw [yS1_p (by omega)]; exact X117)
          have P126 : zPf h h14 := by first | exact XPh14 | exact P117
          have Y126 : tL6 = yTo S (yEp S) (kL6 + 1).toNat := by rw [show (kL6 + 1).toNat = (kL6).toNat + 1 by omega, YT]; omega
          refine zwW_inc (i := 3) (c := 1) (x := kL6) (nx := 126) (by decide +kernel) rfl ⟨by omega, by omega⟩ (ls' := [(2, 1), (0, v2), (0, tL6), (0, (kL6 + 1)), (2, v9), (0, v15)]) rfl ?_
          refine zwW_p [(24, 12, 0)] (q := 12) (ls' := [(2, 1), (0, v2), (0, tL6), (0, (kL6 + 1)), (2, v9), (0, v15)]) (st' := []) (by decide +kernel) rfl ?_
          exact IHL6 ((1000 - (kL6 + 1))).toNat (by omega) tL6 (kL6 + 1) (2, v9) (0, v15) h14 rfl (Z126) (Y126) (by omega) (P126) (by omega) (by omega) Ch14 (Xh14.le (by decide) (by decide))
        · have X65 := XKh14
          obtain ⟨w1, w2, w3, w4⟩ := X65.2.2.1 (kL6).toNat KT
          rw [← P52] at w1 w2 w3 w4
          have B4 := BT.1 (kL6).toNat KT
          obtain ⟨u0, u1, u2, u3⟩ := X65.2.1 ((ySN S (yEp S) (kL6).toNat) 79 (kL6).toNat).toNat (by omega)
          rw [← w4] at u0 u1 u2 u3
          have bc := (BT.2.1 ((ySN S (yEp S) (kL6).toNat) 79 (kL6).toNat).toNat (by omega)).1
          refine zwW_p [(1, 4, 2)] (q := 67) (ls' := [(2, 1), (0, v2), (0, tL6), (0, kL6), (2, v9), (0, v15)]) (st' := [(2, v9)]) (by decide +kernel) rfl ?_
          refine zwW_get (kd := 4) (bn := 1) (t := 2) (n := 19) (nx := 70) (by decide +kernel) Gh14_0.2.1 rfl ?_
          obtain ⟨v20, ev20⟩ : ∃ z, z = fld h14 v9 1 := ⟨_, rfl⟩
          rw [← ev20]
          have Gv20 : gV h14 v20 := by rw [ev20]; exact Gh14_0.2.2
          have lv20 := Gv20.1
          rw [← ev20] at u0 u1 u2 u3 w4
          refine zwW_p [(12, 0, 0)] (q := 71) (ls' := [(2, 1), (0, v2), (0, tL6), (0, kL6), (2, v9), (0, v15)]) (st' := [(2, v20), (2, v20)]) (by decide +kernel) rfl ?_
          refine zwX_gi Ch14 (kd := 11) (bn := 3) (n := 17) (nx := 74) (by decide +kernel) Gv20.2.1 Gv20.1 rfl ?_
          intro v21 ev21 lv21 uv21
          refine zwW_p [(1, 5, 0), (1, 4, 2)] (q := 78) (ls' := [(2, 1), (0, v2), (0, tL6), (0, kL6), (2, v9), (0, v15)]) (st' := [(2, v9), (0, v15), (0, v21), (2, v20)]) (by decide +kernel) rfl ?_
          refine zwX_gi Ch14 (kd := 4) (bn := 7) (n := 19) (nx := 81) (by decide +kernel) Gh14_0.2.1 Gh14_0.1 rfl ?_
          intro v22 ev22 lv22 uv22
          refine zwW_cs (k' := 151) (n := 2) (nx := 84) (as := [(0, v15), (0, v22)]) (st' := [(0, v21), (2, v20)]) (by decide +kernel) rfl (x151_s h14 Ch14 v15 v22 (by omega) (by omega) (by omega) (by omega)) rfl ?_
          rintro v23 _ ⟨rfl, f24, f25⟩
          refine zwW_sub (nx := 85) (by decide +kernel) ⟨by omega, by omega⟩ ?_
          have V85 : v21 - v23 = (ySN S (yEp S) (kL6).toNat) 66 ((ySN S (yEp S) (kL6).toNat) 79 (kL6).toNat).toNat - (yX (ySN S (yEp S) (kL6).toNat) (yEp S) (kL6).toNat + (ySN S (yEp S) (kL6).toNat) 85 (kL6).toNat - 1) / (ySN S (yEp S) (kL6).toNat) 85 (kL6).toNat := by
            obtain ⟨f1, -, -⟩ := f25
            rw [← U58, ← w3, ← u1]
            subst_vars
            rfl
          refine zwX_pi Ch14 (kd := 11) (bn := 3) (n := 17) (nx := 88) (by decide +kernel) Gv20.2.1 Gv20.1 ⟨by omega, by omega⟩ ?_
          rintro h26 eh26 Ch26 Qh26
          have Xh26 : zXR msx185_s (0) (0) h h26 := Xh14.tr (c2 := 0) (s2 := 0) Qh26 (by decide +kernel) (by decide) (by decide)
          have Gh26_0 : gH h26 v9 := Gh14_0.x Qh26
          have th26_4_2 : fld h26 4 2 = fld h14 4 2 := Qh26.f (a1 := 4) (a2 := 4) (j1 := 2) (j2 := 3) (by decide +kernel) ⟨by decide, by decide⟩ ⟨by decide, by decide⟩ ⟨by decide, by decide⟩
          have XPh26 : zPf h h26 := XPh14.kp Ch14 Qh26 (by decide +kernel)
          have X88 := X65.ct BT Ch14 eh26 Qh26 (show (((((ySN S (yEp S) (kL6).toNat) 79 (kL6).toNat).toNat : Nat) : Int)) < (ySN S (yEp S) (kL6).toNat) 37 1 by omega) w4
          rw [V85] at X88
          refine zwW_p [(1, 0, 2)] (q := 89) (ls' := [(2, 1), (0, v2), (0, tL6), (0, kL6), (2, v9), (0, v15)]) (st' := [(2, 1)]) (by decide +kernel) rfl ?_
          refine zwW_gc Ch26.1 (kd := 12) (bn := 4) (n := 13) (c := 4) (nx := 92) (by decide +kernel) ?_
          refine zwW_new (kd := 6) (n := 7) (nx := 95) (by decide +kernel) rfl rfl ?_
          rintro h27 r28 eh27 er28
          have Oh27 : zOld h26 h27 := by rw [eh27]; exact zOld.app _
          have Yh27 : zDy h27 := by rw [eh27]; exact Ch26.2.1.app (fun x hx => by rw [List.eq_of_mem_replicate hx]; decide)
          have Ch27 : CI h27 := Ch26.old Oh27 Yh27
          have Xh27 := Oh27.X Ch26
          have th27_4_2 : fld h27 4 2 = fld h26 4 2 := Xh27.f (a1 := 4) (a2 := 4) (j1 := 2) (j2 := 3) (by decide +kernel) ⟨by decide, by decide⟩ ⟨by decide, by decide⟩ ⟨by decide, by decide⟩
          have Gh27_0 : gH h27 v9 := Gh26_0.x Xh27
          refine zwW_p [(12, 0, 0), (1, 0, 2)] (q := 97) (ls' := [(2, 1), (0, v2), (0, tL6), (0, kL6), (2, v9), (0, v15)]) (st' := [(2, 1), (2, r28), (2, r28), (2, 4)]) (by decide +kernel) rfl ?_
          refine zwW_gc Ch27.1 (kd := 12) (bn := 4) (n := 13) (c := 4) (nx := 100) (by decide +kernel) ?_
          refine zwW_cm Ch27.1 (op := 60) (k' := 96) (n := 0) (kd := 0) (m := 3) (nx := 103) (r := 4) (tl := []) (st' := [(2, r28), (2, r28), (2, 4)]) (by decide +kernel) rfl (by decide +kernel) rfl (x96_4 Ch27) ?_
          rintro v29 _ ⟨rfl, ev29⟩
          have bv29 := zLb_4 Ch27
          refine zwW_p [(1, 4, 2), (1, 0, 2)] (q := 106) (ls' := [(2, 1), (0, v2), (0, tL6), (0, kL6), (2, v9), (0, v15)]) (st' := [(2, 1), (2, v9), (0, v29), (2, r28), (2, r28), (2, 4)]) (by decide +kernel) rfl ?_
          refine zwW_gs Ch27.1 (kd := 12) (bn := 0) (n := 13) (t := 0) (lo := 0) (hi := 156) (nx := 109) (by decide +kernel) ?_
          intro v30 ev30 lv30 uv30
          refine zwW_p [(1, 5, 0)] (q := 111) (ls' := [(2, 1), (0, v2), (0, tL6), (0, kL6), (2, v9), (0, v15)]) (st' := [(0, v15), (0, v30), (2, v9), (0, v29), (2, r28), (2, r28), (2, 4)]) (by decide +kernel) rfl ?_
          subst er28 eh27
          refine zwW_cvv (op := 62) (k' := 231) (n := 4) (kd := 6) (m := 7) (nx := 114) (r := ((h26.length + 1 : Nat) : Int)) (tl := [(0, v29), (2, v9), (0, v30), (0, v15)]) (st' := [(2, ((h26.length + 1 : Nat) : Int)), (2, 4)]) (by decide +kernel) rfl (by decide +kernel) (sh_new _ _) (x231 h26 Ch26 v29 v9 v30 v15 (by omega) (by omega) (by omega) Gh26_0 (fun g O Cg => x169 g Cg v9 (Gh26_0.x (O.X Ch26)))) rfl ?_
          rintro h31 ⟨Ch31, Qh31, Nh31, Fh31_0⟩
          obtain ⟨nr28, err28⟩ : ∃ z, z = ((h26.length + 1 : Nat) : Int) := ⟨_, rfl⟩
          rw [← err28] at Nh31 ⊢
          try rw [← err28] at Fh31_0
          have Xh31 : zXR msx185_s (1) (7) h h31 := Xh26.tr (c2 := 1) (s2 := 7) Qh31 (by decide +kernel) (by decide) (by decide)
          have Gh31_0 : gH h31 v9 := Gh26_0.x Qh31
          have th31_4_2 : fld h31 4 2 = fld h26 4 2 := Qh31.f (a1 := 4) (a2 := 4) (j1 := 2) (j2 := 3) (by decide +kernel) ⟨by decide, by decide⟩ ⟨by decide, by decide⟩ ⟨by decide, by decide⟩
          have XKh31 : zX h31 (zs (ySN S (yEp S) (kL6).toNat) 66 ((ySN S (yEp S) (kL6).toNat) 79 (kL6).toNat).toNat ((ySN S (yEp S) (kL6).toNat) 66 ((ySN S (yEp S) (kL6).toNat) 79 (kL6).toNat).toNat - (yX (ySN S (yEp S) (kL6).toNat) (yEp S) (kL6).toNat + (ySN S (yEp S) (kL6).toNat) 85 (kL6).toNat - 1) / (ySN S (yEp S) (kL6).toNat) 85 (kL6).toNat)) := X88.kq BT.v.1 BT.v.2 Ch26 Qh31 (by decide +kernel)
          have XPh31 : zPf h h31 := XPh26.kp Ch26 Qh31 (by decide +kernel)
          have lnr28 := Nh31.1
          refine zwW_cm Ch31.1 (op := 60) (k' := 100) (n := 1) (kd := 0) (m := 3) (nx := 117) (r := 4) (tl := [(2, nr28)]) (st' := []) (by decide +kernel) rfl (by decide +kernel) rfl (x100_4 Ch31 Nh31 (by omega) (by have := Xh31.hl C Ch31 (by decide) hl; omega)) ?_
          rintro x h33 ⟨rfl, Ah33⟩
          have Ch33 := Ah33.1
          have Qh33 : zXR [(4, 4, 0, 3)] (-1) (-7) h31 h33 := Ah33.2.1
          have zh33 : fld h33 4 2 = fld h31 4 2 + 1 := Ah33.2.2.1
          have Xh33 : zXR msx185_s (0) (0) h h33 := Xh31.tr (c2 := 0) (s2 := 0) Qh33 (by decide +kernel) (by decide) (by decide)
          have Gh33_0 : gH h33 v9 := Gh31_0.x Qh33
          have X117 := XKh31.lot BT.v.1 BT.v.2 Ch31 Ah33 Nh31 (by obtain ⟨zz, hz⟩ := Fh31_0; rw [fld_of hz]; show v29 = ySN S (yEp S) (kL6).toNat 37 64; have := iL6_0.1.2.2.1; omega)
          have P117 := XPh31.ad Ah33
          refine zwW_p [(15, 0, 0), (1, 2, 0), (1, 5, 0)] (q := 121) (ls' := [(2, 1), (0, v2), (0, tL6), (0, kL6), (2, v9), (0, v15)]) (st' := [(0, v15), (0, tL6)]) (by decide +kernel) rfl ?_
          refine zwW_add (nx := 122) (by decide +kernel) ⟨by omega, by omega⟩ ?_
          refine zwW_p [(2, 2, 0)] (q := 123) (ls' := [(2, 1), (0, v2), (0, (tL6 + v15)), (0, kL6), (2, v9), (0, v15)]) (st' := []) (by decide +kernel) rfl ?_
          have Z126 : zX h33 (ySN S (yEp S) (kL6 + 1).toNat) := by
            rw [show (kL6 + 1).toNat = (kL6).toNat + 1 by omega]
            show zX h33 (yS1 (ySN S (yEp S) (kL6).toNat) (yEp S) (kL6).toNat)
            first
            | (rw [yS1_0 (by omega)]; exact XKh31)
            | (rw [yS1_p (by omega)]; exact X117)
          have P126 : zPf h h33 := by first | exact XPh31 | exact P117
          have Y126 : (tL6 + v15) = yTo S (yEp S) (kL6 + 1).toNat := by rw [show (kL6 + 1).toNat = (kL6).toNat + 1 by omega, YT]; omega
          refine zwW_inc (i := 3) (c := 1) (x := kL6) (nx := 126) (by decide +kernel) rfl ⟨by omega, by omega⟩ (ls' := [(2, 1), (0, v2), (0, (tL6 + v15)), (0, (kL6 + 1)), (2, v9), (0, v15)]) rfl ?_
          refine zwW_p [(24, 12, 0)] (q := 12) (ls' := [(2, 1), (0, v2), (0, (tL6 + v15)), (0, (kL6 + 1)), (2, v9), (0, v15)]) (st' := []) (by decide +kernel) rfl ?_
          exact IHL6 ((1000 - (kL6 + 1))).toNat (by omega) (tL6 + v15) (kL6 + 1) (2, v9) (0, v15) h33 rfl (Z126) (Y126) (by omega) (P126) (by omega) (by omega) Ch33 (Xh33.le (by decide) (by decide))
  exact L6 _ 0 0 (9, 0) (9, 0) h rfl (X0) (rfl) (by omega) (zPf.rf) (by omega) (by omega) C (X.le (by decide) (by decide))
def msx113_s : Zms := [(1, 1, 0, 1), (1, 1, 1, 2), (4, 4, 0, 3), (17, 17, 0, 13), (18, 18, 0, 400), (34, 34, 2, 3), (35, 35, 0, 936), (36, 36, 0, 8), (1004, 1004, 6, 7), (1004, 1004, 8, 9), (1004, 1004, 9, 10), (1004, 1004, 10, 11), (1004, 1004, 14, 15), (1004, 1004, 15, 16), (1004, 1004, 18, 19), (1011, 1011, 3, 4), (1011, 1011, 4, 5), (1011, 1011, 5, 6), (1011, 1011, 6, 7), (1011, 1011, 7, 8), (1011, 1011, 9, 10), (1011, 1011, 10, 11), (1011, 1011, 13, 14), (1011, 1011, 14, 15), (1011, 1011, 15, 16), (1020, 1020, 0, 100000)]
-- WheelLand.endWeek()V
theorem x113_s {sc : List Int} (h : Hp) (C : CI h) (S : zT) (p1 : fld h 1 0 < 156) (X0 : zX h S) (B0 : zBs S) (hl : h.length ≤ 999920000) : zwC sc 8 113 [(2, 1)] h (zwRv (fun g => CI g ∧ zXR msx113_s (0) (0) h g ∧ (zX g (yWk S)) ∧ (zPf h g) ∧ (fld g 1 0 = fld h 1 0 + 1))) := by
  refine zwC_of (D := 7) 2 (by decide +kernel) rfl (ls := [(2, 1), (9, 0)]) rfl ?_
  have X : zXR msx113_s 0 0 h h := zXR.rf _ _
  have n0 := X0.1.2.2.2
  have BN := B0.sn (yEp_4 (S := S)) (S 37 2).toNat (by have := B0.2.2.2.2.2; omega)
  refine zwW_p [(1, 0, 2)] (q := 1) (ls' := [(2, 1), (9, 0)]) (st' := [(2, 1)]) (by decide +kernel) rfl ?_
  refine zwW_cm C.1 (op := 60) (k' := 185) (n := 0) (kd := 12) (m := 13) (nx := 4) (r := 1) (tl := []) (st' := []) (by decide +kernel) rfl (by decide +kernel) rfl (x185_s h C S X0 B0 (by omega)) ?_
  rintro v3 h4 ⟨Ch4, Qh4, f1, f2⟩
  have Xh4 : zXR msx113_s (0) (0) h h4 := X.tr (c2 := 0) (s2 := 0) Qh4 (by decide +kernel) (by decide) (by decide)
  have th4_1_0 : fld h4 1 0 = fld h 1 0 := Qh4.f (a1 := 1) (a2 := 1) (j1 := 0) (j2 := 1) (by decide +kernel) ⟨by decide, by decide⟩ ⟨by decide, by decide⟩ ⟨by decide, by decide⟩
  have X4 := f2.1
  refine zwW_p [(2, 1, 0), (1, 0, 2)] (q := 6) (ls' := [(2, 1), (0, v3)]) (st' := [(2, 1)]) (by decide +kernel) rfl ?_
  refine zwW_cmv Ch4.1 (op := 60) (k' := 186) (n := 0) (kd := 12) (m := 13) (nx := 9) (r := 1) (tl := []) (st' := []) (by decide +kernel) rfl (by decide +kernel) rfl (x186 h4 Ch4) ?_
  rintro h5 ⟨Ch5, Qh5⟩
  have Xh5 : zXR msx113_s (0) (0) h h5 := Xh4.tr (c2 := 0) (s2 := 0) Qh5 (by decide +kernel) (by decide) (by decide)
  have th5_1_0 : fld h5 1 0 = fld h4 1 0 := Qh5.f (a1 := 1) (a2 := 1) (j1 := 0) (j2 := 1) (by decide +kernel) ⟨by decide, by decide⟩ ⟨by decide, by decide⟩ ⟨by decide, by decide⟩
  have XKh5 : zX h5 (ySN S (yEp S) (S 37 2).toNat) := X4.kq BN.v.1 BN.v.2 Ch4 Qh5 (by decide +kernel)
  have XPh5 : zPf h h5 := f2.2.2.kp Ch4 Qh5 (by decide +kernel)
  refine zwW_p [(1, 0, 2)] (q := 10) (ls' := [(2, 1), (0, v3)]) (st' := [(2, 1)]) (by decide +kernel) rfl ?_
  refine zwW_cmv Ch5.1 (op := 60) (k' := 187) (n := 0) (kd := 12) (m := 13) (nx := 13) (r := 1) (tl := []) (st' := []) (by decide +kernel) rfl (by decide +kernel) rfl (x187 h5 Ch5) ?_
  rintro h6 ⟨Ch6, Qh6⟩
  have Xh6 : zXR msx113_s (0) (0) h h6 := Xh5.tr (c2 := 0) (s2 := 0) Qh6 (by decide +kernel) (by decide) (by decide)
  have th6_1_0 : fld h6 1 0 = fld h5 1 0 := Qh6.f (a1 := 1) (a2 := 1) (j1 := 0) (j2 := 1) (by decide +kernel) ⟨by decide, by decide⟩ ⟨by decide, by decide⟩ ⟨by decide, by decide⟩
  have XKh6 : zX h6 (ySN S (yEp S) (S 37 2).toNat) := XKh5.kq BN.v.1 BN.v.2 Ch5 Qh6 (by decide +kernel)
  have XPh6 : zPf h h6 := XPh5.kp Ch5 Qh6 (by decide +kernel)
  refine zwW_p [(1, 0, 2)] (q := 14) (ls' := [(2, 1), (0, v3)]) (st' := [(2, 1)]) (by decide +kernel) rfl ?_
  refine zwW_gs Ch6.1 (kd := 12) (bn := 0) (n := 13) (t := 0) (lo := 0) (hi := 156) (nx := 17) (by decide +kernel) ?_
  intro v7 ev7 lv7 uv7
  refine zwW_p [(0, 13, 0)] (q := 19) (ls' := [(2, 1), (0, v3)]) (st' := [(0, 13), (0, v7)]) (by decide +kernel) rfl ?_
  refine zwW_rem (nx := 20) (by decide +kernel) (by omega) (by omega) ?_
  refine zwW_p [(0, 12, 0)] (q := 22) (ls' := [(2, 1), (0, v3)]) (st' := [(0, 12), (0, (v7 % 13))]) (by decide +kernel) rfl ?_
  refine zwic_ne (q := 33) (nx := 25) (by decide +kernel) (fun c8 => ?_) (fun c8 => ?_)
  · refine zwW_p [(1, 0, 2)] (q := 34) (ls' := [(2, 1), (0, v3)]) (st' := [(2, 1)]) (by decide +kernel) rfl ?_
    refine zwW_gc Ch6.1 (kd := 12) (bn := 11) (n := 13) (c := 34) (nx := 37) (by decide +kernel) ?_
    refine zwW_p [(1, 0, 2)] (q := 38) (ls' := [(2, 1), (0, v3)]) (st' := [(2, 1), (2, 34)]) (by decide +kernel) rfl ?_
    refine zwW_gs Ch6.1 (kd := 12) (bn := 0) (n := 13) (t := 0) (lo := 0) (hi := 156) (nx := 41) (by decide +kernel) ?_
    intro v9 ev9 lv9 uv9
    refine zwW_p [(1, 0, 2)] (q := 42) (ls' := [(2, 1), (0, v3)]) (st' := [(2, 1), (0, v9), (2, 34)]) (by decide +kernel) rfl ?_
    refine zwW_cm Ch6.1 (op := 60) (k' := 190) (n := 0) (kd := 12) (m := 13) (nx := 45) (r := 1) (tl := []) (st' := [(0, v9), (2, 34)]) (by decide +kernel) rfl (by decide +kernel) rfl (x190 h6 Ch6) ?_
    rintro v10 _ ⟨rfl, f11⟩
    refine zwW_p [(1, 1, 0), (1, 0, 2)] (q := 47) (ls' := [(2, 1), (0, v3)]) (st' := [(2, 1), (0, v3), (0, v10), (0, v9), (2, 34)]) (by decide +kernel) rfl ?_
    refine zwW_cm Ch6.1 (op := 60) (k' := 191) (n := 0) (kd := 12) (m := 13) (nx := 50) (r := 1) (tl := []) (st' := [(0, v3), (0, v10), (0, v9), (2, 34)]) (by decide +kernel) rfl (by decide +kernel) rfl (x191 h6 Ch6) ?_
    rintro v12 _ ⟨rfl, f13⟩
    refine zwW_cmv Ch6.1 (op := 60) (k' := 192) (n := 4) (kd := 5) (m := 4) (nx := 53) (r := 34) (tl := [(0, v9), (0, v10), (0, v3), (0, v12)]) (st' := []) (by decide +kernel) rfl (by decide +kernel) rfl (x192 h6 Ch6 v9 v10 v3 v12 (by omega) (by omega) (by omega) (by omega) (by omega)) ?_
    rintro h14 ⟨Ch14, Qh14⟩
    have Xh14 : zXR msx113_s (0) (0) h h14 := Xh6.tr (c2 := 0) (s2 := 0) Qh14 (by decide +kernel) (by decide) (by decide)
    have th14_1_0 : fld h14 1 0 = fld h6 1 0 := Qh14.f (a1 := 1) (a2 := 1) (j1 := 0) (j2 := 1) (by decide +kernel) ⟨by decide, by decide⟩ ⟨by decide, by decide⟩ ⟨by decide, by decide⟩
    have XKh14 : zX h14 (ySN S (yEp S) (S 37 2).toNat) := XKh6.kq BN.v.1 BN.v.2 Ch6 Qh14 (by decide +kernel)
    have XPh14 : zPf h h14 := XPh6.kp Ch6 Qh14 (by decide +kernel)
    refine zwW_p [(1, 0, 2), (12, 0, 0)] (q := 55) (ls' := [(2, 1), (0, v3)]) (st' := [(2, 1), (2, 1)]) (by decide +kernel) rfl ?_
    refine zwW_gs Ch14.1 (kd := 12) (bn := 0) (n := 13) (t := 0) (lo := 0) (hi := 156) (nx := 58) (by decide +kernel) ?_
    intro v15 ev15 lv15 uv15
    refine zwW_p [(0, 1, 0)] (q := 59) (ls' := [(2, 1), (0, v3)]) (st' := [(0, 1), (0, v15), (2, 1)]) (by decide +kernel) rfl ?_
    refine zwW_add (nx := 60) (by decide +kernel) ⟨by omega, by omega⟩ ?_
    have X60 := XKh14
    refine zwW_ps Ch14.1 (kd := 12) (bn := 0) (n := 13) (lo := 0) (hi := 156) (nx := 63) (by decide +kernel) ⟨by omega, by omega⟩ ?_
    intro h16 eh16 Ih16
    have Ch16 : CI h16 := Ch14.wc eh16 Ih16 (by decide) (by decide)
    have Qh16 : zXR [(1, 1, 0, 1)] 0 0 h14 h16 := zXR.wc eh16 rfl ⟨by decide, by decide, Or.inl (by decide)⟩ ⟨by decide, by decide⟩
    have Xh16 : zXR msx113_s (0) (0) h h16 := Xh14.tr (c2 := 0) (s2 := 0) Qh16 (by decide +kernel) (by decide) (by decide)
    have XPh16 : zPf h h16 := XPh14.kp Ch14 Qh16 (by decide +kernel)
    have th16_1_0 : fld h16 1 0 = (v15 + 1) := by rw [eh16]; exact fld_wr_eq (Ch14.1.s (a1 := 1) (a2 := 1) (k := 12) (n := 13) (by decide +kernel) (by decide) (by decide)) (by decide)
    have X63 := X60.now BN Ch14 eh16 Qh16 (Ch14.1.s (a1 := 1) (a2 := 1) (k := 12) (n := 13) (by decide +kernel) (by decide) (by decide))
    refine zwW_p [(1, 0, 2)] (q := 64) (ls' := [(2, 1), (0, v3)]) (st' := [(2, 1)]) (by decide +kernel) rfl ?_
    refine zwW_cmv Ch16.1 (op := 60) (k' := 193) (n := 0) (kd := 12) (m := 13) (nx := 67) (r := 1) (tl := []) (st' := []) (by decide +kernel) rfl (by decide +kernel) rfl (x193 h16 Ch16) ?_
    rintro h17 ⟨Ch17, Qh17⟩
    have Xh17 : zXR msx113_s (0) (0) h h17 := Xh16.tr (c2 := 0) (s2 := 0) Qh17 (by decide +kernel) (by decide) (by decide)
    have th17_1_0 : fld h17 1 0 = fld h16 1 0 := Qh17.f (a1 := 1) (a2 := 1) (j1 := 0) (j2 := 1) (by decide +kernel) ⟨by decide, by decide⟩ ⟨by decide, by decide⟩ ⟨by decide, by decide⟩
    have XKh17 : zX h17 (zs (ySN S (yEp S) (S 37 2).toNat) 37 0 (v15 + 1)) := X63.kq BN.v.1 BN.v.2 Ch16 Qh17 (by decide +kernel)
    have XPh17 : zPf h h17 := XPh16.kp Ch16 Qh17 (by decide +kernel)
    refine zwW_retv (nx := 68) (a := 0) (b := 0) (by decide +kernel) ?_
    exact ⟨Ch17, Xh17.le (by decide) (by decide), by unfold yWk; rw [show S 37 0 + 1 = (v15 + 1) by omega]; exact XKh17, by exact XPh17, by omega⟩
  · refine zwW_p [(1, 0, 2)] (q := 26) (ls' := [(2, 1), (0, v3)]) (st' := [(2, 1)]) (by decide +kernel) rfl ?_
    refine zwW_cmv Ch6.1 (op := 60) (k' := 188) (n := 0) (kd := 12) (m := 13) (nx := 29) (r := 1) (tl := []) (st' := []) (by decide +kernel) rfl (by decide +kernel) rfl (x188 h6 Ch6) ?_
    rintro h18 ⟨Ch18, Qh18⟩
    have Xh18 : zXR msx113_s (0) (0) h h18 := Xh6.tr (c2 := 0) (s2 := 0) Qh18 (by decide +kernel) (by decide) (by decide)
    have th18_1_0 : fld h18 1 0 = fld h6 1 0 := Qh18.f (a1 := 1) (a2 := 1) (j1 := 0) (j2 := 1) (by decide +kernel) ⟨by decide, by decide⟩ ⟨by decide, by decide⟩ ⟨by decide, by decide⟩
    have XKh18 : zX h18 (ySN S (yEp S) (S 37 2).toNat) := XKh6.kq BN.v.1 BN.v.2 Ch6 Qh18 (by decide +kernel)
    have XPh18 : zPf h h18 := XPh6.kp Ch6 Qh18 (by decide +kernel)
    refine zwW_p [(1, 0, 2)] (q := 30) (ls' := [(2, 1), (0, v3)]) (st' := [(2, 1)]) (by decide +kernel) rfl ?_
    refine zwW_cmv Ch18.1 (op := 60) (k' := 189) (n := 0) (kd := 12) (m := 13) (nx := 33) (r := 1) (tl := []) (st' := []) (by decide +kernel) rfl (by decide +kernel) rfl (x189 h18 Ch18) ?_
    rintro h19 ⟨Ch19, Qh19⟩
    have Xh19 : zXR msx113_s (0) (0) h h19 := Xh18.tr (c2 := 0) (s2 := 0) Qh19 (by decide +kernel) (by decide) (by decide)
    have th19_1_0 : fld h19 1 0 = fld h18 1 0 := Qh19.f (a1 := 1) (a2 := 1) (j1 := 0) (j2 := 1) (by decide +kernel) ⟨by decide, by decide⟩ ⟨by decide, by decide⟩ ⟨by decide, by decide⟩
    have XKh19 : zX h19 (ySN S (yEp S) (S 37 2).toNat) := XKh18.kq BN.v.1 BN.v.2 Ch18 Qh19 (by decide +kernel)
    have XPh19 : zPf h h19 := XPh18.kp Ch18 Qh19 (by decide +kernel)
    refine zwW_p [(1, 0, 2)] (q := 34) (ls' := [(2, 1), (0, v3)]) (st' := [(2, 1)]) (by decide +kernel) rfl ?_
    refine zwW_gc Ch19.1 (kd := 12) (bn := 11) (n := 13) (c := 34) (nx := 37) (by decide +kernel) ?_
    refine zwW_p [(1, 0, 2)] (q := 38) (ls' := [(2, 1), (0, v3)]) (st' := [(2, 1), (2, 34)]) (by decide +kernel) rfl ?_
    refine zwW_gs Ch19.1 (kd := 12) (bn := 0) (n := 13) (t := 0) (lo := 0) (hi := 156) (nx := 41) (by decide +kernel) ?_
    intro v20 ev20 lv20 uv20
    refine zwW_p [(1, 0, 2)] (q := 42) (ls' := [(2, 1), (0, v3)]) (st' := [(2, 1), (0, v20), (2, 34)]) (by decide +kernel) rfl ?_
    refine zwW_cm Ch19.1 (op := 60) (k' := 190) (n := 0) (kd := 12) (m := 13) (nx := 45) (r := 1) (tl := []) (st' := [(0, v20), (2, 34)]) (by decide +kernel) rfl (by decide +kernel) rfl (x190 h19 Ch19) ?_
    rintro v21 _ ⟨rfl, f22⟩
    refine zwW_p [(1, 1, 0), (1, 0, 2)] (q := 47) (ls' := [(2, 1), (0, v3)]) (st' := [(2, 1), (0, v3), (0, v21), (0, v20), (2, 34)]) (by decide +kernel) rfl ?_
    refine zwW_cm Ch19.1 (op := 60) (k' := 191) (n := 0) (kd := 12) (m := 13) (nx := 50) (r := 1) (tl := []) (st' := [(0, v3), (0, v21), (0, v20), (2, 34)]) (by decide +kernel) rfl (by decide +kernel) rfl (x191 h19 Ch19) ?_
    rintro v23 _ ⟨rfl, f24⟩
    refine zwW_cmv Ch19.1 (op := 60) (k' := 192) (n := 4) (kd := 5) (m := 4) (nx := 53) (r := 34) (tl := [(0, v20), (0, v21), (0, v3), (0, v23)]) (st' := []) (by decide +kernel) rfl (by decide +kernel) rfl (x192 h19 Ch19 v20 v21 v3 v23 (by omega) (by omega) (by omega) (by omega) (by omega)) ?_
    rintro h25 ⟨Ch25, Qh25⟩
    have Xh25 : zXR msx113_s (0) (0) h h25 := Xh19.tr (c2 := 0) (s2 := 0) Qh25 (by decide +kernel) (by decide) (by decide)
    have th25_1_0 : fld h25 1 0 = fld h19 1 0 := Qh25.f (a1 := 1) (a2 := 1) (j1 := 0) (j2 := 1) (by decide +kernel) ⟨by decide, by decide⟩ ⟨by decide, by decide⟩ ⟨by decide, by decide⟩
    have XKh25 : zX h25 (ySN S (yEp S) (S 37 2).toNat) := XKh19.kq BN.v.1 BN.v.2 Ch19 Qh25 (by decide +kernel)
    have XPh25 : zPf h h25 := XPh19.kp Ch19 Qh25 (by decide +kernel)
    refine zwW_p [(1, 0, 2), (12, 0, 0)] (q := 55) (ls' := [(2, 1), (0, v3)]) (st' := [(2, 1), (2, 1)]) (by decide +kernel) rfl ?_
    refine zwW_gs Ch25.1 (kd := 12) (bn := 0) (n := 13) (t := 0) (lo := 0) (hi := 156) (nx := 58) (by decide +kernel) ?_
    intro v26 ev26 lv26 uv26
    refine zwW_p [(0, 1, 0)] (q := 59) (ls' := [(2, 1), (0, v3)]) (st' := [(0, 1), (0, v26), (2, 1)]) (by decide +kernel) rfl ?_
    refine zwW_add (nx := 60) (by decide +kernel) ⟨by omega, by omega⟩ ?_
    have X60 := XKh25
    refine zwW_ps Ch25.1 (kd := 12) (bn := 0) (n := 13) (lo := 0) (hi := 156) (nx := 63) (by decide +kernel) ⟨by omega, by omega⟩ ?_
    intro h27 eh27 Ih27
    have Ch27 : CI h27 := Ch25.wc eh27 Ih27 (by decide) (by decide)
    have Qh27 : zXR [(1, 1, 0, 1)] 0 0 h25 h27 := zXR.wc eh27 rfl ⟨by decide, by decide, Or.inl (by decide)⟩ ⟨by decide, by decide⟩
    have Xh27 : zXR msx113_s (0) (0) h h27 := Xh25.tr (c2 := 0) (s2 := 0) Qh27 (by decide +kernel) (by decide) (by decide)
    have XPh27 : zPf h h27 := XPh25.kp Ch25 Qh27 (by decide +kernel)
    have th27_1_0 : fld h27 1 0 = (v26 + 1) := by rw [eh27]; exact fld_wr_eq (Ch25.1.s (a1 := 1) (a2 := 1) (k := 12) (n := 13) (by decide +kernel) (by decide) (by decide)) (by decide)
    have X63 := X60.now BN Ch25 eh27 Qh27 (Ch25.1.s (a1 := 1) (a2 := 1) (k := 12) (n := 13) (by decide +kernel) (by decide) (by decide))
    refine zwW_p [(1, 0, 2)] (q := 64) (ls' := [(2, 1), (0, v3)]) (st' := [(2, 1)]) (by decide +kernel) rfl ?_
    refine zwW_cmv Ch27.1 (op := 60) (k' := 193) (n := 0) (kd := 12) (m := 13) (nx := 67) (r := 1) (tl := []) (st' := []) (by decide +kernel) rfl (by decide +kernel) rfl (x193 h27 Ch27) ?_
    rintro h28 ⟨Ch28, Qh28⟩
    have Xh28 : zXR msx113_s (0) (0) h h28 := Xh27.tr (c2 := 0) (s2 := 0) Qh28 (by decide +kernel) (by decide) (by decide)
    have th28_1_0 : fld h28 1 0 = fld h27 1 0 := Qh28.f (a1 := 1) (a2 := 1) (j1 := 0) (j2 := 1) (by decide +kernel) ⟨by decide, by decide⟩ ⟨by decide, by decide⟩ ⟨by decide, by decide⟩
    have XKh28 : zX h28 (zs (ySN S (yEp S) (S 37 2).toNat) 37 0 (v26 + 1)) := X63.kq BN.v.1 BN.v.2 Ch27 Qh28 (by decide +kernel)
    have XPh28 : zPf h h28 := XPh27.kp Ch27 Qh28 (by decide +kernel)
    refine zwW_retv (nx := 68) (a := 0) (b := 0) (by decide +kernel) ?_
    exact ⟨Ch28, Xh28.le (by decide) (by decide), by unfold yWk; rw [show S 37 0 + 1 = (v26 + 1) by omega]; exact XKh28, by exact XPh28, by omega⟩
def msx19_s : Zms := [(1, 1, 0, 1), (1, 1, 1, 2), (4, 4, 0, 3), (17, 17, 0, 13), (18, 18, 0, 400), (34, 34, 2, 3), (35, 35, 0, 936), (36, 36, 0, 8), (1004, 1004, 6, 7), (1004, 1004, 8, 9), (1004, 1004, 9, 10), (1004, 1004, 10, 11), (1004, 1004, 14, 15), (1004, 1004, 15, 16), (1004, 1004, 18, 19), (1011, 1011, 3, 4), (1011, 1011, 4, 5), (1011, 1011, 5, 6), (1011, 1011, 6, 7), (1011, 1011, 7, 8), (1011, 1011, 9, 10), (1011, 1011, 10, 11), (1011, 1011, 13, 14), (1011, 1011, 14, 15), (1011, 1011, 15, 16), (1020, 1020, 0, 100000)]
-- WheelLand.go(I)I
theorem x19_s {sc : List Int} (h : Hp) (C : CI h) (a : Int) (S : zT) (q_a : -2147483648 ≤ a ∧ a ≤ 2147483647) (X0 : zX h S) (B0 : zBs S) (hl : h.length ≤ 999910000) : zwC sc 9 19 [(2, 1), (0, a)] h (zwRt 0 (fun x g => CI g ∧ zXR msx19_s (0) (0) h g ∧ (-2147483648 ≤ x ∧ x ≤ 2147483647) ∧ ((0 ≤ a ∧ a ≤ 26 ∧ x = min 156 (fld h 1 0 + a) ∧ fld g 1 0 = x ∧ zX g (yGo S a.toNat) ∧ zPf h g) ∨ (x = -1 ∧ g = h ∧ (a < 0 ∨ 26 < a))))) := by
  refine zwC_of (D := 8) 3 (by decide +kernel) rfl (ls := [(2, 1), (0, a), (9, 0)]) rfl ?_
  have X : zXR msx19_s 0 0 h h := zXR.rf _ _
  refine zwW_p [(1, 1, 0), (0, 0, 0), (0, 26, 0)] (q := 4) (ls' := [(2, 1), (0, a), (9, 0)]) (st' := [(0, 26), (0, 0), (0, a)]) (by decide +kernel) rfl ?_
  refine zwW_cs (k' := 98) (n := 3) (nx := 7) (as := [(0, a), (0, 0), (0, 26)]) (st' := []) (by decide +kernel) rfl (x98 h C a 0 26 (by omega) (by omega) (by omega)) rfl ?_
  rintro x _ ⟨rfl, ⟨rfl, c1⟩ | ⟨rfl, c1⟩⟩
  · refine zwif_eq (q := 12) (nx := 10) (by decide +kernel) (fun c2 => ?_) (fun c2 => ?_)
    · exfalso; omega
    · refine zwW_p [(0, -1, 0)] (q := 11) (ls' := [(2, 1), (0, a), (9, 0)]) (st' := [(0, -1)]) (by decide +kernel) rfl ?_
      refine zwW_ret (nx := 12) (a := 0) (b := 0) (by decide +kernel) rfl (Or.inl rfl) ?_
      exact ⟨C, X.le (by decide) (by decide), by omega, by first | exact Or.inr ⟨by omega, rfl, by omega⟩ | (refine Or.inl ⟨by omega, by omega, by omega, by omega, ?_, {i14_3}⟩; obtain ⟨d, hd⟩ : ∃ d : Nat, a.toNat = ({k}).toNat + d := ⟨a.toNat - ({k}).toNat, by omega⟩; rw [hd]; first | (have z0 : d = 0 := (by omega); subst z0; exact {i14_2}) | (rw [yGo_stop (by have q := {i14_2}.1.2.2.2; omega)]; exact {i14_2}))⟩
  · refine zwif_eq (q := 12) (nx := 10) (by decide +kernel) (fun c3 => ?_) (fun c3 => ?_)
    · refine zwW_p [(0, 0, 0), (2, 2, 0)] (q := 14) (ls' := [(2, 1), (0, a), (0, 0)]) (st' := []) (by decide +kernel) rfl ?_
      have L4 : ∀ (n : Nat) (kL4 : Int) (hL4 : Hp), n = ((1000 - kL4)).toNat → (kL4 ≤ a) → (fld hL4 1 0 = fld h 1 0 + kL4) → (zX hL4 (yGo S (kL4).toNat)) → (zPf h hL4) → (0 ≤ kL4 ∧ kL4 ≤ 26) → CI hL4 → zXR msx19_s (0) (0) h hL4 → zwW sc (8) 19 14 [(2, 1), (0, a), (0, kL4)] [] hL4 (zwRt 0 (fun x g => CI g ∧ zXR msx19_s (0) (0) h g ∧ (-2147483648 ≤ x ∧ x ≤ 2147483647) ∧ ((0 ≤ a ∧ a ≤ 26 ∧ x = min 156 (fld h 1 0 + a) ∧ fld g 1 0 = x ∧ zX g (yGo S a.toNat) ∧ zPf h g) ∨ (x = -1 ∧ g = h ∧ (a < 0 ∨ 26 < a))))) := by
        intro n
        induction n using Nat.strongRecOn with
        | ind n IHL4 =>
          intro kL4 hL4 hnL4 iL4_0 iL4_1 iL4_2 iL4_3 iL4_4 ChL4 XhL4
          refine zwW_p [(1, 2, 0), (1, 1, 0)] (q := 16) (ls' := [(2, 1), (0, a), (0, kL4)]) (st' := [(0, a), (0, kL4)]) (by decide +kernel) rfl ?_
          refine zwic_ge (q := 39) (nx := 19) (by decide +kernel) (fun c5 => ?_) (fun c5 => ?_)
          · refine zwW_p [(1, 0, 2)] (q := 40) (ls' := [(2, 1), (0, a), (0, kL4)]) (st' := [(2, 1)]) (by decide +kernel) rfl ?_
            refine zwW_gs ChL4.1 (kd := 12) (bn := 0) (n := 13) (t := 0) (lo := 0) (hi := 156) (nx := 43) (by decide +kernel) ?_
            intro v6 ev6 lv6 uv6
            refine zwW_ret (nx := 44) (a := 0) (b := 0) (by decide +kernel) rfl (Or.inl rfl) ?_
            exact ⟨ChL4, XhL4.le (by decide) (by decide), by omega, by first | exact Or.inr ⟨by omega, rfl, by omega⟩ | (refine Or.inl ⟨by omega, by omega, by omega, by omega, ?_, iL4_3⟩; obtain ⟨d, hd⟩ : ∃ d : Nat, a.toNat = (kL4).toNat + d := ⟨a.toNat - (kL4).toNat, by omega⟩; rw [hd]; first | (have z0 : d = 0 := (by omega); subst z0; exact iL4_2) | (rw [yGo_stop (by have q := iL4_2.1.2.2.2; omega)]; exact iL4_2))⟩
          · refine zwW_p [(1, 0, 2)] (q := 20) (ls' := [(2, 1), (0, a), (0, kL4)]) (st' := [(2, 1)]) (by decide +kernel) rfl ?_
            refine zwW_gs ChL4.1 (kd := 12) (bn := 0) (n := 13) (t := 0) (lo := 0) (hi := 156) (nx := 23) (by decide +kernel) ?_
            intro v7 ev7 lv7 uv7
            refine zwW_p [(0, 156, 0)] (q := 26) (ls' := [(2, 1), (0, a), (0, kL4)]) (st' := [(0, 156), (0, v7)]) (by decide +kernel) rfl ?_
            refine zwic_ge (q := 39) (nx := 29) (by decide +kernel) (fun c8 => ?_) (fun c8 => ?_)
            · refine zwW_p [(1, 0, 2)] (q := 40) (ls' := [(2, 1), (0, a), (0, kL4)]) (st' := [(2, 1)]) (by decide +kernel) rfl ?_
              refine zwW_gs ChL4.1 (kd := 12) (bn := 0) (n := 13) (t := 0) (lo := 0) (hi := 156) (nx := 43) (by decide +kernel) ?_
              intro v9 ev9 lv9 uv9
              refine zwW_ret (nx := 44) (a := 0) (b := 0) (by decide +kernel) rfl (Or.inl rfl) ?_
              exact ⟨ChL4, XhL4.le (by decide) (by decide), by omega, by first | exact Or.inr ⟨by omega, rfl, by omega⟩ | (refine Or.inl ⟨by omega, by omega, by omega, by omega, ?_, iL4_3⟩; obtain ⟨d, hd⟩ : ∃ d : Nat, a.toNat = (kL4).toNat + d := ⟨a.toNat - (kL4).toNat, by omega⟩; rw [hd]; first | (have z0 : d = 0 := (by omega); subst z0; exact iL4_2) | (rw [yGo_stop (by have q := iL4_2.1.2.2.2; omega)]; exact iL4_2))⟩
            · refine zwW_p [(1, 0, 2)] (q := 30) (ls' := [(2, 1), (0, a), (0, kL4)]) (st' := [(2, 1)]) (by decide +kernel) rfl ?_
              refine zwW_cmv ChL4.1 (op := 60) (k' := 113) (n := 0) (kd := 12) (m := 13) (nx := 33) (r := 1) (tl := []) (st' := []) (by decide +kernel) rfl (by decide +kernel) rfl (x113_s hL4 ChL4 (yGo S (kL4).toNat) (by omega) iL4_2 (B0.go (kL4).toNat) (by have := XhL4.hl C ChL4 (by decide) hl; omega)) ?_
              rintro h13 ⟨Ch13, Qh13, f10, f11, f12⟩
              have Xh13 : zXR msx19_s (0) (0) h h13 := XhL4.tr (c2 := 0) (s2 := 0) Qh13 (by decide +kernel) (by decide) (by decide)
              refine zwW_inc (i := 2) (c := 1) (x := kL4) (nx := 36) (by decide +kernel) rfl ⟨by omega, by omega⟩ (ls' := [(2, 1), (0, a), (0, (kL4 + 1))]) rfl ?_
              refine zwW_p [(24, 14, 0)] (q := 14) (ls' := [(2, 1), (0, a), (0, (kL4 + 1))]) (st' := []) (by decide +kernel) rfl ?_
              exact IHL4 ((1000 - (kL4 + 1))).toNat (by omega) (kL4 + 1) h13 rfl (by omega) (by omega) (by rw [show (kL4 + 1).toNat = (kL4).toNat + 1 by omega, yGo_step (by have q := iL4_2.1.2.2.2; omega)]; exact f10) (iL4_3.tr f11) (by omega) Ch13 (Xh13.le (by decide) (by decide))
      exact L4 _ 0 h rfl (by omega) (by omega) (X0) (zPf.rf) (by omega) C (X.le (by decide) (by decide))
    · exfalso; omega
